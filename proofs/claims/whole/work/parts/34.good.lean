/-! Which rows are GOOD -/
def bz (b : Bool) : Int32 := if b = true then 1 else 0
theorem bz_f {b : Bool} (h : bz b = 0) : b = false := by cases b <;> first | rfl | exact absurd h (by decide)
theorem bz_t {b : Bool} (h : ¬ bz b = 0) : b = true := by cases b <;> first | rfl | exact absurd rfl h
theorem bz_01 (b : Bool) : bz b = 0 ∨ bz b = 1 := by cases b <;> simp [bz]
theorem bz_fin {Q : Int32 → bm_H → Prop} {B : bm_H} {b : Bool} {v : Int32} (kk : Q (bz b) B) (h : bz b = v) : Q v B := h ▸ kk
def ib_dev (i : Int32) : Bool := !decide (i < 0) && !decide (6 ≤ i)
def ib_grp (i : Int32) : Bool := !decide (i < 0) && !decide (4 ≤ i)
def ib_idx (i : Int32) : Bool := !decide (i < 0) && !decide (10000 ≤ i)
/-- numbers as a GOOD ROW of a KIND has them -/
def gn (k : Nat) (a b c d : Int32) : Bool := match k with
  | 1 => ib_dev a && decide (c = 0) && decide (d = 0)
  | 2 => ib_dev a && decide (c = 0) && decide (d = 0)
  | 3 => ib_dev a && ib_dev b && ib_idx c && ib_idx d
  | 4 => decide (a = 0) && decide (b = 0) && decide (c = 0) && decide (d = 0)
  | 5 => ib_grp a && !decide (b < 1) && ib_idx c && decide (d = 0)
  | 6 => ib_grp a && !decide (b < 1) && !decide (c < 0) && !decide (64 ≤ c) && decide (d = 0)
  | _ => ib_grp a && ib_dev b && !decide (c < 1) && ib_idx d
/-- terms as a GOOD ROW of a KIND has them; ka .. their kinds -/
def gp (k : Nat) (a b c d ka kb kc kd : Int32) : Bool := match k with
  | 3 => decide (ka = 2) && decide (kb = 2) && ((decide (kc = 2) && (decide (d = 0) || decide (kd = 2))) || (decide (c = 0) && decide (d = 0)))
  | 1 => decide (c = 0) && decide (d = 0) && decide (ka = 2) && decide (b = 0)
  | 2 => decide (c = 0) && decide (d = 0) && decide (ka = 2) && decide (b = 0)
  | 4 => decide (c = 0) && decide (d = 0) && !decide (a = 0) && decide (b = 0)
  | 5 => decide (c = 0) && decide (d = 0) && !decide (a = 0) && decide (kb = 2)
  | _ => decide (c = 0) && decide (d = 0) && decide (a = 0) && decide (b = 0)
def te_gn (B : bm_H) (ca sz : Nat) (t : Int32) (k : Nat) : Bool := gn k (te_gt2 B ca sz t 0 2) (te_gt2 B ca sz t 1 2) (te_gt2 B ca sz t 2 2) (te_gt2 B ca sz t 3 2)
def te_gp (B : bm_H) (ca sz : Nat) (t : Int32) (k : Nat) : Bool := gp k (te_gt2 B ca sz t 0 6) (te_gt2 B ca sz t 1 6) (te_gt2 B ca sz t 2 6) (te_gt2 B ca sz t 3 6) (te_get B ca sz (te_gt2 B ca sz t 0 6) 0) (te_get B ca sz (te_gt2 B ca sz t 1 6) 0) (te_get B ca sz (te_gt2 B ca sz t 2 6) 0) (te_get B ca sz (te_gt2 B ca sz t 3 6) 0)
def te_good (B : bm_H) (ca sz : Nat) (t : Int32) (k : Nat) : Bool := decide (te_get B ca sz t 0 = 7) && decide (te_get B ca sz t 1 = nI k) && te_gn B ca sz t k && te_gp B ca sz t k
set_option maxRecDepth 100000 in
theorem k_Ho_isDevice {sc : tm_X} {d : Nat} {B : bm_H} {i : Int32} {Q : Int32 → bm_H → Prop} (kk : Q (bz (ib_dev i)) B) : bm_Gi sc d 31 [.int i] B Q := by
  show bm_G sc d 31 0 [(0, .int i)] [] B _
  generalize elv : ([(0, .int i)] : tm_L) = lv
  have l0 : lv.lookup 0 = some (.int i) := by rw [← elv]; rfl
  clear elv
  refine g_ild (pc' := 1) cd_Ho_isDevice rfl (Or.inr ⟨_, rfl, rfl, rfl⟩) l0 rfl ?_
  refine g_if1 (t := 14) (pc' := 4) cd_Ho_isDevice rfl rfl rfl (fun c1 => ?_) (fun c1 => ?_)
  · have c1 : i < 0 := c1
    refine g_k1 (v := 0) (pc' := 15) cd_Ho_isDevice rfl (by decide) rfl ?_
    exact g_retz cd_Ho_isDevice rfl (Or.inl rfl) ⟨_, rfl, bz_fin kk (by simp [ib_dev, bz, c1])⟩
  · have c1 : ¬ i < 0 := c1
    refine g_ild (pc' := 5) cd_Ho_isDevice rfl (Or.inr ⟨_, rfl, rfl, rfl⟩) l0 rfl ?_
    refine g_k2 (v := 6) (pc' := 7) cd_Ho_isDevice rfl (by decide) rfl ?_
    refine g_if2 (t := 14) (pc' := 10) cd_Ho_isDevice rfl rfl rfl (fun c7 => ?_) (fun c7 => ?_)
    · have c7 : (6 : Int32) ≤ i := c7
      refine g_k1 (v := 0) (pc' := 15) cd_Ho_isDevice rfl (by decide) rfl ?_
      exact g_retz cd_Ho_isDevice rfl (Or.inl rfl) ⟨_, rfl, bz_fin kk (by simp [ib_dev, bz, c1, c7])⟩
    · have c7 : ¬ (6 : Int32) ≤ i := c7
      refine g_k1 (v := 1) (pc' := 11) cd_Ho_isDevice rfl (by decide) rfl ?_
      refine g_pure (pc' := 15) (st' := [.int 1]) cd_Ho_isDevice rfl rfl (fun _ _ => rfl) ?_
      exact g_retz cd_Ho_isDevice rfl (Or.inr rfl) ⟨_, rfl, bz_fin kk (by simp [ib_dev, bz, c1, c7])⟩
set_option maxRecDepth 100000 in
theorem k_Ho_isGroup {sc : tm_X} {d : Nat} {B : bm_H} {i : Int32} {Q : Int32 → bm_H → Prop} (kk : Q (bz (ib_grp i)) B) : bm_Gi sc d 73 [.int i] B Q := by
  show bm_G sc d 73 0 [(0, .int i)] [] B _
  generalize elv : ([(0, .int i)] : tm_L) = lv
  have l0 : lv.lookup 0 = some (.int i) := by rw [← elv]; rfl
  clear elv
  refine g_ild (pc' := 1) cd_Ho_isGroup rfl (Or.inr ⟨_, rfl, rfl, rfl⟩) l0 rfl ?_
  refine g_if1 (t := 13) (pc' := 4) cd_Ho_isGroup rfl rfl rfl (fun c1 => ?_) (fun c1 => ?_)
  · have c1 : i < 0 := c1
    refine g_k1 (v := 0) (pc' := 14) cd_Ho_isGroup rfl (by decide) rfl ?_
    exact g_retz cd_Ho_isGroup rfl (Or.inl rfl) ⟨_, rfl, bz_fin kk (by simp [ib_grp, bz, c1])⟩
  · have c1 : ¬ i < 0 := c1
    refine g_ild (pc' := 5) cd_Ho_isGroup rfl (Or.inr ⟨_, rfl, rfl, rfl⟩) l0 rfl ?_
    refine g_k1 (v := 4) (pc' := 6) cd_Ho_isGroup rfl (by decide) rfl ?_
    refine g_if2 (t := 13) (pc' := 9) cd_Ho_isGroup rfl rfl rfl (fun c6 => ?_) (fun c6 => ?_)
    · have c6 : (4 : Int32) ≤ i := c6
      refine g_k1 (v := 0) (pc' := 14) cd_Ho_isGroup rfl (by decide) rfl ?_
      exact g_retz cd_Ho_isGroup rfl (Or.inl rfl) ⟨_, rfl, bz_fin kk (by simp [ib_grp, bz, c1, c6])⟩
    · have c6 : ¬ (4 : Int32) ≤ i := c6
      refine g_k1 (v := 1) (pc' := 10) cd_Ho_isGroup rfl (by decide) rfl ?_
      refine g_pure (pc' := 14) (st' := [.int 1]) cd_Ho_isGroup rfl rfl (fun _ _ => rfl) ?_
      exact g_retz cd_Ho_isGroup rfl (Or.inr rfl) ⟨_, rfl, bz_fin kk (by simp [ib_grp, bz, c1, c6])⟩
set_option maxRecDepth 100000 in
theorem k_Te_isIndex {sc : tm_X} {d : Nat} {B : bm_H} {i : Int32} {Q : Int32 → bm_H → Prop} (kk : Q (bz (ib_idx i)) B) : bm_Gi sc d 72 [.int i] B Q := by
  show bm_G sc d 72 0 [(0, .int i)] [] B _
  generalize elv : ([(0, .int i)] : tm_L) = lv
  have l0 : lv.lookup 0 = some (.int i) := by rw [← elv]; rfl
  clear elv
  refine g_ild (pc' := 1) cd_Te_isIndex rfl (Or.inr ⟨_, rfl, rfl, rfl⟩) l0 rfl ?_
  refine g_if1 (t := 15) (pc' := 4) cd_Te_isIndex rfl rfl rfl (fun c1 => ?_) (fun c1 => ?_)
  · have c1 : i < 0 := c1
    refine g_k1 (v := 0) (pc' := 16) cd_Te_isIndex rfl (by decide) rfl ?_
    exact g_retz cd_Te_isIndex rfl (Or.inl rfl) ⟨_, rfl, bz_fin kk (by simp [ib_idx, bz, c1])⟩
  · have c1 : ¬ i < 0 := c1
    refine g_ild (pc' := 5) cd_Te_isIndex rfl (Or.inr ⟨_, rfl, rfl, rfl⟩) l0 rfl ?_
    refine g_k3 (v := 10000) (pc' := 8) cd_Te_isIndex rfl (by decide) rfl ?_
    refine g_if2 (t := 15) (pc' := 11) cd_Te_isIndex rfl rfl rfl (fun c8 => ?_) (fun c8 => ?_)
    · have c8 : (10000 : Int32) ≤ i := c8
      refine g_k1 (v := 0) (pc' := 16) cd_Te_isIndex rfl (by decide) rfl ?_
      exact g_retz cd_Te_isIndex rfl (Or.inl rfl) ⟨_, rfl, bz_fin kk (by simp [ib_idx, bz, c1, c8])⟩
    · have c8 : ¬ (10000 : Int32) ≤ i := c8
      refine g_k1 (v := 1) (pc' := 12) cd_Te_isIndex rfl (by decide) rfl ?_
      refine g_pure (pc' := 16) (st' := [.int 1]) cd_Te_isIndex rfl rfl (fun _ _ => rfl) ?_
      exact g_retz cd_Te_isIndex rfl (Or.inr rfl) ⟨_, rfl, bz_fin kk (by simp [ib_idx, bz, c1, c8])⟩
set_option maxRecDepth 100000 in
theorem k_Te_hasGoodNumbers_1 {sc : tm_X} {d : Nat} {B : bm_H} {a ca ba da rm sz dr : Nat} {t : Int32} {Q : Int32 → bm_H → Prop} (hT : te_ok B a ca ba da rm sz dr) (kk : Q (bz (te_gn B ca sz t 1)) B) : bm_Gi sc (d + 1) 70 [.ref a, .int t, .int 1] B Q := by
  unfold te_gn at kk
  show bm_G sc (d + 1) 70 0 [(0, .ref a), (1, .int t), (2, .int 1)] [] B _
  generalize elv : ([(0, .ref a), (1, .int t), (2, .int 1)] : tm_L) = lv
  have l0 : lv.lookup 0 = some (.ref a) := by rw [← elv]; rfl
  have l1 : lv.lookup 1 = some (.int t) := by rw [← elv]; rfl
  have l2 : lv.lookup 2 = some (.int 1) := by rw [← elv]; rfl
  clear elv
  refine g_ald (pc' := 1) cd_Te_hasGoodNumbers rfl (Or.inr ⟨_, rfl, rfl, rfl⟩) l0 rfl rfl ?_
  refine g_ild (pc' := 2) cd_Te_hasGoodNumbers rfl (Or.inr ⟨_, rfl, rfl, rfl⟩) l1 rfl ?_
  refine g_k1 (v := 0) (pc' := 3) cd_Te_hasGoodNumbers rfl (by decide) rfl ?_
  refine g_calli (pc' := 6) cd_Te_hasGoodNumbers rfl rfl rfl rfl rfl (tm_invV rfl rfl cd_Te_numberOf rfl (Nat.le_of_ble_eq_true rfl) (by decide) hT.1.1 hT.1.2) (k_Te_numberOf hT ?_)
  generalize hx0 : te_gt2 B ca sz t 0 2 = x0
  try rw [hx0] at kk
  show bm_G _ _ _ 6 _ [.int x0] B _
  refine g_ist (pc' := 7) cd_Te_hasGoodNumbers rfl (Or.inr ⟨_, rfl, rfl, rfl⟩) (by decide) rfl (fun lv el => ?_)
  have l0 := tm_lk el l0 rfl (by decide)
  have l1 := tm_lk el l1 rfl (by decide)
  have l2 := tm_lk el l2 rfl (by decide)
  have l3 : lv.lookup 3 = some (.int x0) := tm_lks el
  clear el
  refine g_ald (pc' := 8) cd_Te_hasGoodNumbers rfl (Or.inr ⟨_, rfl, rfl, rfl⟩) l0 rfl rfl ?_
  refine g_ild (pc' := 9) cd_Te_hasGoodNumbers rfl (Or.inr ⟨_, rfl, rfl, rfl⟩) l1 rfl ?_
  refine g_k1 (v := 1) (pc' := 10) cd_Te_hasGoodNumbers rfl (by decide) rfl ?_
  refine g_calli (pc' := 13) cd_Te_hasGoodNumbers rfl rfl rfl rfl rfl (tm_invV rfl rfl cd_Te_numberOf rfl (Nat.le_of_ble_eq_true rfl) (by decide) hT.1.1 hT.1.2) (k_Te_numberOf hT ?_)
  generalize hx1 : te_gt2 B ca sz t 1 2 = x1
  try rw [hx1] at kk
  show bm_G _ _ _ 13 _ [.int x1] B _
  refine g_ist (pc' := 15) cd_Te_hasGoodNumbers rfl (Or.inl ⟨rfl, rfl⟩) (by decide) rfl (fun lv el => ?_)
  have l0 := tm_lk el l0 rfl (by decide)
  have l1 := tm_lk el l1 rfl (by decide)
  have l2 := tm_lk el l2 rfl (by decide)
  have l3 := tm_lk el l3 rfl (by decide)
  have l4 : lv.lookup 4 = some (.int x1) := tm_lks el
  clear el
  refine g_ald (pc' := 16) cd_Te_hasGoodNumbers rfl (Or.inr ⟨_, rfl, rfl, rfl⟩) l0 rfl rfl ?_
  refine g_ild (pc' := 17) cd_Te_hasGoodNumbers rfl (Or.inr ⟨_, rfl, rfl, rfl⟩) l1 rfl ?_
  refine g_k1 (v := 2) (pc' := 18) cd_Te_hasGoodNumbers rfl (by decide) rfl ?_
  refine g_calli (pc' := 21) cd_Te_hasGoodNumbers rfl rfl rfl rfl rfl (tm_invV rfl rfl cd_Te_numberOf rfl (Nat.le_of_ble_eq_true rfl) (by decide) hT.1.1 hT.1.2) (k_Te_numberOf hT ?_)
  generalize hx2 : te_gt2 B ca sz t 2 2 = x2
  try rw [hx2] at kk
  show bm_G _ _ _ 21 _ [.int x2] B _
  refine g_ist (pc' := 23) cd_Te_hasGoodNumbers rfl (Or.inl ⟨rfl, rfl⟩) (by decide) rfl (fun lv el => ?_)
  have l0 := tm_lk el l0 rfl (by decide)
  have l1 := tm_lk el l1 rfl (by decide)
  have l2 := tm_lk el l2 rfl (by decide)
  have l3 := tm_lk el l3 rfl (by decide)
  have l4 := tm_lk el l4 rfl (by decide)
  have l5 : lv.lookup 5 = some (.int x2) := tm_lks el
  clear el
  refine g_ald (pc' := 24) cd_Te_hasGoodNumbers rfl (Or.inr ⟨_, rfl, rfl, rfl⟩) l0 rfl rfl ?_
  refine g_ild (pc' := 25) cd_Te_hasGoodNumbers rfl (Or.inr ⟨_, rfl, rfl, rfl⟩) l1 rfl ?_
  refine g_k1 (v := 3) (pc' := 26) cd_Te_hasGoodNumbers rfl (by decide) rfl ?_
  refine g_calli (pc' := 29) cd_Te_hasGoodNumbers rfl rfl rfl rfl rfl (tm_invV rfl rfl cd_Te_numberOf rfl (Nat.le_of_ble_eq_true rfl) (by decide) hT.1.1 hT.1.2) (k_Te_numberOf hT ?_)
  generalize hx3 : te_gt2 B ca sz t 3 2 = x3
  try rw [hx3] at kk
  show bm_G _ _ _ 29 _ [.int x3] B _
  refine g_ist (pc' := 31) cd_Te_hasGoodNumbers rfl (Or.inl ⟨rfl, rfl⟩) (by decide) rfl (fun lv el => ?_)
  have l0 := tm_lk el l0 rfl (by decide)
  have l1 := tm_lk el l1 rfl (by decide)
  have l2 := tm_lk el l2 rfl (by decide)
  have l3 := tm_lk el l3 rfl (by decide)
  have l4 := tm_lk el l4 rfl (by decide)
  have l5 := tm_lk el l5 rfl (by decide)
  have l6 : lv.lookup 6 = some (.int x3) := tm_lks el
  clear el
  refine g_ild (pc' := 32) cd_Te_hasGoodNumbers rfl (Or.inr ⟨_, rfl, rfl, rfl⟩) l2 rfl ?_
  refine g_pure (pc' := 76) (st' := []) cd_Te_hasGoodNumbers rfl rfl (fun _ _ => rfl) ?_
  refine g_ild (pc' := 77) cd_Te_hasGoodNumbers rfl (Or.inr ⟨_, rfl, rfl, rfl⟩) l3 rfl ?_
  refine g_calli (pc' := 80) cd_Te_hasGoodNumbers rfl rfl rfl rfl rfl (tm_invS rfl rfl cd_Ho_isDevice rfl (Nat.le_of_ble_eq_true rfl)) (k_Ho_isDevice ?_)
  show bm_G _ _ _ 80 _ [.int (bz (ib_dev x0))] B _
  refine g_if1 (t := 97) (pc' := 83) cd_Te_hasGoodNumbers rfl rfl rfl (fun c80 => ?_) (fun c80 => ?_)
  · have c80 : (ib_dev x0) = false := bz_f c80
    refine g_k1 (v := 0) (pc' := 98) cd_Te_hasGoodNumbers rfl (by decide) rfl ?_
    exact g_retz cd_Te_hasGoodNumbers rfl (Or.inl rfl) ⟨_, rfl, bz_fin kk (by simp [gn, bz, c80])⟩
  · have c80 : (ib_dev x0) = true := bz_t c80
    refine g_ild (pc' := 85) cd_Te_hasGoodNumbers rfl (Or.inl ⟨rfl, rfl⟩) l5 rfl ?_
    refine g_if1 (t := 97) (pc' := 88) cd_Te_hasGoodNumbers rfl rfl rfl (fun c85 => ?_) (fun c85 => ?_)
    · have c85 : ¬ x2 = 0 := c85
      refine g_k1 (v := 0) (pc' := 98) cd_Te_hasGoodNumbers rfl (by decide) rfl ?_
      exact g_retz cd_Te_hasGoodNumbers rfl (Or.inl rfl) ⟨_, rfl, bz_fin kk (by simp [gn, bz, c80, c85])⟩
    · have c85 : ¬ (¬ x2 = 0) := c85
      refine g_ild (pc' := 90) cd_Te_hasGoodNumbers rfl (Or.inl ⟨rfl, rfl⟩) l6 rfl ?_
      refine g_if1 (t := 97) (pc' := 93) cd_Te_hasGoodNumbers rfl rfl rfl (fun c90 => ?_) (fun c90 => ?_)
      · have c90 : ¬ x3 = 0 := c90
        refine g_k1 (v := 0) (pc' := 98) cd_Te_hasGoodNumbers rfl (by decide) rfl ?_
        exact g_retz cd_Te_hasGoodNumbers rfl (Or.inl rfl) ⟨_, rfl, bz_fin kk (by simp [gn, bz, c80, c85, c90])⟩
      · have c90 : ¬ (¬ x3 = 0) := c90
        refine g_k1 (v := 1) (pc' := 94) cd_Te_hasGoodNumbers rfl (by decide) rfl ?_
        refine g_pure (pc' := 98) (st' := [.int 1]) cd_Te_hasGoodNumbers rfl rfl (fun _ _ => rfl) ?_
        exact g_retz cd_Te_hasGoodNumbers rfl (Or.inr rfl) ⟨_, rfl, bz_fin kk (by simp [gn, bz, c80, c85, c90])⟩
set_option maxRecDepth 100000 in
theorem k_Te_hasGoodNumbers_2 {sc : tm_X} {d : Nat} {B : bm_H} {a ca ba da rm sz dr : Nat} {t : Int32} {Q : Int32 → bm_H → Prop} (hT : te_ok B a ca ba da rm sz dr) (kk : Q (bz (te_gn B ca sz t 2)) B) : bm_Gi sc (d + 1) 70 [.ref a, .int t, .int 2] B Q := by
  unfold te_gn at kk
  show bm_G sc (d + 1) 70 0 [(0, .ref a), (1, .int t), (2, .int 2)] [] B _
  generalize elv : ([(0, .ref a), (1, .int t), (2, .int 2)] : tm_L) = lv
  have l0 : lv.lookup 0 = some (.ref a) := by rw [← elv]; rfl
  have l1 : lv.lookup 1 = some (.int t) := by rw [← elv]; rfl
  have l2 : lv.lookup 2 = some (.int 2) := by rw [← elv]; rfl
  clear elv
  refine g_ald (pc' := 1) cd_Te_hasGoodNumbers rfl (Or.inr ⟨_, rfl, rfl, rfl⟩) l0 rfl rfl ?_
  refine g_ild (pc' := 2) cd_Te_hasGoodNumbers rfl (Or.inr ⟨_, rfl, rfl, rfl⟩) l1 rfl ?_
  refine g_k1 (v := 0) (pc' := 3) cd_Te_hasGoodNumbers rfl (by decide) rfl ?_
  refine g_calli (pc' := 6) cd_Te_hasGoodNumbers rfl rfl rfl rfl rfl (tm_invV rfl rfl cd_Te_numberOf rfl (Nat.le_of_ble_eq_true rfl) (by decide) hT.1.1 hT.1.2) (k_Te_numberOf hT ?_)
  generalize hx0 : te_gt2 B ca sz t 0 2 = x0
  try rw [hx0] at kk
  show bm_G _ _ _ 6 _ [.int x0] B _
  refine g_ist (pc' := 7) cd_Te_hasGoodNumbers rfl (Or.inr ⟨_, rfl, rfl, rfl⟩) (by decide) rfl (fun lv el => ?_)
  have l0 := tm_lk el l0 rfl (by decide)
  have l1 := tm_lk el l1 rfl (by decide)
  have l2 := tm_lk el l2 rfl (by decide)
  have l3 : lv.lookup 3 = some (.int x0) := tm_lks el
  clear el
  refine g_ald (pc' := 8) cd_Te_hasGoodNumbers rfl (Or.inr ⟨_, rfl, rfl, rfl⟩) l0 rfl rfl ?_
  refine g_ild (pc' := 9) cd_Te_hasGoodNumbers rfl (Or.inr ⟨_, rfl, rfl, rfl⟩) l1 rfl ?_
  refine g_k1 (v := 1) (pc' := 10) cd_Te_hasGoodNumbers rfl (by decide) rfl ?_
  refine g_calli (pc' := 13) cd_Te_hasGoodNumbers rfl rfl rfl rfl rfl (tm_invV rfl rfl cd_Te_numberOf rfl (Nat.le_of_ble_eq_true rfl) (by decide) hT.1.1 hT.1.2) (k_Te_numberOf hT ?_)
  generalize hx1 : te_gt2 B ca sz t 1 2 = x1
  try rw [hx1] at kk
  show bm_G _ _ _ 13 _ [.int x1] B _
  refine g_ist (pc' := 15) cd_Te_hasGoodNumbers rfl (Or.inl ⟨rfl, rfl⟩) (by decide) rfl (fun lv el => ?_)
  have l0 := tm_lk el l0 rfl (by decide)
  have l1 := tm_lk el l1 rfl (by decide)
  have l2 := tm_lk el l2 rfl (by decide)
  have l3 := tm_lk el l3 rfl (by decide)
  have l4 : lv.lookup 4 = some (.int x1) := tm_lks el
  clear el
  refine g_ald (pc' := 16) cd_Te_hasGoodNumbers rfl (Or.inr ⟨_, rfl, rfl, rfl⟩) l0 rfl rfl ?_
  refine g_ild (pc' := 17) cd_Te_hasGoodNumbers rfl (Or.inr ⟨_, rfl, rfl, rfl⟩) l1 rfl ?_
  refine g_k1 (v := 2) (pc' := 18) cd_Te_hasGoodNumbers rfl (by decide) rfl ?_
  refine g_calli (pc' := 21) cd_Te_hasGoodNumbers rfl rfl rfl rfl rfl (tm_invV rfl rfl cd_Te_numberOf rfl (Nat.le_of_ble_eq_true rfl) (by decide) hT.1.1 hT.1.2) (k_Te_numberOf hT ?_)
  generalize hx2 : te_gt2 B ca sz t 2 2 = x2
  try rw [hx2] at kk
  show bm_G _ _ _ 21 _ [.int x2] B _
  refine g_ist (pc' := 23) cd_Te_hasGoodNumbers rfl (Or.inl ⟨rfl, rfl⟩) (by decide) rfl (fun lv el => ?_)
  have l0 := tm_lk el l0 rfl (by decide)
  have l1 := tm_lk el l1 rfl (by decide)
  have l2 := tm_lk el l2 rfl (by decide)
  have l3 := tm_lk el l3 rfl (by decide)
  have l4 := tm_lk el l4 rfl (by decide)
  have l5 : lv.lookup 5 = some (.int x2) := tm_lks el
  clear el
  refine g_ald (pc' := 24) cd_Te_hasGoodNumbers rfl (Or.inr ⟨_, rfl, rfl, rfl⟩) l0 rfl rfl ?_
  refine g_ild (pc' := 25) cd_Te_hasGoodNumbers rfl (Or.inr ⟨_, rfl, rfl, rfl⟩) l1 rfl ?_
  refine g_k1 (v := 3) (pc' := 26) cd_Te_hasGoodNumbers rfl (by decide) rfl ?_
  refine g_calli (pc' := 29) cd_Te_hasGoodNumbers rfl rfl rfl rfl rfl (tm_invV rfl rfl cd_Te_numberOf rfl (Nat.le_of_ble_eq_true rfl) (by decide) hT.1.1 hT.1.2) (k_Te_numberOf hT ?_)
  generalize hx3 : te_gt2 B ca sz t 3 2 = x3
  try rw [hx3] at kk
  show bm_G _ _ _ 29 _ [.int x3] B _
  refine g_ist (pc' := 31) cd_Te_hasGoodNumbers rfl (Or.inl ⟨rfl, rfl⟩) (by decide) rfl (fun lv el => ?_)
  have l0 := tm_lk el l0 rfl (by decide)
  have l1 := tm_lk el l1 rfl (by decide)
  have l2 := tm_lk el l2 rfl (by decide)
  have l3 := tm_lk el l3 rfl (by decide)
  have l4 := tm_lk el l4 rfl (by decide)
  have l5 := tm_lk el l5 rfl (by decide)
  have l6 : lv.lookup 6 = some (.int x3) := tm_lks el
  clear el
  refine g_ild (pc' := 32) cd_Te_hasGoodNumbers rfl (Or.inr ⟨_, rfl, rfl, rfl⟩) l2 rfl ?_
  refine g_pure (pc' := 76) (st' := []) cd_Te_hasGoodNumbers rfl rfl (fun _ _ => rfl) ?_
  refine g_ild (pc' := 77) cd_Te_hasGoodNumbers rfl (Or.inr ⟨_, rfl, rfl, rfl⟩) l3 rfl ?_
  refine g_calli (pc' := 80) cd_Te_hasGoodNumbers rfl rfl rfl rfl rfl (tm_invS rfl rfl cd_Ho_isDevice rfl (Nat.le_of_ble_eq_true rfl)) (k_Ho_isDevice ?_)
  show bm_G _ _ _ 80 _ [.int (bz (ib_dev x0))] B _
  refine g_if1 (t := 97) (pc' := 83) cd_Te_hasGoodNumbers rfl rfl rfl (fun c80 => ?_) (fun c80 => ?_)
  · have c80 : (ib_dev x0) = false := bz_f c80
    refine g_k1 (v := 0) (pc' := 98) cd_Te_hasGoodNumbers rfl (by decide) rfl ?_
    exact g_retz cd_Te_hasGoodNumbers rfl (Or.inl rfl) ⟨_, rfl, bz_fin kk (by simp [gn, bz, c80])⟩
  · have c80 : (ib_dev x0) = true := bz_t c80
    refine g_ild (pc' := 85) cd_Te_hasGoodNumbers rfl (Or.inl ⟨rfl, rfl⟩) l5 rfl ?_
    refine g_if1 (t := 97) (pc' := 88) cd_Te_hasGoodNumbers rfl rfl rfl (fun c85 => ?_) (fun c85 => ?_)
    · have c85 : ¬ x2 = 0 := c85
      refine g_k1 (v := 0) (pc' := 98) cd_Te_hasGoodNumbers rfl (by decide) rfl ?_
      exact g_retz cd_Te_hasGoodNumbers rfl (Or.inl rfl) ⟨_, rfl, bz_fin kk (by simp [gn, bz, c80, c85])⟩
    · have c85 : ¬ (¬ x2 = 0) := c85
      refine g_ild (pc' := 90) cd_Te_hasGoodNumbers rfl (Or.inl ⟨rfl, rfl⟩) l6 rfl ?_
      refine g_if1 (t := 97) (pc' := 93) cd_Te_hasGoodNumbers rfl rfl rfl (fun c90 => ?_) (fun c90 => ?_)
      · have c90 : ¬ x3 = 0 := c90
        refine g_k1 (v := 0) (pc' := 98) cd_Te_hasGoodNumbers rfl (by decide) rfl ?_
        exact g_retz cd_Te_hasGoodNumbers rfl (Or.inl rfl) ⟨_, rfl, bz_fin kk (by simp [gn, bz, c80, c85, c90])⟩
      · have c90 : ¬ (¬ x3 = 0) := c90
        refine g_k1 (v := 1) (pc' := 94) cd_Te_hasGoodNumbers rfl (by decide) rfl ?_
        refine g_pure (pc' := 98) (st' := [.int 1]) cd_Te_hasGoodNumbers rfl rfl (fun _ _ => rfl) ?_
        exact g_retz cd_Te_hasGoodNumbers rfl (Or.inr rfl) ⟨_, rfl, bz_fin kk (by simp [gn, bz, c80, c85, c90])⟩
set_option maxRecDepth 100000 in
theorem k_Te_hasGoodNumbers_3 {sc : tm_X} {d : Nat} {B : bm_H} {a ca ba da rm sz dr : Nat} {t : Int32} {Q : Int32 → bm_H → Prop} (hT : te_ok B a ca ba da rm sz dr) (kk : Q (bz (te_gn B ca sz t 3)) B) : bm_Gi sc (d + 1) 70 [.ref a, .int t, .int 3] B Q := by
  unfold te_gn at kk
  show bm_G sc (d + 1) 70 0 [(0, .ref a), (1, .int t), (2, .int 3)] [] B _
  generalize elv : ([(0, .ref a), (1, .int t), (2, .int 3)] : tm_L) = lv
  have l0 : lv.lookup 0 = some (.ref a) := by rw [← elv]; rfl
  have l1 : lv.lookup 1 = some (.int t) := by rw [← elv]; rfl
  have l2 : lv.lookup 2 = some (.int 3) := by rw [← elv]; rfl
  clear elv
  refine g_ald (pc' := 1) cd_Te_hasGoodNumbers rfl (Or.inr ⟨_, rfl, rfl, rfl⟩) l0 rfl rfl ?_
  refine g_ild (pc' := 2) cd_Te_hasGoodNumbers rfl (Or.inr ⟨_, rfl, rfl, rfl⟩) l1 rfl ?_
  refine g_k1 (v := 0) (pc' := 3) cd_Te_hasGoodNumbers rfl (by decide) rfl ?_
  refine g_calli (pc' := 6) cd_Te_hasGoodNumbers rfl rfl rfl rfl rfl (tm_invV rfl rfl cd_Te_numberOf rfl (Nat.le_of_ble_eq_true rfl) (by decide) hT.1.1 hT.1.2) (k_Te_numberOf hT ?_)
  generalize hx0 : te_gt2 B ca sz t 0 2 = x0
  try rw [hx0] at kk
  show bm_G _ _ _ 6 _ [.int x0] B _
  refine g_ist (pc' := 7) cd_Te_hasGoodNumbers rfl (Or.inr ⟨_, rfl, rfl, rfl⟩) (by decide) rfl (fun lv el => ?_)
  have l0 := tm_lk el l0 rfl (by decide)
  have l1 := tm_lk el l1 rfl (by decide)
  have l2 := tm_lk el l2 rfl (by decide)
  have l3 : lv.lookup 3 = some (.int x0) := tm_lks el
  clear el
  refine g_ald (pc' := 8) cd_Te_hasGoodNumbers rfl (Or.inr ⟨_, rfl, rfl, rfl⟩) l0 rfl rfl ?_
  refine g_ild (pc' := 9) cd_Te_hasGoodNumbers rfl (Or.inr ⟨_, rfl, rfl, rfl⟩) l1 rfl ?_
  refine g_k1 (v := 1) (pc' := 10) cd_Te_hasGoodNumbers rfl (by decide) rfl ?_
  refine g_calli (pc' := 13) cd_Te_hasGoodNumbers rfl rfl rfl rfl rfl (tm_invV rfl rfl cd_Te_numberOf rfl (Nat.le_of_ble_eq_true rfl) (by decide) hT.1.1 hT.1.2) (k_Te_numberOf hT ?_)
  generalize hx1 : te_gt2 B ca sz t 1 2 = x1
  try rw [hx1] at kk
  show bm_G _ _ _ 13 _ [.int x1] B _
  refine g_ist (pc' := 15) cd_Te_hasGoodNumbers rfl (Or.inl ⟨rfl, rfl⟩) (by decide) rfl (fun lv el => ?_)
  have l0 := tm_lk el l0 rfl (by decide)
  have l1 := tm_lk el l1 rfl (by decide)
  have l2 := tm_lk el l2 rfl (by decide)
  have l3 := tm_lk el l3 rfl (by decide)
  have l4 : lv.lookup 4 = some (.int x1) := tm_lks el
  clear el
  refine g_ald (pc' := 16) cd_Te_hasGoodNumbers rfl (Or.inr ⟨_, rfl, rfl, rfl⟩) l0 rfl rfl ?_
  refine g_ild (pc' := 17) cd_Te_hasGoodNumbers rfl (Or.inr ⟨_, rfl, rfl, rfl⟩) l1 rfl ?_
  refine g_k1 (v := 2) (pc' := 18) cd_Te_hasGoodNumbers rfl (by decide) rfl ?_
  refine g_calli (pc' := 21) cd_Te_hasGoodNumbers rfl rfl rfl rfl rfl (tm_invV rfl rfl cd_Te_numberOf rfl (Nat.le_of_ble_eq_true rfl) (by decide) hT.1.1 hT.1.2) (k_Te_numberOf hT ?_)
  generalize hx2 : te_gt2 B ca sz t 2 2 = x2
  try rw [hx2] at kk
  show bm_G _ _ _ 21 _ [.int x2] B _
  refine g_ist (pc' := 23) cd_Te_hasGoodNumbers rfl (Or.inl ⟨rfl, rfl⟩) (by decide) rfl (fun lv el => ?_)
  have l0 := tm_lk el l0 rfl (by decide)
  have l1 := tm_lk el l1 rfl (by decide)
  have l2 := tm_lk el l2 rfl (by decide)
  have l3 := tm_lk el l3 rfl (by decide)
  have l4 := tm_lk el l4 rfl (by decide)
  have l5 : lv.lookup 5 = some (.int x2) := tm_lks el
  clear el
  refine g_ald (pc' := 24) cd_Te_hasGoodNumbers rfl (Or.inr ⟨_, rfl, rfl, rfl⟩) l0 rfl rfl ?_
  refine g_ild (pc' := 25) cd_Te_hasGoodNumbers rfl (Or.inr ⟨_, rfl, rfl, rfl⟩) l1 rfl ?_
  refine g_k1 (v := 3) (pc' := 26) cd_Te_hasGoodNumbers rfl (by decide) rfl ?_
  refine g_calli (pc' := 29) cd_Te_hasGoodNumbers rfl rfl rfl rfl rfl (tm_invV rfl rfl cd_Te_numberOf rfl (Nat.le_of_ble_eq_true rfl) (by decide) hT.1.1 hT.1.2) (k_Te_numberOf hT ?_)
  generalize hx3 : te_gt2 B ca sz t 3 2 = x3
  try rw [hx3] at kk
  show bm_G _ _ _ 29 _ [.int x3] B _
  refine g_ist (pc' := 31) cd_Te_hasGoodNumbers rfl (Or.inl ⟨rfl, rfl⟩) (by decide) rfl (fun lv el => ?_)
  have l0 := tm_lk el l0 rfl (by decide)
  have l1 := tm_lk el l1 rfl (by decide)
  have l2 := tm_lk el l2 rfl (by decide)
  have l3 := tm_lk el l3 rfl (by decide)
  have l4 := tm_lk el l4 rfl (by decide)
  have l5 := tm_lk el l5 rfl (by decide)
  have l6 : lv.lookup 6 = some (.int x3) := tm_lks el
  clear el
  refine g_ild (pc' := 32) cd_Te_hasGoodNumbers rfl (Or.inr ⟨_, rfl, rfl, rfl⟩) l2 rfl ?_
  refine g_pure (pc' := 99) (st' := []) cd_Te_hasGoodNumbers rfl rfl (fun _ _ => rfl) ?_
  refine g_ild (pc' := 100) cd_Te_hasGoodNumbers rfl (Or.inr ⟨_, rfl, rfl, rfl⟩) l3 rfl ?_
  refine g_calli (pc' := 103) cd_Te_hasGoodNumbers rfl rfl rfl rfl rfl (tm_invS rfl rfl cd_Ho_isDevice rfl (Nat.le_of_ble_eq_true rfl)) (k_Ho_isDevice ?_)
  show bm_G _ _ _ 103 _ [.int (bz (ib_dev x0))] B _
  refine g_if1 (t := 134) (pc' := 106) cd_Te_hasGoodNumbers rfl rfl rfl (fun c103 => ?_) (fun c103 => ?_)
  · have c103 : (ib_dev x0) = false := bz_f c103
    refine g_k1 (v := 0) (pc' := 135) cd_Te_hasGoodNumbers rfl (by decide) rfl ?_
    exact g_retz cd_Te_hasGoodNumbers rfl (Or.inl rfl) ⟨_, rfl, bz_fin kk (by simp [gn, bz, c103])⟩
  · have c103 : (ib_dev x0) = true := bz_t c103
    refine g_ild (pc' := 108) cd_Te_hasGoodNumbers rfl (Or.inl ⟨rfl, rfl⟩) l4 rfl ?_
    refine g_calli (pc' := 111) cd_Te_hasGoodNumbers rfl rfl rfl rfl rfl (tm_invS rfl rfl cd_Ho_isDevice rfl (Nat.le_of_ble_eq_true rfl)) (k_Ho_isDevice ?_)
    show bm_G _ _ _ 111 _ [.int (bz (ib_dev x1))] B _
    refine g_if1 (t := 134) (pc' := 114) cd_Te_hasGoodNumbers rfl rfl rfl (fun c111 => ?_) (fun c111 => ?_)
    · have c111 : (ib_dev x1) = false := bz_f c111
      refine g_k1 (v := 0) (pc' := 135) cd_Te_hasGoodNumbers rfl (by decide) rfl ?_
      exact g_retz cd_Te_hasGoodNumbers rfl (Or.inl rfl) ⟨_, rfl, bz_fin kk (by simp [gn, bz, c103, c111])⟩
    · have c111 : (ib_dev x1) = true := bz_t c111
      refine g_ild (pc' := 116) cd_Te_hasGoodNumbers rfl (Or.inl ⟨rfl, rfl⟩) l5 rfl ?_
      refine g_calli (pc' := 119) cd_Te_hasGoodNumbers rfl rfl rfl rfl rfl (tm_invS rfl rfl cd_Te_isIndex rfl (Nat.le_of_ble_eq_true rfl)) (k_Te_isIndex ?_)
      show bm_G _ _ _ 119 _ [.int (bz (ib_idx x2))] B _
      refine g_if1 (t := 134) (pc' := 122) cd_Te_hasGoodNumbers rfl rfl rfl (fun c119 => ?_) (fun c119 => ?_)
      · have c119 : (ib_idx x2) = false := bz_f c119
        refine g_k1 (v := 0) (pc' := 135) cd_Te_hasGoodNumbers rfl (by decide) rfl ?_
        exact g_retz cd_Te_hasGoodNumbers rfl (Or.inl rfl) ⟨_, rfl, bz_fin kk (by simp [gn, bz, c103, c111, c119])⟩
      · have c119 : (ib_idx x2) = true := bz_t c119
        refine g_ild (pc' := 124) cd_Te_hasGoodNumbers rfl (Or.inl ⟨rfl, rfl⟩) l6 rfl ?_
        refine g_calli (pc' := 127) cd_Te_hasGoodNumbers rfl rfl rfl rfl rfl (tm_invS rfl rfl cd_Te_isIndex rfl (Nat.le_of_ble_eq_true rfl)) (k_Te_isIndex ?_)
        show bm_G _ _ _ 127 _ [.int (bz (ib_idx x3))] B _
        refine g_if1 (t := 134) (pc' := 130) cd_Te_hasGoodNumbers rfl rfl rfl (fun c127 => ?_) (fun c127 => ?_)
        · have c127 : (ib_idx x3) = false := bz_f c127
          refine g_k1 (v := 0) (pc' := 135) cd_Te_hasGoodNumbers rfl (by decide) rfl ?_
          exact g_retz cd_Te_hasGoodNumbers rfl (Or.inl rfl) ⟨_, rfl, bz_fin kk (by simp [gn, bz, c103, c111, c119, c127])⟩
        · have c127 : (ib_idx x3) = true := bz_t c127
          refine g_k1 (v := 1) (pc' := 131) cd_Te_hasGoodNumbers rfl (by decide) rfl ?_
          refine g_pure (pc' := 135) (st' := [.int 1]) cd_Te_hasGoodNumbers rfl rfl (fun _ _ => rfl) ?_
          exact g_retz cd_Te_hasGoodNumbers rfl (Or.inr rfl) ⟨_, rfl, bz_fin kk (by simp [gn, bz, c103, c111, c119, c127])⟩
set_option maxRecDepth 100000 in
theorem k_Te_hasGoodNumbers_4 {sc : tm_X} {d : Nat} {B : bm_H} {a ca ba da rm sz dr : Nat} {t : Int32} {Q : Int32 → bm_H → Prop} (hT : te_ok B a ca ba da rm sz dr) (kk : Q (bz (te_gn B ca sz t 4)) B) : bm_Gi sc (d + 1) 70 [.ref a, .int t, .int 4] B Q := by
  unfold te_gn at kk
  show bm_G sc (d + 1) 70 0 [(0, .ref a), (1, .int t), (2, .int 4)] [] B _
  generalize elv : ([(0, .ref a), (1, .int t), (2, .int 4)] : tm_L) = lv
  have l0 : lv.lookup 0 = some (.ref a) := by rw [← elv]; rfl
  have l1 : lv.lookup 1 = some (.int t) := by rw [← elv]; rfl
  have l2 : lv.lookup 2 = some (.int 4) := by rw [← elv]; rfl
  clear elv
  refine g_ald (pc' := 1) cd_Te_hasGoodNumbers rfl (Or.inr ⟨_, rfl, rfl, rfl⟩) l0 rfl rfl ?_
  refine g_ild (pc' := 2) cd_Te_hasGoodNumbers rfl (Or.inr ⟨_, rfl, rfl, rfl⟩) l1 rfl ?_
  refine g_k1 (v := 0) (pc' := 3) cd_Te_hasGoodNumbers rfl (by decide) rfl ?_
  refine g_calli (pc' := 6) cd_Te_hasGoodNumbers rfl rfl rfl rfl rfl (tm_invV rfl rfl cd_Te_numberOf rfl (Nat.le_of_ble_eq_true rfl) (by decide) hT.1.1 hT.1.2) (k_Te_numberOf hT ?_)
  generalize hx0 : te_gt2 B ca sz t 0 2 = x0
  try rw [hx0] at kk
  show bm_G _ _ _ 6 _ [.int x0] B _
  refine g_ist (pc' := 7) cd_Te_hasGoodNumbers rfl (Or.inr ⟨_, rfl, rfl, rfl⟩) (by decide) rfl (fun lv el => ?_)
  have l0 := tm_lk el l0 rfl (by decide)
  have l1 := tm_lk el l1 rfl (by decide)
  have l2 := tm_lk el l2 rfl (by decide)
  have l3 : lv.lookup 3 = some (.int x0) := tm_lks el
  clear el
  refine g_ald (pc' := 8) cd_Te_hasGoodNumbers rfl (Or.inr ⟨_, rfl, rfl, rfl⟩) l0 rfl rfl ?_
  refine g_ild (pc' := 9) cd_Te_hasGoodNumbers rfl (Or.inr ⟨_, rfl, rfl, rfl⟩) l1 rfl ?_
  refine g_k1 (v := 1) (pc' := 10) cd_Te_hasGoodNumbers rfl (by decide) rfl ?_
  refine g_calli (pc' := 13) cd_Te_hasGoodNumbers rfl rfl rfl rfl rfl (tm_invV rfl rfl cd_Te_numberOf rfl (Nat.le_of_ble_eq_true rfl) (by decide) hT.1.1 hT.1.2) (k_Te_numberOf hT ?_)
  generalize hx1 : te_gt2 B ca sz t 1 2 = x1
  try rw [hx1] at kk
  show bm_G _ _ _ 13 _ [.int x1] B _
  refine g_ist (pc' := 15) cd_Te_hasGoodNumbers rfl (Or.inl ⟨rfl, rfl⟩) (by decide) rfl (fun lv el => ?_)
  have l0 := tm_lk el l0 rfl (by decide)
  have l1 := tm_lk el l1 rfl (by decide)
  have l2 := tm_lk el l2 rfl (by decide)
  have l3 := tm_lk el l3 rfl (by decide)
  have l4 : lv.lookup 4 = some (.int x1) := tm_lks el
  clear el
  refine g_ald (pc' := 16) cd_Te_hasGoodNumbers rfl (Or.inr ⟨_, rfl, rfl, rfl⟩) l0 rfl rfl ?_
  refine g_ild (pc' := 17) cd_Te_hasGoodNumbers rfl (Or.inr ⟨_, rfl, rfl, rfl⟩) l1 rfl ?_
  refine g_k1 (v := 2) (pc' := 18) cd_Te_hasGoodNumbers rfl (by decide) rfl ?_
  refine g_calli (pc' := 21) cd_Te_hasGoodNumbers rfl rfl rfl rfl rfl (tm_invV rfl rfl cd_Te_numberOf rfl (Nat.le_of_ble_eq_true rfl) (by decide) hT.1.1 hT.1.2) (k_Te_numberOf hT ?_)
  generalize hx2 : te_gt2 B ca sz t 2 2 = x2
  try rw [hx2] at kk
  show bm_G _ _ _ 21 _ [.int x2] B _
  refine g_ist (pc' := 23) cd_Te_hasGoodNumbers rfl (Or.inl ⟨rfl, rfl⟩) (by decide) rfl (fun lv el => ?_)
  have l0 := tm_lk el l0 rfl (by decide)
  have l1 := tm_lk el l1 rfl (by decide)
  have l2 := tm_lk el l2 rfl (by decide)
  have l3 := tm_lk el l3 rfl (by decide)
  have l4 := tm_lk el l4 rfl (by decide)
  have l5 : lv.lookup 5 = some (.int x2) := tm_lks el
  clear el
  refine g_ald (pc' := 24) cd_Te_hasGoodNumbers rfl (Or.inr ⟨_, rfl, rfl, rfl⟩) l0 rfl rfl ?_
  refine g_ild (pc' := 25) cd_Te_hasGoodNumbers rfl (Or.inr ⟨_, rfl, rfl, rfl⟩) l1 rfl ?_
  refine g_k1 (v := 3) (pc' := 26) cd_Te_hasGoodNumbers rfl (by decide) rfl ?_
  refine g_calli (pc' := 29) cd_Te_hasGoodNumbers rfl rfl rfl rfl rfl (tm_invV rfl rfl cd_Te_numberOf rfl (Nat.le_of_ble_eq_true rfl) (by decide) hT.1.1 hT.1.2) (k_Te_numberOf hT ?_)
  generalize hx3 : te_gt2 B ca sz t 3 2 = x3
  try rw [hx3] at kk
  show bm_G _ _ _ 29 _ [.int x3] B _
  refine g_ist (pc' := 31) cd_Te_hasGoodNumbers rfl (Or.inl ⟨rfl, rfl⟩) (by decide) rfl (fun lv el => ?_)
  have l0 := tm_lk el l0 rfl (by decide)
  have l1 := tm_lk el l1 rfl (by decide)
  have l2 := tm_lk el l2 rfl (by decide)
  have l3 := tm_lk el l3 rfl (by decide)
  have l4 := tm_lk el l4 rfl (by decide)
  have l5 := tm_lk el l5 rfl (by decide)
  have l6 : lv.lookup 6 = some (.int x3) := tm_lks el
  clear el
  refine g_ild (pc' := 32) cd_Te_hasGoodNumbers rfl (Or.inr ⟨_, rfl, rfl, rfl⟩) l2 rfl ?_
  refine g_pure (pc' := 136) (st' := []) cd_Te_hasGoodNumbers rfl rfl (fun _ _ => rfl) ?_
  refine g_ild (pc' := 137) cd_Te_hasGoodNumbers rfl (Or.inr ⟨_, rfl, rfl, rfl⟩) l3 rfl ?_
  refine g_if1 (t := 159) (pc' := 140) cd_Te_hasGoodNumbers rfl rfl rfl (fun c137 => ?_) (fun c137 => ?_)
  · have c137 : ¬ x0 = 0 := c137
    refine g_k1 (v := 0) (pc' := 160) cd_Te_hasGoodNumbers rfl (by decide) rfl ?_
    exact g_retz cd_Te_hasGoodNumbers rfl (Or.inl rfl) ⟨_, rfl, bz_fin kk (by simp [gn, bz, c137])⟩
  · have c137 : ¬ (¬ x0 = 0) := c137
    refine g_ild (pc' := 142) cd_Te_hasGoodNumbers rfl (Or.inl ⟨rfl, rfl⟩) l4 rfl ?_
    refine g_if1 (t := 159) (pc' := 145) cd_Te_hasGoodNumbers rfl rfl rfl (fun c142 => ?_) (fun c142 => ?_)
    · have c142 : ¬ x1 = 0 := c142
      refine g_k1 (v := 0) (pc' := 160) cd_Te_hasGoodNumbers rfl (by decide) rfl ?_
      exact g_retz cd_Te_hasGoodNumbers rfl (Or.inl rfl) ⟨_, rfl, bz_fin kk (by simp [gn, bz, c137, c142])⟩
    · have c142 : ¬ (¬ x1 = 0) := c142
      refine g_ild (pc' := 147) cd_Te_hasGoodNumbers rfl (Or.inl ⟨rfl, rfl⟩) l5 rfl ?_
      refine g_if1 (t := 159) (pc' := 150) cd_Te_hasGoodNumbers rfl rfl rfl (fun c147 => ?_) (fun c147 => ?_)
      · have c147 : ¬ x2 = 0 := c147
        refine g_k1 (v := 0) (pc' := 160) cd_Te_hasGoodNumbers rfl (by decide) rfl ?_
        exact g_retz cd_Te_hasGoodNumbers rfl (Or.inl rfl) ⟨_, rfl, bz_fin kk (by simp [gn, bz, c137, c142, c147])⟩
      · have c147 : ¬ (¬ x2 = 0) := c147
        refine g_ild (pc' := 152) cd_Te_hasGoodNumbers rfl (Or.inl ⟨rfl, rfl⟩) l6 rfl ?_
        refine g_if1 (t := 159) (pc' := 155) cd_Te_hasGoodNumbers rfl rfl rfl (fun c152 => ?_) (fun c152 => ?_)
        · have c152 : ¬ x3 = 0 := c152
          refine g_k1 (v := 0) (pc' := 160) cd_Te_hasGoodNumbers rfl (by decide) rfl ?_
          exact g_retz cd_Te_hasGoodNumbers rfl (Or.inl rfl) ⟨_, rfl, bz_fin kk (by simp [gn, bz, c137, c142, c147, c152])⟩
        · have c152 : ¬ (¬ x3 = 0) := c152
          refine g_k1 (v := 1) (pc' := 156) cd_Te_hasGoodNumbers rfl (by decide) rfl ?_
          refine g_pure (pc' := 160) (st' := [.int 1]) cd_Te_hasGoodNumbers rfl rfl (fun _ _ => rfl) ?_
          exact g_retz cd_Te_hasGoodNumbers rfl (Or.inr rfl) ⟨_, rfl, bz_fin kk (by simp [gn, bz, c137, c142, c147, c152])⟩
set_option maxRecDepth 100000 in
theorem k_Te_hasGoodNumbers_5 {sc : tm_X} {d : Nat} {B : bm_H} {a ca ba da rm sz dr : Nat} {t : Int32} {Q : Int32 → bm_H → Prop} (hT : te_ok B a ca ba da rm sz dr) (kk : Q (bz (te_gn B ca sz t 5)) B) : bm_Gi sc (d + 1) 70 [.ref a, .int t, .int 5] B Q := by
  unfold te_gn at kk
  show bm_G sc (d + 1) 70 0 [(0, .ref a), (1, .int t), (2, .int 5)] [] B _
  generalize elv : ([(0, .ref a), (1, .int t), (2, .int 5)] : tm_L) = lv
  have l0 : lv.lookup 0 = some (.ref a) := by rw [← elv]; rfl
  have l1 : lv.lookup 1 = some (.int t) := by rw [← elv]; rfl
  have l2 : lv.lookup 2 = some (.int 5) := by rw [← elv]; rfl
  clear elv
  refine g_ald (pc' := 1) cd_Te_hasGoodNumbers rfl (Or.inr ⟨_, rfl, rfl, rfl⟩) l0 rfl rfl ?_
  refine g_ild (pc' := 2) cd_Te_hasGoodNumbers rfl (Or.inr ⟨_, rfl, rfl, rfl⟩) l1 rfl ?_
  refine g_k1 (v := 0) (pc' := 3) cd_Te_hasGoodNumbers rfl (by decide) rfl ?_
  refine g_calli (pc' := 6) cd_Te_hasGoodNumbers rfl rfl rfl rfl rfl (tm_invV rfl rfl cd_Te_numberOf rfl (Nat.le_of_ble_eq_true rfl) (by decide) hT.1.1 hT.1.2) (k_Te_numberOf hT ?_)
  generalize hx0 : te_gt2 B ca sz t 0 2 = x0
  try rw [hx0] at kk
  show bm_G _ _ _ 6 _ [.int x0] B _
  refine g_ist (pc' := 7) cd_Te_hasGoodNumbers rfl (Or.inr ⟨_, rfl, rfl, rfl⟩) (by decide) rfl (fun lv el => ?_)
  have l0 := tm_lk el l0 rfl (by decide)
  have l1 := tm_lk el l1 rfl (by decide)
  have l2 := tm_lk el l2 rfl (by decide)
  have l3 : lv.lookup 3 = some (.int x0) := tm_lks el
  clear el
  refine g_ald (pc' := 8) cd_Te_hasGoodNumbers rfl (Or.inr ⟨_, rfl, rfl, rfl⟩) l0 rfl rfl ?_
  refine g_ild (pc' := 9) cd_Te_hasGoodNumbers rfl (Or.inr ⟨_, rfl, rfl, rfl⟩) l1 rfl ?_
  refine g_k1 (v := 1) (pc' := 10) cd_Te_hasGoodNumbers rfl (by decide) rfl ?_
  refine g_calli (pc' := 13) cd_Te_hasGoodNumbers rfl rfl rfl rfl rfl (tm_invV rfl rfl cd_Te_numberOf rfl (Nat.le_of_ble_eq_true rfl) (by decide) hT.1.1 hT.1.2) (k_Te_numberOf hT ?_)
  generalize hx1 : te_gt2 B ca sz t 1 2 = x1
  try rw [hx1] at kk
  show bm_G _ _ _ 13 _ [.int x1] B _
  refine g_ist (pc' := 15) cd_Te_hasGoodNumbers rfl (Or.inl ⟨rfl, rfl⟩) (by decide) rfl (fun lv el => ?_)
  have l0 := tm_lk el l0 rfl (by decide)
  have l1 := tm_lk el l1 rfl (by decide)
  have l2 := tm_lk el l2 rfl (by decide)
  have l3 := tm_lk el l3 rfl (by decide)
  have l4 : lv.lookup 4 = some (.int x1) := tm_lks el
  clear el
  refine g_ald (pc' := 16) cd_Te_hasGoodNumbers rfl (Or.inr ⟨_, rfl, rfl, rfl⟩) l0 rfl rfl ?_
  refine g_ild (pc' := 17) cd_Te_hasGoodNumbers rfl (Or.inr ⟨_, rfl, rfl, rfl⟩) l1 rfl ?_
  refine g_k1 (v := 2) (pc' := 18) cd_Te_hasGoodNumbers rfl (by decide) rfl ?_
  refine g_calli (pc' := 21) cd_Te_hasGoodNumbers rfl rfl rfl rfl rfl (tm_invV rfl rfl cd_Te_numberOf rfl (Nat.le_of_ble_eq_true rfl) (by decide) hT.1.1 hT.1.2) (k_Te_numberOf hT ?_)
  generalize hx2 : te_gt2 B ca sz t 2 2 = x2
  try rw [hx2] at kk
  show bm_G _ _ _ 21 _ [.int x2] B _
  refine g_ist (pc' := 23) cd_Te_hasGoodNumbers rfl (Or.inl ⟨rfl, rfl⟩) (by decide) rfl (fun lv el => ?_)
  have l0 := tm_lk el l0 rfl (by decide)
  have l1 := tm_lk el l1 rfl (by decide)
  have l2 := tm_lk el l2 rfl (by decide)
  have l3 := tm_lk el l3 rfl (by decide)
  have l4 := tm_lk el l4 rfl (by decide)
  have l5 : lv.lookup 5 = some (.int x2) := tm_lks el
  clear el
  refine g_ald (pc' := 24) cd_Te_hasGoodNumbers rfl (Or.inr ⟨_, rfl, rfl, rfl⟩) l0 rfl rfl ?_
  refine g_ild (pc' := 25) cd_Te_hasGoodNumbers rfl (Or.inr ⟨_, rfl, rfl, rfl⟩) l1 rfl ?_
  refine g_k1 (v := 3) (pc' := 26) cd_Te_hasGoodNumbers rfl (by decide) rfl ?_
  refine g_calli (pc' := 29) cd_Te_hasGoodNumbers rfl rfl rfl rfl rfl (tm_invV rfl rfl cd_Te_numberOf rfl (Nat.le_of_ble_eq_true rfl) (by decide) hT.1.1 hT.1.2) (k_Te_numberOf hT ?_)
  generalize hx3 : te_gt2 B ca sz t 3 2 = x3
  try rw [hx3] at kk
  show bm_G _ _ _ 29 _ [.int x3] B _
  refine g_ist (pc' := 31) cd_Te_hasGoodNumbers rfl (Or.inl ⟨rfl, rfl⟩) (by decide) rfl (fun lv el => ?_)
  have l0 := tm_lk el l0 rfl (by decide)
  have l1 := tm_lk el l1 rfl (by decide)
  have l2 := tm_lk el l2 rfl (by decide)
  have l3 := tm_lk el l3 rfl (by decide)
  have l4 := tm_lk el l4 rfl (by decide)
  have l5 := tm_lk el l5 rfl (by decide)
  have l6 : lv.lookup 6 = some (.int x3) := tm_lks el
  clear el
  refine g_ild (pc' := 32) cd_Te_hasGoodNumbers rfl (Or.inr ⟨_, rfl, rfl, rfl⟩) l2 rfl ?_
  refine g_pure (pc' := 161) (st' := []) cd_Te_hasGoodNumbers rfl rfl (fun _ _ => rfl) ?_
  refine g_ild (pc' := 162) cd_Te_hasGoodNumbers rfl (Or.inr ⟨_, rfl, rfl, rfl⟩) l3 rfl ?_
  refine g_calli (pc' := 165) cd_Te_hasGoodNumbers rfl rfl rfl rfl rfl (tm_invS rfl rfl cd_Ho_isGroup rfl (Nat.le_of_ble_eq_true rfl)) (k_Ho_isGroup ?_)
  show bm_G _ _ _ 165 _ [.int (bz (ib_grp x0))] B _
  refine g_if1 (t := 191) (pc' := 168) cd_Te_hasGoodNumbers rfl rfl rfl (fun c165 => ?_) (fun c165 => ?_)
  · have c165 : (ib_grp x0) = false := bz_f c165
    refine g_k1 (v := 0) (pc' := 192) cd_Te_hasGoodNumbers rfl (by decide) rfl ?_
    exact g_retz cd_Te_hasGoodNumbers rfl (Or.inl rfl) ⟨_, rfl, bz_fin kk (by simp [gn, bz, c165])⟩
  · have c165 : (ib_grp x0) = true := bz_t c165
    refine g_ild (pc' := 170) cd_Te_hasGoodNumbers rfl (Or.inl ⟨rfl, rfl⟩) l4 rfl ?_
    refine g_k1 (v := 1) (pc' := 171) cd_Te_hasGoodNumbers rfl (by decide) rfl ?_
    refine g_if2 (t := 191) (pc' := 174) cd_Te_hasGoodNumbers rfl rfl rfl (fun c171 => ?_) (fun c171 => ?_)
    · have c171 : x1 < 1 := c171
      refine g_k1 (v := 0) (pc' := 192) cd_Te_hasGoodNumbers rfl (by decide) rfl ?_
      exact g_retz cd_Te_hasGoodNumbers rfl (Or.inl rfl) ⟨_, rfl, bz_fin kk (by simp [gn, bz, c165, c171])⟩
    · have c171 : ¬ x1 < 1 := c171
      refine g_ild (pc' := 176) cd_Te_hasGoodNumbers rfl (Or.inl ⟨rfl, rfl⟩) l5 rfl ?_
      refine g_calli (pc' := 179) cd_Te_hasGoodNumbers rfl rfl rfl rfl rfl (tm_invS rfl rfl cd_Te_isIndex rfl (Nat.le_of_ble_eq_true rfl)) (k_Te_isIndex ?_)
      show bm_G _ _ _ 179 _ [.int (bz (ib_idx x2))] B _
      refine g_if1 (t := 191) (pc' := 182) cd_Te_hasGoodNumbers rfl rfl rfl (fun c179 => ?_) (fun c179 => ?_)
      · have c179 : (ib_idx x2) = false := bz_f c179
        refine g_k1 (v := 0) (pc' := 192) cd_Te_hasGoodNumbers rfl (by decide) rfl ?_
        exact g_retz cd_Te_hasGoodNumbers rfl (Or.inl rfl) ⟨_, rfl, bz_fin kk (by simp [gn, bz, c165, c171, c179])⟩
      · have c179 : (ib_idx x2) = true := bz_t c179
        refine g_ild (pc' := 184) cd_Te_hasGoodNumbers rfl (Or.inl ⟨rfl, rfl⟩) l6 rfl ?_
        refine g_if1 (t := 191) (pc' := 187) cd_Te_hasGoodNumbers rfl rfl rfl (fun c184 => ?_) (fun c184 => ?_)
        · have c184 : ¬ x3 = 0 := c184
          refine g_k1 (v := 0) (pc' := 192) cd_Te_hasGoodNumbers rfl (by decide) rfl ?_
          exact g_retz cd_Te_hasGoodNumbers rfl (Or.inl rfl) ⟨_, rfl, bz_fin kk (by simp [gn, bz, c165, c171, c179, c184])⟩
        · have c184 : ¬ (¬ x3 = 0) := c184
          refine g_k1 (v := 1) (pc' := 188) cd_Te_hasGoodNumbers rfl (by decide) rfl ?_
          refine g_pure (pc' := 192) (st' := [.int 1]) cd_Te_hasGoodNumbers rfl rfl (fun _ _ => rfl) ?_
          exact g_retz cd_Te_hasGoodNumbers rfl (Or.inr rfl) ⟨_, rfl, bz_fin kk (by simp [gn, bz, c165, c171, c179, c184])⟩
set_option maxRecDepth 100000 in
theorem k_Te_hasGoodNumbers_6 {sc : tm_X} {d : Nat} {B : bm_H} {a ca ba da rm sz dr : Nat} {t : Int32} {Q : Int32 → bm_H → Prop} (hT : te_ok B a ca ba da rm sz dr) (kk : Q (bz (te_gn B ca sz t 6)) B) : bm_Gi sc (d + 1) 70 [.ref a, .int t, .int 6] B Q := by
  unfold te_gn at kk
  show bm_G sc (d + 1) 70 0 [(0, .ref a), (1, .int t), (2, .int 6)] [] B _
  generalize elv : ([(0, .ref a), (1, .int t), (2, .int 6)] : tm_L) = lv
  have l0 : lv.lookup 0 = some (.ref a) := by rw [← elv]; rfl
  have l1 : lv.lookup 1 = some (.int t) := by rw [← elv]; rfl
  have l2 : lv.lookup 2 = some (.int 6) := by rw [← elv]; rfl
  clear elv
  refine g_ald (pc' := 1) cd_Te_hasGoodNumbers rfl (Or.inr ⟨_, rfl, rfl, rfl⟩) l0 rfl rfl ?_
  refine g_ild (pc' := 2) cd_Te_hasGoodNumbers rfl (Or.inr ⟨_, rfl, rfl, rfl⟩) l1 rfl ?_
  refine g_k1 (v := 0) (pc' := 3) cd_Te_hasGoodNumbers rfl (by decide) rfl ?_
  refine g_calli (pc' := 6) cd_Te_hasGoodNumbers rfl rfl rfl rfl rfl (tm_invV rfl rfl cd_Te_numberOf rfl (Nat.le_of_ble_eq_true rfl) (by decide) hT.1.1 hT.1.2) (k_Te_numberOf hT ?_)
  generalize hx0 : te_gt2 B ca sz t 0 2 = x0
  try rw [hx0] at kk
  show bm_G _ _ _ 6 _ [.int x0] B _
  refine g_ist (pc' := 7) cd_Te_hasGoodNumbers rfl (Or.inr ⟨_, rfl, rfl, rfl⟩) (by decide) rfl (fun lv el => ?_)
  have l0 := tm_lk el l0 rfl (by decide)
  have l1 := tm_lk el l1 rfl (by decide)
  have l2 := tm_lk el l2 rfl (by decide)
  have l3 : lv.lookup 3 = some (.int x0) := tm_lks el
  clear el
  refine g_ald (pc' := 8) cd_Te_hasGoodNumbers rfl (Or.inr ⟨_, rfl, rfl, rfl⟩) l0 rfl rfl ?_
  refine g_ild (pc' := 9) cd_Te_hasGoodNumbers rfl (Or.inr ⟨_, rfl, rfl, rfl⟩) l1 rfl ?_
  refine g_k1 (v := 1) (pc' := 10) cd_Te_hasGoodNumbers rfl (by decide) rfl ?_
  refine g_calli (pc' := 13) cd_Te_hasGoodNumbers rfl rfl rfl rfl rfl (tm_invV rfl rfl cd_Te_numberOf rfl (Nat.le_of_ble_eq_true rfl) (by decide) hT.1.1 hT.1.2) (k_Te_numberOf hT ?_)
  generalize hx1 : te_gt2 B ca sz t 1 2 = x1
  try rw [hx1] at kk
  show bm_G _ _ _ 13 _ [.int x1] B _
  refine g_ist (pc' := 15) cd_Te_hasGoodNumbers rfl (Or.inl ⟨rfl, rfl⟩) (by decide) rfl (fun lv el => ?_)
  have l0 := tm_lk el l0 rfl (by decide)
  have l1 := tm_lk el l1 rfl (by decide)
  have l2 := tm_lk el l2 rfl (by decide)
  have l3 := tm_lk el l3 rfl (by decide)
  have l4 : lv.lookup 4 = some (.int x1) := tm_lks el
  clear el
  refine g_ald (pc' := 16) cd_Te_hasGoodNumbers rfl (Or.inr ⟨_, rfl, rfl, rfl⟩) l0 rfl rfl ?_
  refine g_ild (pc' := 17) cd_Te_hasGoodNumbers rfl (Or.inr ⟨_, rfl, rfl, rfl⟩) l1 rfl ?_
  refine g_k1 (v := 2) (pc' := 18) cd_Te_hasGoodNumbers rfl (by decide) rfl ?_
  refine g_calli (pc' := 21) cd_Te_hasGoodNumbers rfl rfl rfl rfl rfl (tm_invV rfl rfl cd_Te_numberOf rfl (Nat.le_of_ble_eq_true rfl) (by decide) hT.1.1 hT.1.2) (k_Te_numberOf hT ?_)
  generalize hx2 : te_gt2 B ca sz t 2 2 = x2
  try rw [hx2] at kk
  show bm_G _ _ _ 21 _ [.int x2] B _
  refine g_ist (pc' := 23) cd_Te_hasGoodNumbers rfl (Or.inl ⟨rfl, rfl⟩) (by decide) rfl (fun lv el => ?_)
  have l0 := tm_lk el l0 rfl (by decide)
  have l1 := tm_lk el l1 rfl (by decide)
  have l2 := tm_lk el l2 rfl (by decide)
  have l3 := tm_lk el l3 rfl (by decide)
  have l4 := tm_lk el l4 rfl (by decide)
  have l5 : lv.lookup 5 = some (.int x2) := tm_lks el
  clear el
  refine g_ald (pc' := 24) cd_Te_hasGoodNumbers rfl (Or.inr ⟨_, rfl, rfl, rfl⟩) l0 rfl rfl ?_
  refine g_ild (pc' := 25) cd_Te_hasGoodNumbers rfl (Or.inr ⟨_, rfl, rfl, rfl⟩) l1 rfl ?_
  refine g_k1 (v := 3) (pc' := 26) cd_Te_hasGoodNumbers rfl (by decide) rfl ?_
  refine g_calli (pc' := 29) cd_Te_hasGoodNumbers rfl rfl rfl rfl rfl (tm_invV rfl rfl cd_Te_numberOf rfl (Nat.le_of_ble_eq_true rfl) (by decide) hT.1.1 hT.1.2) (k_Te_numberOf hT ?_)
  generalize hx3 : te_gt2 B ca sz t 3 2 = x3
  try rw [hx3] at kk
  show bm_G _ _ _ 29 _ [.int x3] B _
  refine g_ist (pc' := 31) cd_Te_hasGoodNumbers rfl (Or.inl ⟨rfl, rfl⟩) (by decide) rfl (fun lv el => ?_)
  have l0 := tm_lk el l0 rfl (by decide)
  have l1 := tm_lk el l1 rfl (by decide)
  have l2 := tm_lk el l2 rfl (by decide)
  have l3 := tm_lk el l3 rfl (by decide)
  have l4 := tm_lk el l4 rfl (by decide)
  have l5 := tm_lk el l5 rfl (by decide)
  have l6 : lv.lookup 6 = some (.int x3) := tm_lks el
  clear el
  refine g_ild (pc' := 32) cd_Te_hasGoodNumbers rfl (Or.inr ⟨_, rfl, rfl, rfl⟩) l2 rfl ?_
  refine g_pure (pc' := 193) (st' := []) cd_Te_hasGoodNumbers rfl rfl (fun _ _ => rfl) ?_
  refine g_ild (pc' := 194) cd_Te_hasGoodNumbers rfl (Or.inr ⟨_, rfl, rfl, rfl⟩) l3 rfl ?_
  refine g_calli (pc' := 197) cd_Te_hasGoodNumbers rfl rfl rfl rfl rfl (tm_invS rfl rfl cd_Ho_isGroup rfl (Nat.le_of_ble_eq_true rfl)) (k_Ho_isGroup ?_)
  show bm_G _ _ _ 197 _ [.int (bz (ib_grp x0))] B _
  refine g_if1 (t := 227) (pc' := 200) cd_Te_hasGoodNumbers rfl rfl rfl (fun c197 => ?_) (fun c197 => ?_)
  · have c197 : (ib_grp x0) = false := bz_f c197
    refine g_k1 (v := 0) (pc' := 228) cd_Te_hasGoodNumbers rfl (by decide) rfl ?_
    exact g_retz cd_Te_hasGoodNumbers rfl (Or.inl rfl) ⟨_, rfl, bz_fin kk (by simp [gn, bz, c197])⟩
  · have c197 : (ib_grp x0) = true := bz_t c197
    refine g_ild (pc' := 202) cd_Te_hasGoodNumbers rfl (Or.inl ⟨rfl, rfl⟩) l4 rfl ?_
    refine g_k1 (v := 1) (pc' := 203) cd_Te_hasGoodNumbers rfl (by decide) rfl ?_
    refine g_if2 (t := 227) (pc' := 206) cd_Te_hasGoodNumbers rfl rfl rfl (fun c203 => ?_) (fun c203 => ?_)
    · have c203 : x1 < 1 := c203
      refine g_k1 (v := 0) (pc' := 228) cd_Te_hasGoodNumbers rfl (by decide) rfl ?_
      exact g_retz cd_Te_hasGoodNumbers rfl (Or.inl rfl) ⟨_, rfl, bz_fin kk (by simp [gn, bz, c197, c203])⟩
    · have c203 : ¬ x1 < 1 := c203
      refine g_ild (pc' := 208) cd_Te_hasGoodNumbers rfl (Or.inl ⟨rfl, rfl⟩) l5 rfl ?_
      refine g_if1 (t := 227) (pc' := 211) cd_Te_hasGoodNumbers rfl rfl rfl (fun c208 => ?_) (fun c208 => ?_)
      · have c208 : x2 < 0 := c208
        refine g_k1 (v := 0) (pc' := 228) cd_Te_hasGoodNumbers rfl (by decide) rfl ?_
        exact g_retz cd_Te_hasGoodNumbers rfl (Or.inl rfl) ⟨_, rfl, bz_fin kk (by simp [gn, bz, c197, c203, c208])⟩
      · have c208 : ¬ x2 < 0 := c208
        refine g_ild (pc' := 213) cd_Te_hasGoodNumbers rfl (Or.inl ⟨rfl, rfl⟩) l5 rfl ?_
        refine g_k2 (v := 64) (pc' := 215) cd_Te_hasGoodNumbers rfl (by decide) rfl ?_
        refine g_if2 (t := 227) (pc' := 218) cd_Te_hasGoodNumbers rfl rfl rfl (fun c215 => ?_) (fun c215 => ?_)
        · have c215 : (64 : Int32) ≤ x2 := c215
          refine g_k1 (v := 0) (pc' := 228) cd_Te_hasGoodNumbers rfl (by decide) rfl ?_
          exact g_retz cd_Te_hasGoodNumbers rfl (Or.inl rfl) ⟨_, rfl, bz_fin kk (by simp [gn, bz, c197, c203, c208, c215])⟩
        · have c215 : ¬ (64 : Int32) ≤ x2 := c215
          refine g_ild (pc' := 220) cd_Te_hasGoodNumbers rfl (Or.inl ⟨rfl, rfl⟩) l6 rfl ?_
          refine g_if1 (t := 227) (pc' := 223) cd_Te_hasGoodNumbers rfl rfl rfl (fun c220 => ?_) (fun c220 => ?_)
          · have c220 : ¬ x3 = 0 := c220
            refine g_k1 (v := 0) (pc' := 228) cd_Te_hasGoodNumbers rfl (by decide) rfl ?_
            exact g_retz cd_Te_hasGoodNumbers rfl (Or.inl rfl) ⟨_, rfl, bz_fin kk (by simp [gn, bz, c197, c203, c208, c215, c220])⟩
          · have c220 : ¬ (¬ x3 = 0) := c220
            refine g_k1 (v := 1) (pc' := 224) cd_Te_hasGoodNumbers rfl (by decide) rfl ?_
            refine g_pure (pc' := 228) (st' := [.int 1]) cd_Te_hasGoodNumbers rfl rfl (fun _ _ => rfl) ?_
            exact g_retz cd_Te_hasGoodNumbers rfl (Or.inr rfl) ⟨_, rfl, bz_fin kk (by simp [gn, bz, c197, c203, c208, c215, c220])⟩
set_option maxRecDepth 100000 in
theorem k_Te_hasGoodNumbers_7 {sc : tm_X} {d : Nat} {B : bm_H} {a ca ba da rm sz dr : Nat} {t : Int32} {Q : Int32 → bm_H → Prop} (hT : te_ok B a ca ba da rm sz dr) (kk : Q (bz (te_gn B ca sz t 7)) B) : bm_Gi sc (d + 1) 70 [.ref a, .int t, .int 7] B Q := by
  unfold te_gn at kk
  show bm_G sc (d + 1) 70 0 [(0, .ref a), (1, .int t), (2, .int 7)] [] B _
  generalize elv : ([(0, .ref a), (1, .int t), (2, .int 7)] : tm_L) = lv
  have l0 : lv.lookup 0 = some (.ref a) := by rw [← elv]; rfl
  have l1 : lv.lookup 1 = some (.int t) := by rw [← elv]; rfl
  have l2 : lv.lookup 2 = some (.int 7) := by rw [← elv]; rfl
  clear elv
  refine g_ald (pc' := 1) cd_Te_hasGoodNumbers rfl (Or.inr ⟨_, rfl, rfl, rfl⟩) l0 rfl rfl ?_
  refine g_ild (pc' := 2) cd_Te_hasGoodNumbers rfl (Or.inr ⟨_, rfl, rfl, rfl⟩) l1 rfl ?_
  refine g_k1 (v := 0) (pc' := 3) cd_Te_hasGoodNumbers rfl (by decide) rfl ?_
  refine g_calli (pc' := 6) cd_Te_hasGoodNumbers rfl rfl rfl rfl rfl (tm_invV rfl rfl cd_Te_numberOf rfl (Nat.le_of_ble_eq_true rfl) (by decide) hT.1.1 hT.1.2) (k_Te_numberOf hT ?_)
  generalize hx0 : te_gt2 B ca sz t 0 2 = x0
  try rw [hx0] at kk
  show bm_G _ _ _ 6 _ [.int x0] B _
  refine g_ist (pc' := 7) cd_Te_hasGoodNumbers rfl (Or.inr ⟨_, rfl, rfl, rfl⟩) (by decide) rfl (fun lv el => ?_)
  have l0 := tm_lk el l0 rfl (by decide)
  have l1 := tm_lk el l1 rfl (by decide)
  have l2 := tm_lk el l2 rfl (by decide)
  have l3 : lv.lookup 3 = some (.int x0) := tm_lks el
  clear el
  refine g_ald (pc' := 8) cd_Te_hasGoodNumbers rfl (Or.inr ⟨_, rfl, rfl, rfl⟩) l0 rfl rfl ?_
  refine g_ild (pc' := 9) cd_Te_hasGoodNumbers rfl (Or.inr ⟨_, rfl, rfl, rfl⟩) l1 rfl ?_
  refine g_k1 (v := 1) (pc' := 10) cd_Te_hasGoodNumbers rfl (by decide) rfl ?_
  refine g_calli (pc' := 13) cd_Te_hasGoodNumbers rfl rfl rfl rfl rfl (tm_invV rfl rfl cd_Te_numberOf rfl (Nat.le_of_ble_eq_true rfl) (by decide) hT.1.1 hT.1.2) (k_Te_numberOf hT ?_)
  generalize hx1 : te_gt2 B ca sz t 1 2 = x1
  try rw [hx1] at kk
  show bm_G _ _ _ 13 _ [.int x1] B _
  refine g_ist (pc' := 15) cd_Te_hasGoodNumbers rfl (Or.inl ⟨rfl, rfl⟩) (by decide) rfl (fun lv el => ?_)
  have l0 := tm_lk el l0 rfl (by decide)
  have l1 := tm_lk el l1 rfl (by decide)
  have l2 := tm_lk el l2 rfl (by decide)
  have l3 := tm_lk el l3 rfl (by decide)
  have l4 : lv.lookup 4 = some (.int x1) := tm_lks el
  clear el
  refine g_ald (pc' := 16) cd_Te_hasGoodNumbers rfl (Or.inr ⟨_, rfl, rfl, rfl⟩) l0 rfl rfl ?_
  refine g_ild (pc' := 17) cd_Te_hasGoodNumbers rfl (Or.inr ⟨_, rfl, rfl, rfl⟩) l1 rfl ?_
  refine g_k1 (v := 2) (pc' := 18) cd_Te_hasGoodNumbers rfl (by decide) rfl ?_
  refine g_calli (pc' := 21) cd_Te_hasGoodNumbers rfl rfl rfl rfl rfl (tm_invV rfl rfl cd_Te_numberOf rfl (Nat.le_of_ble_eq_true rfl) (by decide) hT.1.1 hT.1.2) (k_Te_numberOf hT ?_)
  generalize hx2 : te_gt2 B ca sz t 2 2 = x2
  try rw [hx2] at kk
  show bm_G _ _ _ 21 _ [.int x2] B _
  refine g_ist (pc' := 23) cd_Te_hasGoodNumbers rfl (Or.inl ⟨rfl, rfl⟩) (by decide) rfl (fun lv el => ?_)
  have l0 := tm_lk el l0 rfl (by decide)
  have l1 := tm_lk el l1 rfl (by decide)
  have l2 := tm_lk el l2 rfl (by decide)
  have l3 := tm_lk el l3 rfl (by decide)
  have l4 := tm_lk el l4 rfl (by decide)
  have l5 : lv.lookup 5 = some (.int x2) := tm_lks el
  clear el
  refine g_ald (pc' := 24) cd_Te_hasGoodNumbers rfl (Or.inr ⟨_, rfl, rfl, rfl⟩) l0 rfl rfl ?_
  refine g_ild (pc' := 25) cd_Te_hasGoodNumbers rfl (Or.inr ⟨_, rfl, rfl, rfl⟩) l1 rfl ?_
  refine g_k1 (v := 3) (pc' := 26) cd_Te_hasGoodNumbers rfl (by decide) rfl ?_
  refine g_calli (pc' := 29) cd_Te_hasGoodNumbers rfl rfl rfl rfl rfl (tm_invV rfl rfl cd_Te_numberOf rfl (Nat.le_of_ble_eq_true rfl) (by decide) hT.1.1 hT.1.2) (k_Te_numberOf hT ?_)
  generalize hx3 : te_gt2 B ca sz t 3 2 = x3
  try rw [hx3] at kk
  show bm_G _ _ _ 29 _ [.int x3] B _
  refine g_ist (pc' := 31) cd_Te_hasGoodNumbers rfl (Or.inl ⟨rfl, rfl⟩) (by decide) rfl (fun lv el => ?_)
  have l0 := tm_lk el l0 rfl (by decide)
  have l1 := tm_lk el l1 rfl (by decide)
  have l2 := tm_lk el l2 rfl (by decide)
  have l3 := tm_lk el l3 rfl (by decide)
  have l4 := tm_lk el l4 rfl (by decide)
  have l5 := tm_lk el l5 rfl (by decide)
  have l6 : lv.lookup 6 = some (.int x3) := tm_lks el
  clear el
  refine g_ild (pc' := 32) cd_Te_hasGoodNumbers rfl (Or.inr ⟨_, rfl, rfl, rfl⟩) l2 rfl ?_
  refine g_pure (pc' := 229) (st' := []) cd_Te_hasGoodNumbers rfl rfl (fun _ _ => rfl) ?_
  refine g_ild (pc' := 230) cd_Te_hasGoodNumbers rfl (Or.inr ⟨_, rfl, rfl, rfl⟩) l3 rfl ?_
  refine g_calli (pc' := 233) cd_Te_hasGoodNumbers rfl rfl rfl rfl rfl (tm_invS rfl rfl cd_Ho_isGroup rfl (Nat.le_of_ble_eq_true rfl)) (k_Ho_isGroup ?_)
  show bm_G _ _ _ 233 _ [.int (bz (ib_grp x0))] B _
  refine g_if1 (t := 262) (pc' := 236) cd_Te_hasGoodNumbers rfl rfl rfl (fun c233 => ?_) (fun c233 => ?_)
  · have c233 : (ib_grp x0) = false := bz_f c233
    refine g_k1 (v := 0) (pc' := 263) cd_Te_hasGoodNumbers rfl (by decide) rfl ?_
    exact g_retz cd_Te_hasGoodNumbers rfl (Or.inl rfl) ⟨_, rfl, bz_fin kk (by simp [gn, bz, c233])⟩
  · have c233 : (ib_grp x0) = true := bz_t c233
    refine g_ild (pc' := 238) cd_Te_hasGoodNumbers rfl (Or.inl ⟨rfl, rfl⟩) l4 rfl ?_
    refine g_calli (pc' := 241) cd_Te_hasGoodNumbers rfl rfl rfl rfl rfl (tm_invS rfl rfl cd_Ho_isDevice rfl (Nat.le_of_ble_eq_true rfl)) (k_Ho_isDevice ?_)
    show bm_G _ _ _ 241 _ [.int (bz (ib_dev x1))] B _
    refine g_if1 (t := 262) (pc' := 244) cd_Te_hasGoodNumbers rfl rfl rfl (fun c241 => ?_) (fun c241 => ?_)
    · have c241 : (ib_dev x1) = false := bz_f c241
      refine g_k1 (v := 0) (pc' := 263) cd_Te_hasGoodNumbers rfl (by decide) rfl ?_
      exact g_retz cd_Te_hasGoodNumbers rfl (Or.inl rfl) ⟨_, rfl, bz_fin kk (by simp [gn, bz, c233, c241])⟩
    · have c241 : (ib_dev x1) = true := bz_t c241
      refine g_ild (pc' := 246) cd_Te_hasGoodNumbers rfl (Or.inl ⟨rfl, rfl⟩) l5 rfl ?_
      refine g_k1 (v := 1) (pc' := 247) cd_Te_hasGoodNumbers rfl (by decide) rfl ?_
      refine g_if2 (t := 262) (pc' := 250) cd_Te_hasGoodNumbers rfl rfl rfl (fun c247 => ?_) (fun c247 => ?_)
      · have c247 : x2 < 1 := c247
        refine g_k1 (v := 0) (pc' := 263) cd_Te_hasGoodNumbers rfl (by decide) rfl ?_
        exact g_retz cd_Te_hasGoodNumbers rfl (Or.inl rfl) ⟨_, rfl, bz_fin kk (by simp [gn, bz, c233, c241, c247])⟩
      · have c247 : ¬ x2 < 1 := c247
        refine g_ild (pc' := 252) cd_Te_hasGoodNumbers rfl (Or.inl ⟨rfl, rfl⟩) l6 rfl ?_
        refine g_calli (pc' := 255) cd_Te_hasGoodNumbers rfl rfl rfl rfl rfl (tm_invS rfl rfl cd_Te_isIndex rfl (Nat.le_of_ble_eq_true rfl)) (k_Te_isIndex ?_)
        show bm_G _ _ _ 255 _ [.int (bz (ib_idx x3))] B _
        refine g_if1 (t := 262) (pc' := 258) cd_Te_hasGoodNumbers rfl rfl rfl (fun c255 => ?_) (fun c255 => ?_)
        · have c255 : (ib_idx x3) = false := bz_f c255
          refine g_k1 (v := 0) (pc' := 263) cd_Te_hasGoodNumbers rfl (by decide) rfl ?_
          exact g_retz cd_Te_hasGoodNumbers rfl (Or.inl rfl) ⟨_, rfl, bz_fin kk (by simp [gn, bz, c233, c241, c247, c255])⟩
        · have c255 : (ib_idx x3) = true := bz_t c255
          refine g_k1 (v := 1) (pc' := 259) cd_Te_hasGoodNumbers rfl (by decide) rfl ?_
          refine g_pure (pc' := 263) (st' := [.int 1]) cd_Te_hasGoodNumbers rfl rfl (fun _ _ => rfl) ?_
          exact g_retz cd_Te_hasGoodNumbers rfl (Or.inr rfl) ⟨_, rfl, bz_fin kk (by simp [gn, bz, c233, c241, c247, c255])⟩
set_option maxRecDepth 100000 in
theorem k_Te_hasGoodParts_1 {sc : tm_X} {d : Nat} {B : bm_H} {a ca ba da rm sz dr : Nat} {t : Int32} {Q : Int32 → bm_H → Prop} (hT : te_ok B a ca ba da rm sz dr) (kk : Q (bz (te_gp B ca sz t 1)) B) : bm_Gi sc (d + 1) 74 [.ref a, .int t, .int 1] B Q := by
  unfold te_gp at kk
  show bm_G sc (d + 1) 74 0 [(0, .ref a), (1, .int t), (2, .int 1)] [] B _
  generalize elv : ([(0, .ref a), (1, .int t), (2, .int 1)] : tm_L) = lv
  have l0 : lv.lookup 0 = some (.ref a) := by rw [← elv]; rfl
  have l1 : lv.lookup 1 = some (.int t) := by rw [← elv]; rfl
  have l2 : lv.lookup 2 = some (.int 1) := by rw [← elv]; rfl
  clear elv
  refine g_ald (pc' := 1) cd_Te_hasGoodParts rfl (Or.inr ⟨_, rfl, rfl, rfl⟩) l0 rfl rfl ?_
  refine g_ild (pc' := 2) cd_Te_hasGoodParts rfl (Or.inr ⟨_, rfl, rfl, rfl⟩) l1 rfl ?_
  refine g_k1 (v := 0) (pc' := 3) cd_Te_hasGoodParts rfl (by decide) rfl ?_
  refine g_calli (pc' := 6) cd_Te_hasGoodParts rfl rfl rfl rfl rfl (tm_invV rfl rfl cd_Te_partOf rfl (Nat.le_of_ble_eq_true rfl) (by decide) hT.1.1 hT.1.2) (k_Te_partOf hT ?_)
  generalize hx0 : te_gt2 B ca sz t 0 6 = x0
  try rw [hx0] at kk
  show bm_G _ _ _ 6 _ [.int x0] B _
  refine g_ist (pc' := 7) cd_Te_hasGoodParts rfl (Or.inr ⟨_, rfl, rfl, rfl⟩) (by decide) rfl (fun lv el => ?_)
  have l0 := tm_lk el l0 rfl (by decide)
  have l1 := tm_lk el l1 rfl (by decide)
  have l2 := tm_lk el l2 rfl (by decide)
  have l3 : lv.lookup 3 = some (.int x0) := tm_lks el
  clear el
  refine g_ald (pc' := 8) cd_Te_hasGoodParts rfl (Or.inr ⟨_, rfl, rfl, rfl⟩) l0 rfl rfl ?_
  refine g_ild (pc' := 9) cd_Te_hasGoodParts rfl (Or.inr ⟨_, rfl, rfl, rfl⟩) l1 rfl ?_
  refine g_k1 (v := 1) (pc' := 10) cd_Te_hasGoodParts rfl (by decide) rfl ?_
  refine g_calli (pc' := 13) cd_Te_hasGoodParts rfl rfl rfl rfl rfl (tm_invV rfl rfl cd_Te_partOf rfl (Nat.le_of_ble_eq_true rfl) (by decide) hT.1.1 hT.1.2) (k_Te_partOf hT ?_)
  generalize hx1 : te_gt2 B ca sz t 1 6 = x1
  try rw [hx1] at kk
  show bm_G _ _ _ 13 _ [.int x1] B _
  refine g_ist (pc' := 15) cd_Te_hasGoodParts rfl (Or.inl ⟨rfl, rfl⟩) (by decide) rfl (fun lv el => ?_)
  have l0 := tm_lk el l0 rfl (by decide)
  have l1 := tm_lk el l1 rfl (by decide)
  have l2 := tm_lk el l2 rfl (by decide)
  have l3 := tm_lk el l3 rfl (by decide)
  have l4 : lv.lookup 4 = some (.int x1) := tm_lks el
  clear el
  refine g_ald (pc' := 16) cd_Te_hasGoodParts rfl (Or.inr ⟨_, rfl, rfl, rfl⟩) l0 rfl rfl ?_
  refine g_ild (pc' := 17) cd_Te_hasGoodParts rfl (Or.inr ⟨_, rfl, rfl, rfl⟩) l1 rfl ?_
  refine g_k1 (v := 2) (pc' := 18) cd_Te_hasGoodParts rfl (by decide) rfl ?_
  refine g_calli (pc' := 21) cd_Te_hasGoodParts rfl rfl rfl rfl rfl (tm_invV rfl rfl cd_Te_partOf rfl (Nat.le_of_ble_eq_true rfl) (by decide) hT.1.1 hT.1.2) (k_Te_partOf hT ?_)
  generalize hx2 : te_gt2 B ca sz t 2 6 = x2
  try rw [hx2] at kk
  show bm_G _ _ _ 21 _ [.int x2] B _
  refine g_ist (pc' := 23) cd_Te_hasGoodParts rfl (Or.inl ⟨rfl, rfl⟩) (by decide) rfl (fun lv el => ?_)
  have l0 := tm_lk el l0 rfl (by decide)
  have l1 := tm_lk el l1 rfl (by decide)
  have l2 := tm_lk el l2 rfl (by decide)
  have l3 := tm_lk el l3 rfl (by decide)
  have l4 := tm_lk el l4 rfl (by decide)
  have l5 : lv.lookup 5 = some (.int x2) := tm_lks el
  clear el
  refine g_ald (pc' := 24) cd_Te_hasGoodParts rfl (Or.inr ⟨_, rfl, rfl, rfl⟩) l0 rfl rfl ?_
  refine g_ild (pc' := 25) cd_Te_hasGoodParts rfl (Or.inr ⟨_, rfl, rfl, rfl⟩) l1 rfl ?_
  refine g_k1 (v := 3) (pc' := 26) cd_Te_hasGoodParts rfl (by decide) rfl ?_
  refine g_calli (pc' := 29) cd_Te_hasGoodParts rfl rfl rfl rfl rfl (tm_invV rfl rfl cd_Te_partOf rfl (Nat.le_of_ble_eq_true rfl) (by decide) hT.1.1 hT.1.2) (k_Te_partOf hT ?_)
  generalize hx3 : te_gt2 B ca sz t 3 6 = x3
  try rw [hx3] at kk
  show bm_G _ _ _ 29 _ [.int x3] B _
  refine g_ist (pc' := 31) cd_Te_hasGoodParts rfl (Or.inl ⟨rfl, rfl⟩) (by decide) rfl (fun lv el => ?_)
  have l0 := tm_lk el l0 rfl (by decide)
  have l1 := tm_lk el l1 rfl (by decide)
  have l2 := tm_lk el l2 rfl (by decide)
  have l3 := tm_lk el l3 rfl (by decide)
  have l4 := tm_lk el l4 rfl (by decide)
  have l5 := tm_lk el l5 rfl (by decide)
  have l6 : lv.lookup 6 = some (.int x3) := tm_lks el
  clear el
  refine g_ild (pc' := 32) cd_Te_hasGoodParts rfl (Or.inr ⟨_, rfl, rfl, rfl⟩) l2 rfl ?_
  refine g_k1 (v := 3) (pc' := 33) cd_Te_hasGoodParts rfl (by decide) rfl ?_
  refine g_if2 (t := 120) (pc' := 36) cd_Te_hasGoodParts rfl rfl rfl (fun c33 => ?_) (fun c33 => ?_)
  · have c33 : ¬ (1 : Int32) = 3 := c33
    refine g_ild (pc' := 122) cd_Te_hasGoodParts rfl (Or.inl ⟨rfl, rfl⟩) l5 rfl ?_
    refine g_if1 (t := 130) (pc' := 125) cd_Te_hasGoodParts rfl rfl rfl (fun c122 => ?_) (fun c122 => ?_)
    · have c122 : ¬ x2 = 0 := c122
      refine g_k1 (v := 0) (pc' := 131) cd_Te_hasGoodParts rfl (by decide) rfl ?_
      exact g_retz cd_Te_hasGoodParts rfl (Or.inl rfl) ⟨_, rfl, bz_fin kk (by simp [gp, bz, c33, c122])⟩
    · have c122 : ¬ (¬ x2 = 0) := c122
      refine g_ild (pc' := 127) cd_Te_hasGoodParts rfl (Or.inl ⟨rfl, rfl⟩) l6 rfl ?_
      refine g_if1 (t := 132) (pc' := 130) cd_Te_hasGoodParts rfl rfl rfl (fun c127 => ?_) (fun c127 => ?_)
      · have c127 : x3 = 0 := c127
        refine g_ild (pc' := 133) cd_Te_hasGoodParts rfl (Or.inr ⟨_, rfl, rfl, rfl⟩) l2 rfl ?_
        refine g_pure (pc' := 168) (st' := []) cd_Te_hasGoodParts rfl rfl (fun _ _ => rfl) ?_
        refine g_ald (pc' := 169) cd_Te_hasGoodParts rfl (Or.inr ⟨_, rfl, rfl, rfl⟩) l0 rfl rfl ?_
        refine g_ild (pc' := 170) cd_Te_hasGoodParts rfl (Or.inr ⟨_, rfl, rfl, rfl⟩) l3 rfl ?_
        refine g_calli (pc' := 173) cd_Te_hasGoodParts rfl rfl rfl rfl rfl (tm_invV rfl rfl cd_Te_kindOf rfl (Nat.le_of_ble_eq_true rfl) (by decide) hT.1.1 hT.1.2) (k_Te_kindOf hT ?_)
        show bm_G _ _ _ 173 _ [.int (te_get B ca sz x0 0)] B _
        refine g_k1 (v := 2) (pc' := 174) cd_Te_hasGoodParts rfl (by decide) rfl ?_
        refine g_if2 (t := 186) (pc' := 177) cd_Te_hasGoodParts rfl rfl rfl (fun c174 => ?_) (fun c174 => ?_)
        · have c174 : ¬ (te_get B ca sz x0 0) = 2 := c174
          refine g_k1 (v := 0) (pc' := 187) cd_Te_hasGoodParts rfl (by decide) rfl ?_
          exact g_retz cd_Te_hasGoodParts rfl (Or.inl rfl) ⟨_, rfl, bz_fin kk (by simp [gp, bz, c33, c122, c127, c174])⟩
        · have c174 : ¬ (¬ (te_get B ca sz x0 0) = 2) := c174
          refine g_ild (pc' := 179) cd_Te_hasGoodParts rfl (Or.inl ⟨rfl, rfl⟩) l4 rfl ?_
          refine g_if1 (t := 186) (pc' := 182) cd_Te_hasGoodParts rfl rfl rfl (fun c179 => ?_) (fun c179 => ?_)
          · have c179 : ¬ x1 = 0 := c179
            refine g_k1 (v := 0) (pc' := 187) cd_Te_hasGoodParts rfl (by decide) rfl ?_
            exact g_retz cd_Te_hasGoodParts rfl (Or.inl rfl) ⟨_, rfl, bz_fin kk (by simp [gp, bz, c33, c122, c127, c174, c179])⟩
          · have c179 : ¬ (¬ x1 = 0) := c179
            refine g_k1 (v := 1) (pc' := 183) cd_Te_hasGoodParts rfl (by decide) rfl ?_
            refine g_pure (pc' := 187) (st' := [.int 1]) cd_Te_hasGoodParts rfl rfl (fun _ _ => rfl) ?_
            exact g_retz cd_Te_hasGoodParts rfl (Or.inr rfl) ⟨_, rfl, bz_fin kk (by simp [gp, bz, c33, c122, c127, c174, c179])⟩
      · have c127 : ¬ x3 = 0 := c127
        refine g_k1 (v := 0) (pc' := 131) cd_Te_hasGoodParts rfl (by decide) rfl ?_
        exact g_retz cd_Te_hasGoodParts rfl (Or.inl rfl) ⟨_, rfl, bz_fin kk (by simp [gp, bz, c33, c122, c127])⟩
  · exact absurd (show ¬ (¬ (1 : Int32) = 3) from c33) (by decide)
set_option maxRecDepth 100000 in
theorem k_Te_hasGoodParts_2 {sc : tm_X} {d : Nat} {B : bm_H} {a ca ba da rm sz dr : Nat} {t : Int32} {Q : Int32 → bm_H → Prop} (hT : te_ok B a ca ba da rm sz dr) (kk : Q (bz (te_gp B ca sz t 2)) B) : bm_Gi sc (d + 1) 74 [.ref a, .int t, .int 2] B Q := by
  unfold te_gp at kk
  show bm_G sc (d + 1) 74 0 [(0, .ref a), (1, .int t), (2, .int 2)] [] B _
  generalize elv : ([(0, .ref a), (1, .int t), (2, .int 2)] : tm_L) = lv
  have l0 : lv.lookup 0 = some (.ref a) := by rw [← elv]; rfl
  have l1 : lv.lookup 1 = some (.int t) := by rw [← elv]; rfl
  have l2 : lv.lookup 2 = some (.int 2) := by rw [← elv]; rfl
  clear elv
  refine g_ald (pc' := 1) cd_Te_hasGoodParts rfl (Or.inr ⟨_, rfl, rfl, rfl⟩) l0 rfl rfl ?_
  refine g_ild (pc' := 2) cd_Te_hasGoodParts rfl (Or.inr ⟨_, rfl, rfl, rfl⟩) l1 rfl ?_
  refine g_k1 (v := 0) (pc' := 3) cd_Te_hasGoodParts rfl (by decide) rfl ?_
  refine g_calli (pc' := 6) cd_Te_hasGoodParts rfl rfl rfl rfl rfl (tm_invV rfl rfl cd_Te_partOf rfl (Nat.le_of_ble_eq_true rfl) (by decide) hT.1.1 hT.1.2) (k_Te_partOf hT ?_)
  generalize hx0 : te_gt2 B ca sz t 0 6 = x0
  try rw [hx0] at kk
  show bm_G _ _ _ 6 _ [.int x0] B _
  refine g_ist (pc' := 7) cd_Te_hasGoodParts rfl (Or.inr ⟨_, rfl, rfl, rfl⟩) (by decide) rfl (fun lv el => ?_)
  have l0 := tm_lk el l0 rfl (by decide)
  have l1 := tm_lk el l1 rfl (by decide)
  have l2 := tm_lk el l2 rfl (by decide)
  have l3 : lv.lookup 3 = some (.int x0) := tm_lks el
  clear el
  refine g_ald (pc' := 8) cd_Te_hasGoodParts rfl (Or.inr ⟨_, rfl, rfl, rfl⟩) l0 rfl rfl ?_
  refine g_ild (pc' := 9) cd_Te_hasGoodParts rfl (Or.inr ⟨_, rfl, rfl, rfl⟩) l1 rfl ?_
  refine g_k1 (v := 1) (pc' := 10) cd_Te_hasGoodParts rfl (by decide) rfl ?_
  refine g_calli (pc' := 13) cd_Te_hasGoodParts rfl rfl rfl rfl rfl (tm_invV rfl rfl cd_Te_partOf rfl (Nat.le_of_ble_eq_true rfl) (by decide) hT.1.1 hT.1.2) (k_Te_partOf hT ?_)
  generalize hx1 : te_gt2 B ca sz t 1 6 = x1
  try rw [hx1] at kk
  show bm_G _ _ _ 13 _ [.int x1] B _
  refine g_ist (pc' := 15) cd_Te_hasGoodParts rfl (Or.inl ⟨rfl, rfl⟩) (by decide) rfl (fun lv el => ?_)
  have l0 := tm_lk el l0 rfl (by decide)
  have l1 := tm_lk el l1 rfl (by decide)
  have l2 := tm_lk el l2 rfl (by decide)
  have l3 := tm_lk el l3 rfl (by decide)
  have l4 : lv.lookup 4 = some (.int x1) := tm_lks el
  clear el
  refine g_ald (pc' := 16) cd_Te_hasGoodParts rfl (Or.inr ⟨_, rfl, rfl, rfl⟩) l0 rfl rfl ?_
  refine g_ild (pc' := 17) cd_Te_hasGoodParts rfl (Or.inr ⟨_, rfl, rfl, rfl⟩) l1 rfl ?_
  refine g_k1 (v := 2) (pc' := 18) cd_Te_hasGoodParts rfl (by decide) rfl ?_
  refine g_calli (pc' := 21) cd_Te_hasGoodParts rfl rfl rfl rfl rfl (tm_invV rfl rfl cd_Te_partOf rfl (Nat.le_of_ble_eq_true rfl) (by decide) hT.1.1 hT.1.2) (k_Te_partOf hT ?_)
  generalize hx2 : te_gt2 B ca sz t 2 6 = x2
  try rw [hx2] at kk
  show bm_G _ _ _ 21 _ [.int x2] B _
  refine g_ist (pc' := 23) cd_Te_hasGoodParts rfl (Or.inl ⟨rfl, rfl⟩) (by decide) rfl (fun lv el => ?_)
  have l0 := tm_lk el l0 rfl (by decide)
  have l1 := tm_lk el l1 rfl (by decide)
  have l2 := tm_lk el l2 rfl (by decide)
  have l3 := tm_lk el l3 rfl (by decide)
  have l4 := tm_lk el l4 rfl (by decide)
  have l5 : lv.lookup 5 = some (.int x2) := tm_lks el
  clear el
  refine g_ald (pc' := 24) cd_Te_hasGoodParts rfl (Or.inr ⟨_, rfl, rfl, rfl⟩) l0 rfl rfl ?_
  refine g_ild (pc' := 25) cd_Te_hasGoodParts rfl (Or.inr ⟨_, rfl, rfl, rfl⟩) l1 rfl ?_
  refine g_k1 (v := 3) (pc' := 26) cd_Te_hasGoodParts rfl (by decide) rfl ?_
  refine g_calli (pc' := 29) cd_Te_hasGoodParts rfl rfl rfl rfl rfl (tm_invV rfl rfl cd_Te_partOf rfl (Nat.le_of_ble_eq_true rfl) (by decide) hT.1.1 hT.1.2) (k_Te_partOf hT ?_)
  generalize hx3 : te_gt2 B ca sz t 3 6 = x3
  try rw [hx3] at kk
  show bm_G _ _ _ 29 _ [.int x3] B _
  refine g_ist (pc' := 31) cd_Te_hasGoodParts rfl (Or.inl ⟨rfl, rfl⟩) (by decide) rfl (fun lv el => ?_)
  have l0 := tm_lk el l0 rfl (by decide)
  have l1 := tm_lk el l1 rfl (by decide)
  have l2 := tm_lk el l2 rfl (by decide)
  have l3 := tm_lk el l3 rfl (by decide)
  have l4 := tm_lk el l4 rfl (by decide)
  have l5 := tm_lk el l5 rfl (by decide)
  have l6 : lv.lookup 6 = some (.int x3) := tm_lks el
  clear el
  refine g_ild (pc' := 32) cd_Te_hasGoodParts rfl (Or.inr ⟨_, rfl, rfl, rfl⟩) l2 rfl ?_
  refine g_k1 (v := 3) (pc' := 33) cd_Te_hasGoodParts rfl (by decide) rfl ?_
  refine g_if2 (t := 120) (pc' := 36) cd_Te_hasGoodParts rfl rfl rfl (fun c33 => ?_) (fun c33 => ?_)
  · have c33 : ¬ (2 : Int32) = 3 := c33
    refine g_ild (pc' := 122) cd_Te_hasGoodParts rfl (Or.inl ⟨rfl, rfl⟩) l5 rfl ?_
    refine g_if1 (t := 130) (pc' := 125) cd_Te_hasGoodParts rfl rfl rfl (fun c122 => ?_) (fun c122 => ?_)
    · have c122 : ¬ x2 = 0 := c122
      refine g_k1 (v := 0) (pc' := 131) cd_Te_hasGoodParts rfl (by decide) rfl ?_
      exact g_retz cd_Te_hasGoodParts rfl (Or.inl rfl) ⟨_, rfl, bz_fin kk (by simp [gp, bz, c33, c122])⟩
    · have c122 : ¬ (¬ x2 = 0) := c122
      refine g_ild (pc' := 127) cd_Te_hasGoodParts rfl (Or.inl ⟨rfl, rfl⟩) l6 rfl ?_
      refine g_if1 (t := 132) (pc' := 130) cd_Te_hasGoodParts rfl rfl rfl (fun c127 => ?_) (fun c127 => ?_)
      · have c127 : x3 = 0 := c127
        refine g_ild (pc' := 133) cd_Te_hasGoodParts rfl (Or.inr ⟨_, rfl, rfl, rfl⟩) l2 rfl ?_
        refine g_pure (pc' := 168) (st' := []) cd_Te_hasGoodParts rfl rfl (fun _ _ => rfl) ?_
        refine g_ald (pc' := 169) cd_Te_hasGoodParts rfl (Or.inr ⟨_, rfl, rfl, rfl⟩) l0 rfl rfl ?_
        refine g_ild (pc' := 170) cd_Te_hasGoodParts rfl (Or.inr ⟨_, rfl, rfl, rfl⟩) l3 rfl ?_
        refine g_calli (pc' := 173) cd_Te_hasGoodParts rfl rfl rfl rfl rfl (tm_invV rfl rfl cd_Te_kindOf rfl (Nat.le_of_ble_eq_true rfl) (by decide) hT.1.1 hT.1.2) (k_Te_kindOf hT ?_)
        show bm_G _ _ _ 173 _ [.int (te_get B ca sz x0 0)] B _
        refine g_k1 (v := 2) (pc' := 174) cd_Te_hasGoodParts rfl (by decide) rfl ?_
        refine g_if2 (t := 186) (pc' := 177) cd_Te_hasGoodParts rfl rfl rfl (fun c174 => ?_) (fun c174 => ?_)
        · have c174 : ¬ (te_get B ca sz x0 0) = 2 := c174
          refine g_k1 (v := 0) (pc' := 187) cd_Te_hasGoodParts rfl (by decide) rfl ?_
          exact g_retz cd_Te_hasGoodParts rfl (Or.inl rfl) ⟨_, rfl, bz_fin kk (by simp [gp, bz, c33, c122, c127, c174])⟩
        · have c174 : ¬ (¬ (te_get B ca sz x0 0) = 2) := c174
          refine g_ild (pc' := 179) cd_Te_hasGoodParts rfl (Or.inl ⟨rfl, rfl⟩) l4 rfl ?_
          refine g_if1 (t := 186) (pc' := 182) cd_Te_hasGoodParts rfl rfl rfl (fun c179 => ?_) (fun c179 => ?_)
          · have c179 : ¬ x1 = 0 := c179
            refine g_k1 (v := 0) (pc' := 187) cd_Te_hasGoodParts rfl (by decide) rfl ?_
            exact g_retz cd_Te_hasGoodParts rfl (Or.inl rfl) ⟨_, rfl, bz_fin kk (by simp [gp, bz, c33, c122, c127, c174, c179])⟩
          · have c179 : ¬ (¬ x1 = 0) := c179
            refine g_k1 (v := 1) (pc' := 183) cd_Te_hasGoodParts rfl (by decide) rfl ?_
            refine g_pure (pc' := 187) (st' := [.int 1]) cd_Te_hasGoodParts rfl rfl (fun _ _ => rfl) ?_
            exact g_retz cd_Te_hasGoodParts rfl (Or.inr rfl) ⟨_, rfl, bz_fin kk (by simp [gp, bz, c33, c122, c127, c174, c179])⟩
      · have c127 : ¬ x3 = 0 := c127
        refine g_k1 (v := 0) (pc' := 131) cd_Te_hasGoodParts rfl (by decide) rfl ?_
        exact g_retz cd_Te_hasGoodParts rfl (Or.inl rfl) ⟨_, rfl, bz_fin kk (by simp [gp, bz, c33, c122, c127])⟩
  · exact absurd (show ¬ (¬ (2 : Int32) = 3) from c33) (by decide)
set_option maxRecDepth 100000 in
theorem k_Te_hasGoodParts_3 {sc : tm_X} {d : Nat} {B : bm_H} {a ca ba da rm sz dr : Nat} {t : Int32} {Q : Int32 → bm_H → Prop} (hT : te_ok B a ca ba da rm sz dr) (kk : Q (bz (te_gp B ca sz t 3)) B) : bm_Gi sc (d + 1) 74 [.ref a, .int t, .int 3] B Q := by
  unfold te_gp at kk
  show bm_G sc (d + 1) 74 0 [(0, .ref a), (1, .int t), (2, .int 3)] [] B _
  generalize elv : ([(0, .ref a), (1, .int t), (2, .int 3)] : tm_L) = lv
  have l0 : lv.lookup 0 = some (.ref a) := by rw [← elv]; rfl
  have l1 : lv.lookup 1 = some (.int t) := by rw [← elv]; rfl
  have l2 : lv.lookup 2 = some (.int 3) := by rw [← elv]; rfl
  clear elv
  refine g_ald (pc' := 1) cd_Te_hasGoodParts rfl (Or.inr ⟨_, rfl, rfl, rfl⟩) l0 rfl rfl ?_
  refine g_ild (pc' := 2) cd_Te_hasGoodParts rfl (Or.inr ⟨_, rfl, rfl, rfl⟩) l1 rfl ?_
  refine g_k1 (v := 0) (pc' := 3) cd_Te_hasGoodParts rfl (by decide) rfl ?_
  refine g_calli (pc' := 6) cd_Te_hasGoodParts rfl rfl rfl rfl rfl (tm_invV rfl rfl cd_Te_partOf rfl (Nat.le_of_ble_eq_true rfl) (by decide) hT.1.1 hT.1.2) (k_Te_partOf hT ?_)
  generalize hx0 : te_gt2 B ca sz t 0 6 = x0
  try rw [hx0] at kk
  show bm_G _ _ _ 6 _ [.int x0] B _
  refine g_ist (pc' := 7) cd_Te_hasGoodParts rfl (Or.inr ⟨_, rfl, rfl, rfl⟩) (by decide) rfl (fun lv el => ?_)
  have l0 := tm_lk el l0 rfl (by decide)
  have l1 := tm_lk el l1 rfl (by decide)
  have l2 := tm_lk el l2 rfl (by decide)
  have l3 : lv.lookup 3 = some (.int x0) := tm_lks el
  clear el
  refine g_ald (pc' := 8) cd_Te_hasGoodParts rfl (Or.inr ⟨_, rfl, rfl, rfl⟩) l0 rfl rfl ?_
  refine g_ild (pc' := 9) cd_Te_hasGoodParts rfl (Or.inr ⟨_, rfl, rfl, rfl⟩) l1 rfl ?_
  refine g_k1 (v := 1) (pc' := 10) cd_Te_hasGoodParts rfl (by decide) rfl ?_
  refine g_calli (pc' := 13) cd_Te_hasGoodParts rfl rfl rfl rfl rfl (tm_invV rfl rfl cd_Te_partOf rfl (Nat.le_of_ble_eq_true rfl) (by decide) hT.1.1 hT.1.2) (k_Te_partOf hT ?_)
  generalize hx1 : te_gt2 B ca sz t 1 6 = x1
  try rw [hx1] at kk
  show bm_G _ _ _ 13 _ [.int x1] B _
  refine g_ist (pc' := 15) cd_Te_hasGoodParts rfl (Or.inl ⟨rfl, rfl⟩) (by decide) rfl (fun lv el => ?_)
  have l0 := tm_lk el l0 rfl (by decide)
  have l1 := tm_lk el l1 rfl (by decide)
  have l2 := tm_lk el l2 rfl (by decide)
  have l3 := tm_lk el l3 rfl (by decide)
  have l4 : lv.lookup 4 = some (.int x1) := tm_lks el
  clear el
  refine g_ald (pc' := 16) cd_Te_hasGoodParts rfl (Or.inr ⟨_, rfl, rfl, rfl⟩) l0 rfl rfl ?_
  refine g_ild (pc' := 17) cd_Te_hasGoodParts rfl (Or.inr ⟨_, rfl, rfl, rfl⟩) l1 rfl ?_
  refine g_k1 (v := 2) (pc' := 18) cd_Te_hasGoodParts rfl (by decide) rfl ?_
  refine g_calli (pc' := 21) cd_Te_hasGoodParts rfl rfl rfl rfl rfl (tm_invV rfl rfl cd_Te_partOf rfl (Nat.le_of_ble_eq_true rfl) (by decide) hT.1.1 hT.1.2) (k_Te_partOf hT ?_)
  generalize hx2 : te_gt2 B ca sz t 2 6 = x2
  try rw [hx2] at kk
  show bm_G _ _ _ 21 _ [.int x2] B _
  refine g_ist (pc' := 23) cd_Te_hasGoodParts rfl (Or.inl ⟨rfl, rfl⟩) (by decide) rfl (fun lv el => ?_)
  have l0 := tm_lk el l0 rfl (by decide)
  have l1 := tm_lk el l1 rfl (by decide)
  have l2 := tm_lk el l2 rfl (by decide)
  have l3 := tm_lk el l3 rfl (by decide)
  have l4 := tm_lk el l4 rfl (by decide)
  have l5 : lv.lookup 5 = some (.int x2) := tm_lks el
  clear el
  refine g_ald (pc' := 24) cd_Te_hasGoodParts rfl (Or.inr ⟨_, rfl, rfl, rfl⟩) l0 rfl rfl ?_
  refine g_ild (pc' := 25) cd_Te_hasGoodParts rfl (Or.inr ⟨_, rfl, rfl, rfl⟩) l1 rfl ?_
  refine g_k1 (v := 3) (pc' := 26) cd_Te_hasGoodParts rfl (by decide) rfl ?_
  refine g_calli (pc' := 29) cd_Te_hasGoodParts rfl rfl rfl rfl rfl (tm_invV rfl rfl cd_Te_partOf rfl (Nat.le_of_ble_eq_true rfl) (by decide) hT.1.1 hT.1.2) (k_Te_partOf hT ?_)
  generalize hx3 : te_gt2 B ca sz t 3 6 = x3
  try rw [hx3] at kk
  show bm_G _ _ _ 29 _ [.int x3] B _
  refine g_ist (pc' := 31) cd_Te_hasGoodParts rfl (Or.inl ⟨rfl, rfl⟩) (by decide) rfl (fun lv el => ?_)
  have l0 := tm_lk el l0 rfl (by decide)
  have l1 := tm_lk el l1 rfl (by decide)
  have l2 := tm_lk el l2 rfl (by decide)
  have l3 := tm_lk el l3 rfl (by decide)
  have l4 := tm_lk el l4 rfl (by decide)
  have l5 := tm_lk el l5 rfl (by decide)
  have l6 : lv.lookup 6 = some (.int x3) := tm_lks el
  clear el
  refine g_ild (pc' := 32) cd_Te_hasGoodParts rfl (Or.inr ⟨_, rfl, rfl, rfl⟩) l2 rfl ?_
  refine g_k1 (v := 3) (pc' := 33) cd_Te_hasGoodParts rfl (by decide) rfl ?_
  refine g_if2 (t := 120) (pc' := 36) cd_Te_hasGoodParts rfl rfl rfl (fun c33 => ?_) (fun c33 => ?_)
  · exact absurd (show ¬ (3 : Int32) = 3 from c33) (by decide)
  · have c33 : ¬ (¬ (3 : Int32) = 3) := c33
    refine g_ald (pc' := 37) cd_Te_hasGoodParts rfl (Or.inr ⟨_, rfl, rfl, rfl⟩) l0 rfl rfl ?_
    refine g_ild (pc' := 39) cd_Te_hasGoodParts rfl (Or.inl ⟨rfl, rfl⟩) l5 rfl ?_
    refine g_calli (pc' := 42) cd_Te_hasGoodParts rfl rfl rfl rfl rfl (tm_invV rfl rfl cd_Te_kindOf rfl (Nat.le_of_ble_eq_true rfl) (by decide) hT.1.1 hT.1.2) (k_Te_kindOf hT ?_)
    show bm_G _ _ _ 42 _ [.int (te_get B ca sz x2 0)] B _
    refine g_k1 (v := 2) (pc' := 43) cd_Te_hasGoodParts rfl (by decide) rfl ?_
    refine g_if2 (t := 65) (pc' := 46) cd_Te_hasGoodParts rfl rfl rfl (fun c43 => ?_) (fun c43 => ?_)
    · have c43 : ¬ (te_get B ca sz x2 0) = 2 := c43
      refine g_k1 (v := 0) (pc' := 66) cd_Te_hasGoodParts rfl (by decide) rfl ?_
      refine g_ist (pc' := 68) cd_Te_hasGoodParts rfl (Or.inl ⟨rfl, rfl⟩) (by decide) rfl (fun lv el => ?_)
      have l0 := tm_lk el l0 rfl (by decide)
      have l1 := tm_lk el l1 rfl (by decide)
      have l2 := tm_lk el l2 rfl (by decide)
      have l3 := tm_lk el l3 rfl (by decide)
      have l4 := tm_lk el l4 rfl (by decide)
      have l5 := tm_lk el l5 rfl (by decide)
      have l6 := tm_lk el l6 rfl (by decide)
      have l7 : lv.lookup 7 = some (.int 0) := tm_lks el
      clear el
      refine g_ild (pc' := 70) cd_Te_hasGoodParts rfl (Or.inl ⟨rfl, rfl⟩) l5 rfl ?_
      refine g_if1 (t := 82) (pc' := 73) cd_Te_hasGoodParts rfl rfl rfl (fun c70 => ?_) (fun c70 => ?_)
      · have c70 : ¬ x2 = 0 := c70
        refine g_k1 (v := 0) (pc' := 83) cd_Te_hasGoodParts rfl (by decide) rfl ?_
        refine g_ist (pc' := 85) cd_Te_hasGoodParts rfl (Or.inl ⟨rfl, rfl⟩) (by decide) rfl (fun lv el => ?_)
        have l0 := tm_lk el l0 rfl (by decide)
        have l1 := tm_lk el l1 rfl (by decide)
        have l2 := tm_lk el l2 rfl (by decide)
        have l3 := tm_lk el l3 rfl (by decide)
        have l4 := tm_lk el l4 rfl (by decide)
        have l5 := tm_lk el l5 rfl (by decide)
        have l6 := tm_lk el l6 rfl (by decide)
        have l7 := tm_lk el l7 rfl (by decide)
        have l8 : lv.lookup 8 = some (.int 0) := tm_lks el
        clear el
        refine g_ald (pc' := 86) cd_Te_hasGoodParts rfl (Or.inr ⟨_, rfl, rfl, rfl⟩) l0 rfl rfl ?_
        refine g_ild (pc' := 87) cd_Te_hasGoodParts rfl (Or.inr ⟨_, rfl, rfl, rfl⟩) l3 rfl ?_
        refine g_calli (pc' := 90) cd_Te_hasGoodParts rfl rfl rfl rfl rfl (tm_invV rfl rfl cd_Te_kindOf rfl (Nat.le_of_ble_eq_true rfl) (by decide) hT.1.1 hT.1.2) (k_Te_kindOf hT ?_)
        show bm_G _ _ _ 90 _ [.int (te_get B ca sz x0 0)] B _
        refine g_k1 (v := 2) (pc' := 91) cd_Te_hasGoodParts rfl (by decide) rfl ?_
        refine g_if2 (t := 118) (pc' := 94) cd_Te_hasGoodParts rfl rfl rfl (fun c91 => ?_) (fun c91 => ?_)
        · have c91 : ¬ (te_get B ca sz x0 0) = 2 := c91
          refine g_k1 (v := 0) (pc' := 119) cd_Te_hasGoodParts rfl (by decide) rfl ?_
          exact g_retz cd_Te_hasGoodParts rfl (Or.inl rfl) ⟨_, rfl, bz_fin kk (by simp [gp, bz, c33, c43, c70, c91])⟩
        · have c91 : ¬ (¬ (te_get B ca sz x0 0) = 2) := c91
          refine g_ald (pc' := 95) cd_Te_hasGoodParts rfl (Or.inr ⟨_, rfl, rfl, rfl⟩) l0 rfl rfl ?_
          refine g_ild (pc' := 97) cd_Te_hasGoodParts rfl (Or.inl ⟨rfl, rfl⟩) l4 rfl ?_
          refine g_calli (pc' := 100) cd_Te_hasGoodParts rfl rfl rfl rfl rfl (tm_invV rfl rfl cd_Te_kindOf rfl (Nat.le_of_ble_eq_true rfl) (by decide) hT.1.1 hT.1.2) (k_Te_kindOf hT ?_)
          show bm_G _ _ _ 100 _ [.int (te_get B ca sz x1 0)] B _
          refine g_k1 (v := 2) (pc' := 101) cd_Te_hasGoodParts rfl (by decide) rfl ?_
          refine g_if2 (t := 118) (pc' := 104) cd_Te_hasGoodParts rfl rfl rfl (fun c101 => ?_) (fun c101 => ?_)
          · have c101 : ¬ (te_get B ca sz x1 0) = 2 := c101
            refine g_k1 (v := 0) (pc' := 119) cd_Te_hasGoodParts rfl (by decide) rfl ?_
            exact g_retz cd_Te_hasGoodParts rfl (Or.inl rfl) ⟨_, rfl, bz_fin kk (by simp [gp, bz, c33, c43, c70, c91, c101])⟩
          · have c101 : ¬ (¬ (te_get B ca sz x1 0) = 2) := c101
            refine g_ild (pc' := 106) cd_Te_hasGoodParts rfl (Or.inl ⟨rfl, rfl⟩) l7 rfl ?_
            refine g_if1 (t := 114) (pc' := 109) cd_Te_hasGoodParts rfl rfl rfl (fun c106 => ?_) (fun c106 => ?_)
            · exact absurd (show ¬ (0 : Int32) = 0 from c106) (by decide)
            · have c106 : ¬ (¬ (0 : Int32) = 0) := c106
              refine g_ild (pc' := 111) cd_Te_hasGoodParts rfl (Or.inl ⟨rfl, rfl⟩) l8 rfl ?_
              refine g_if1 (t := 118) (pc' := 114) cd_Te_hasGoodParts rfl rfl rfl (fun c111 => ?_) (fun c111 => ?_)
              · have c111 : (0 : Int32) = 0 := c111
                refine g_k1 (v := 0) (pc' := 119) cd_Te_hasGoodParts rfl (by decide) rfl ?_
                exact g_retz cd_Te_hasGoodParts rfl (Or.inl rfl) ⟨_, rfl, bz_fin kk (by simp [gp, bz, c33, c43, c70, c91, c101, c106, c111])⟩
              · exact absurd (show ¬ (0 : Int32) = 0 from c111) (by decide)
      · have c70 : ¬ (¬ x2 = 0) := c70
        refine g_ild (pc' := 75) cd_Te_hasGoodParts rfl (Or.inl ⟨rfl, rfl⟩) l6 rfl ?_
        refine g_if1 (t := 82) (pc' := 78) cd_Te_hasGoodParts rfl rfl rfl (fun c75 => ?_) (fun c75 => ?_)
        · have c75 : ¬ x3 = 0 := c75
          refine g_k1 (v := 0) (pc' := 83) cd_Te_hasGoodParts rfl (by decide) rfl ?_
          refine g_ist (pc' := 85) cd_Te_hasGoodParts rfl (Or.inl ⟨rfl, rfl⟩) (by decide) rfl (fun lv el => ?_)
          have l0 := tm_lk el l0 rfl (by decide)
          have l1 := tm_lk el l1 rfl (by decide)
          have l2 := tm_lk el l2 rfl (by decide)
          have l3 := tm_lk el l3 rfl (by decide)
          have l4 := tm_lk el l4 rfl (by decide)
          have l5 := tm_lk el l5 rfl (by decide)
          have l6 := tm_lk el l6 rfl (by decide)
          have l7 := tm_lk el l7 rfl (by decide)
          have l8 : lv.lookup 8 = some (.int 0) := tm_lks el
          clear el
          refine g_ald (pc' := 86) cd_Te_hasGoodParts rfl (Or.inr ⟨_, rfl, rfl, rfl⟩) l0 rfl rfl ?_
          refine g_ild (pc' := 87) cd_Te_hasGoodParts rfl (Or.inr ⟨_, rfl, rfl, rfl⟩) l3 rfl ?_
          refine g_calli (pc' := 90) cd_Te_hasGoodParts rfl rfl rfl rfl rfl (tm_invV rfl rfl cd_Te_kindOf rfl (Nat.le_of_ble_eq_true rfl) (by decide) hT.1.1 hT.1.2) (k_Te_kindOf hT ?_)
          show bm_G _ _ _ 90 _ [.int (te_get B ca sz x0 0)] B _
          refine g_k1 (v := 2) (pc' := 91) cd_Te_hasGoodParts rfl (by decide) rfl ?_
          refine g_if2 (t := 118) (pc' := 94) cd_Te_hasGoodParts rfl rfl rfl (fun c91 => ?_) (fun c91 => ?_)
          · have c91 : ¬ (te_get B ca sz x0 0) = 2 := c91
            refine g_k1 (v := 0) (pc' := 119) cd_Te_hasGoodParts rfl (by decide) rfl ?_
            exact g_retz cd_Te_hasGoodParts rfl (Or.inl rfl) ⟨_, rfl, bz_fin kk (by simp [gp, bz, c33, c43, c70, c75, c91])⟩
          · have c91 : ¬ (¬ (te_get B ca sz x0 0) = 2) := c91
            refine g_ald (pc' := 95) cd_Te_hasGoodParts rfl (Or.inr ⟨_, rfl, rfl, rfl⟩) l0 rfl rfl ?_
            refine g_ild (pc' := 97) cd_Te_hasGoodParts rfl (Or.inl ⟨rfl, rfl⟩) l4 rfl ?_
            refine g_calli (pc' := 100) cd_Te_hasGoodParts rfl rfl rfl rfl rfl (tm_invV rfl rfl cd_Te_kindOf rfl (Nat.le_of_ble_eq_true rfl) (by decide) hT.1.1 hT.1.2) (k_Te_kindOf hT ?_)
            show bm_G _ _ _ 100 _ [.int (te_get B ca sz x1 0)] B _
            refine g_k1 (v := 2) (pc' := 101) cd_Te_hasGoodParts rfl (by decide) rfl ?_
            refine g_if2 (t := 118) (pc' := 104) cd_Te_hasGoodParts rfl rfl rfl (fun c101 => ?_) (fun c101 => ?_)
            · have c101 : ¬ (te_get B ca sz x1 0) = 2 := c101
              refine g_k1 (v := 0) (pc' := 119) cd_Te_hasGoodParts rfl (by decide) rfl ?_
              exact g_retz cd_Te_hasGoodParts rfl (Or.inl rfl) ⟨_, rfl, bz_fin kk (by simp [gp, bz, c33, c43, c70, c75, c91, c101])⟩
            · have c101 : ¬ (¬ (te_get B ca sz x1 0) = 2) := c101
              refine g_ild (pc' := 106) cd_Te_hasGoodParts rfl (Or.inl ⟨rfl, rfl⟩) l7 rfl ?_
              refine g_if1 (t := 114) (pc' := 109) cd_Te_hasGoodParts rfl rfl rfl (fun c106 => ?_) (fun c106 => ?_)
              · exact absurd (show ¬ (0 : Int32) = 0 from c106) (by decide)
              · have c106 : ¬ (¬ (0 : Int32) = 0) := c106
                refine g_ild (pc' := 111) cd_Te_hasGoodParts rfl (Or.inl ⟨rfl, rfl⟩) l8 rfl ?_
                refine g_if1 (t := 118) (pc' := 114) cd_Te_hasGoodParts rfl rfl rfl (fun c111 => ?_) (fun c111 => ?_)
                · have c111 : (0 : Int32) = 0 := c111
                  refine g_k1 (v := 0) (pc' := 119) cd_Te_hasGoodParts rfl (by decide) rfl ?_
                  exact g_retz cd_Te_hasGoodParts rfl (Or.inl rfl) ⟨_, rfl, bz_fin kk (by simp [gp, bz, c33, c43, c70, c75, c91, c101, c106, c111])⟩
                · exact absurd (show ¬ (0 : Int32) = 0 from c111) (by decide)
        · have c75 : ¬ (¬ x3 = 0) := c75
          refine g_k1 (v := 1) (pc' := 79) cd_Te_hasGoodParts rfl (by decide) rfl ?_
          refine g_pure (pc' := 83) (st' := [.int 1]) cd_Te_hasGoodParts rfl rfl (fun _ _ => rfl) ?_
          refine g_ist (pc' := 85) cd_Te_hasGoodParts rfl (Or.inl ⟨rfl, rfl⟩) (by decide) rfl (fun lv el => ?_)
          have l0 := tm_lk el l0 rfl (by decide)
          have l1 := tm_lk el l1 rfl (by decide)
          have l2 := tm_lk el l2 rfl (by decide)
          have l3 := tm_lk el l3 rfl (by decide)
          have l4 := tm_lk el l4 rfl (by decide)
          have l5 := tm_lk el l5 rfl (by decide)
          have l6 := tm_lk el l6 rfl (by decide)
          have l7 := tm_lk el l7 rfl (by decide)
          have l8 : lv.lookup 8 = some (.int 1) := tm_lks el
          clear el
          refine g_ald (pc' := 86) cd_Te_hasGoodParts rfl (Or.inr ⟨_, rfl, rfl, rfl⟩) l0 rfl rfl ?_
          refine g_ild (pc' := 87) cd_Te_hasGoodParts rfl (Or.inr ⟨_, rfl, rfl, rfl⟩) l3 rfl ?_
          refine g_calli (pc' := 90) cd_Te_hasGoodParts rfl rfl rfl rfl rfl (tm_invV rfl rfl cd_Te_kindOf rfl (Nat.le_of_ble_eq_true rfl) (by decide) hT.1.1 hT.1.2) (k_Te_kindOf hT ?_)
          show bm_G _ _ _ 90 _ [.int (te_get B ca sz x0 0)] B _
          refine g_k1 (v := 2) (pc' := 91) cd_Te_hasGoodParts rfl (by decide) rfl ?_
          refine g_if2 (t := 118) (pc' := 94) cd_Te_hasGoodParts rfl rfl rfl (fun c91 => ?_) (fun c91 => ?_)
          · have c91 : ¬ (te_get B ca sz x0 0) = 2 := c91
            refine g_k1 (v := 0) (pc' := 119) cd_Te_hasGoodParts rfl (by decide) rfl ?_
            exact g_retz cd_Te_hasGoodParts rfl (Or.inl rfl) ⟨_, rfl, bz_fin kk (by simp [gp, bz, c33, c43, c70, c75, c91])⟩
          · have c91 : ¬ (¬ (te_get B ca sz x0 0) = 2) := c91
            refine g_ald (pc' := 95) cd_Te_hasGoodParts rfl (Or.inr ⟨_, rfl, rfl, rfl⟩) l0 rfl rfl ?_
            refine g_ild (pc' := 97) cd_Te_hasGoodParts rfl (Or.inl ⟨rfl, rfl⟩) l4 rfl ?_
            refine g_calli (pc' := 100) cd_Te_hasGoodParts rfl rfl rfl rfl rfl (tm_invV rfl rfl cd_Te_kindOf rfl (Nat.le_of_ble_eq_true rfl) (by decide) hT.1.1 hT.1.2) (k_Te_kindOf hT ?_)
            show bm_G _ _ _ 100 _ [.int (te_get B ca sz x1 0)] B _
            refine g_k1 (v := 2) (pc' := 101) cd_Te_hasGoodParts rfl (by decide) rfl ?_
            refine g_if2 (t := 118) (pc' := 104) cd_Te_hasGoodParts rfl rfl rfl (fun c101 => ?_) (fun c101 => ?_)
            · have c101 : ¬ (te_get B ca sz x1 0) = 2 := c101
              refine g_k1 (v := 0) (pc' := 119) cd_Te_hasGoodParts rfl (by decide) rfl ?_
              exact g_retz cd_Te_hasGoodParts rfl (Or.inl rfl) ⟨_, rfl, bz_fin kk (by simp [gp, bz, c33, c43, c70, c75, c91, c101])⟩
            · have c101 : ¬ (¬ (te_get B ca sz x1 0) = 2) := c101
              refine g_ild (pc' := 106) cd_Te_hasGoodParts rfl (Or.inl ⟨rfl, rfl⟩) l7 rfl ?_
              refine g_if1 (t := 114) (pc' := 109) cd_Te_hasGoodParts rfl rfl rfl (fun c106 => ?_) (fun c106 => ?_)
              · exact absurd (show ¬ (0 : Int32) = 0 from c106) (by decide)
              · have c106 : ¬ (¬ (0 : Int32) = 0) := c106
                refine g_ild (pc' := 111) cd_Te_hasGoodParts rfl (Or.inl ⟨rfl, rfl⟩) l8 rfl ?_
                refine g_if1 (t := 118) (pc' := 114) cd_Te_hasGoodParts rfl rfl rfl (fun c111 => ?_) (fun c111 => ?_)
                · exact absurd (show (1 : Int32) = 0 from c111) (by decide)
                · have c111 : ¬ (1 : Int32) = 0 := c111
                  refine g_k1 (v := 1) (pc' := 115) cd_Te_hasGoodParts rfl (by decide) rfl ?_
                  refine g_pure (pc' := 119) (st' := [.int 1]) cd_Te_hasGoodParts rfl rfl (fun _ _ => rfl) ?_
                  exact g_retz cd_Te_hasGoodParts rfl (Or.inr rfl) ⟨_, rfl, bz_fin kk (by simp [gp, bz, c33, c43, c70, c75, c91, c101, c106, c111])⟩
    · have c43 : ¬ (¬ (te_get B ca sz x2 0) = 2) := c43
      refine g_ild (pc' := 48) cd_Te_hasGoodParts rfl (Or.inl ⟨rfl, rfl⟩) l6 rfl ?_
      refine g_if1 (t := 61) (pc' := 51) cd_Te_hasGoodParts rfl rfl rfl (fun c48 => ?_) (fun c48 => ?_)
      · have c48 : x3 = 0 := c48
        refine g_k1 (v := 1) (pc' := 62) cd_Te_hasGoodParts rfl (by decide) rfl ?_
        refine g_pure (pc' := 66) (st' := [.int 1]) cd_Te_hasGoodParts rfl rfl (fun _ _ => rfl) ?_
        refine g_ist (pc' := 68) cd_Te_hasGoodParts rfl (Or.inl ⟨rfl, rfl⟩) (by decide) rfl (fun lv el => ?_)
        have l0 := tm_lk el l0 rfl (by decide)
        have l1 := tm_lk el l1 rfl (by decide)
        have l2 := tm_lk el l2 rfl (by decide)
        have l3 := tm_lk el l3 rfl (by decide)
        have l4 := tm_lk el l4 rfl (by decide)
        have l5 := tm_lk el l5 rfl (by decide)
        have l6 := tm_lk el l6 rfl (by decide)
        have l7 : lv.lookup 7 = some (.int 1) := tm_lks el
        clear el
        refine g_ild (pc' := 70) cd_Te_hasGoodParts rfl (Or.inl ⟨rfl, rfl⟩) l5 rfl ?_
        refine g_if1 (t := 82) (pc' := 73) cd_Te_hasGoodParts rfl rfl rfl (fun c70 => ?_) (fun c70 => ?_)
        · have c70 : ¬ x2 = 0 := c70
          refine g_k1 (v := 0) (pc' := 83) cd_Te_hasGoodParts rfl (by decide) rfl ?_
          refine g_ist (pc' := 85) cd_Te_hasGoodParts rfl (Or.inl ⟨rfl, rfl⟩) (by decide) rfl (fun lv el => ?_)
          have l0 := tm_lk el l0 rfl (by decide)
          have l1 := tm_lk el l1 rfl (by decide)
          have l2 := tm_lk el l2 rfl (by decide)
          have l3 := tm_lk el l3 rfl (by decide)
          have l4 := tm_lk el l4 rfl (by decide)
          have l5 := tm_lk el l5 rfl (by decide)
          have l6 := tm_lk el l6 rfl (by decide)
          have l7 := tm_lk el l7 rfl (by decide)
          have l8 : lv.lookup 8 = some (.int 0) := tm_lks el
          clear el
          refine g_ald (pc' := 86) cd_Te_hasGoodParts rfl (Or.inr ⟨_, rfl, rfl, rfl⟩) l0 rfl rfl ?_
          refine g_ild (pc' := 87) cd_Te_hasGoodParts rfl (Or.inr ⟨_, rfl, rfl, rfl⟩) l3 rfl ?_
          refine g_calli (pc' := 90) cd_Te_hasGoodParts rfl rfl rfl rfl rfl (tm_invV rfl rfl cd_Te_kindOf rfl (Nat.le_of_ble_eq_true rfl) (by decide) hT.1.1 hT.1.2) (k_Te_kindOf hT ?_)
          show bm_G _ _ _ 90 _ [.int (te_get B ca sz x0 0)] B _
          refine g_k1 (v := 2) (pc' := 91) cd_Te_hasGoodParts rfl (by decide) rfl ?_
          refine g_if2 (t := 118) (pc' := 94) cd_Te_hasGoodParts rfl rfl rfl (fun c91 => ?_) (fun c91 => ?_)
          · have c91 : ¬ (te_get B ca sz x0 0) = 2 := c91
            refine g_k1 (v := 0) (pc' := 119) cd_Te_hasGoodParts rfl (by decide) rfl ?_
            exact g_retz cd_Te_hasGoodParts rfl (Or.inl rfl) ⟨_, rfl, bz_fin kk (by simp [gp, bz, c33, c43, c48, c70, c91])⟩
          · have c91 : ¬ (¬ (te_get B ca sz x0 0) = 2) := c91
            refine g_ald (pc' := 95) cd_Te_hasGoodParts rfl (Or.inr ⟨_, rfl, rfl, rfl⟩) l0 rfl rfl ?_
            refine g_ild (pc' := 97) cd_Te_hasGoodParts rfl (Or.inl ⟨rfl, rfl⟩) l4 rfl ?_
            refine g_calli (pc' := 100) cd_Te_hasGoodParts rfl rfl rfl rfl rfl (tm_invV rfl rfl cd_Te_kindOf rfl (Nat.le_of_ble_eq_true rfl) (by decide) hT.1.1 hT.1.2) (k_Te_kindOf hT ?_)
            show bm_G _ _ _ 100 _ [.int (te_get B ca sz x1 0)] B _
            refine g_k1 (v := 2) (pc' := 101) cd_Te_hasGoodParts rfl (by decide) rfl ?_
            refine g_if2 (t := 118) (pc' := 104) cd_Te_hasGoodParts rfl rfl rfl (fun c101 => ?_) (fun c101 => ?_)
            · have c101 : ¬ (te_get B ca sz x1 0) = 2 := c101
              refine g_k1 (v := 0) (pc' := 119) cd_Te_hasGoodParts rfl (by decide) rfl ?_
              exact g_retz cd_Te_hasGoodParts rfl (Or.inl rfl) ⟨_, rfl, bz_fin kk (by simp [gp, bz, c33, c43, c48, c70, c91, c101])⟩
            · have c101 : ¬ (¬ (te_get B ca sz x1 0) = 2) := c101
              refine g_ild (pc' := 106) cd_Te_hasGoodParts rfl (Or.inl ⟨rfl, rfl⟩) l7 rfl ?_
              refine g_if1 (t := 114) (pc' := 109) cd_Te_hasGoodParts rfl rfl rfl (fun c106 => ?_) (fun c106 => ?_)
              · have c106 : ¬ (1 : Int32) = 0 := c106
                refine g_k1 (v := 1) (pc' := 115) cd_Te_hasGoodParts rfl (by decide) rfl ?_
                refine g_pure (pc' := 119) (st' := [.int 1]) cd_Te_hasGoodParts rfl rfl (fun _ _ => rfl) ?_
                exact g_retz cd_Te_hasGoodParts rfl (Or.inr rfl) ⟨_, rfl, bz_fin kk (by simp [gp, bz, c33, c43, c48, c70, c91, c101, c106])⟩
              · exact absurd (show ¬ (¬ (1 : Int32) = 0) from c106) (by decide)
        · have c70 : ¬ (¬ x2 = 0) := c70
          refine g_ild (pc' := 75) cd_Te_hasGoodParts rfl (Or.inl ⟨rfl, rfl⟩) l6 rfl ?_
          refine g_if1 (t := 82) (pc' := 78) cd_Te_hasGoodParts rfl rfl rfl (fun c75 => ?_) (fun c75 => ?_)
          · have c75 : ¬ x3 = 0 := c75
            refine g_k1 (v := 0) (pc' := 83) cd_Te_hasGoodParts rfl (by decide) rfl ?_
            refine g_ist (pc' := 85) cd_Te_hasGoodParts rfl (Or.inl ⟨rfl, rfl⟩) (by decide) rfl (fun lv el => ?_)
            have l0 := tm_lk el l0 rfl (by decide)
            have l1 := tm_lk el l1 rfl (by decide)
            have l2 := tm_lk el l2 rfl (by decide)
            have l3 := tm_lk el l3 rfl (by decide)
            have l4 := tm_lk el l4 rfl (by decide)
            have l5 := tm_lk el l5 rfl (by decide)
            have l6 := tm_lk el l6 rfl (by decide)
            have l7 := tm_lk el l7 rfl (by decide)
            have l8 : lv.lookup 8 = some (.int 0) := tm_lks el
            clear el
            refine g_ald (pc' := 86) cd_Te_hasGoodParts rfl (Or.inr ⟨_, rfl, rfl, rfl⟩) l0 rfl rfl ?_
            refine g_ild (pc' := 87) cd_Te_hasGoodParts rfl (Or.inr ⟨_, rfl, rfl, rfl⟩) l3 rfl ?_
            refine g_calli (pc' := 90) cd_Te_hasGoodParts rfl rfl rfl rfl rfl (tm_invV rfl rfl cd_Te_kindOf rfl (Nat.le_of_ble_eq_true rfl) (by decide) hT.1.1 hT.1.2) (k_Te_kindOf hT ?_)
            show bm_G _ _ _ 90 _ [.int (te_get B ca sz x0 0)] B _
            refine g_k1 (v := 2) (pc' := 91) cd_Te_hasGoodParts rfl (by decide) rfl ?_
            refine g_if2 (t := 118) (pc' := 94) cd_Te_hasGoodParts rfl rfl rfl (fun c91 => ?_) (fun c91 => ?_)
            · have c91 : ¬ (te_get B ca sz x0 0) = 2 := c91
              refine g_k1 (v := 0) (pc' := 119) cd_Te_hasGoodParts rfl (by decide) rfl ?_
              exact g_retz cd_Te_hasGoodParts rfl (Or.inl rfl) ⟨_, rfl, bz_fin kk (by first | (simp [gp, bz, c33, c43, c48, c70, c75, c91]; done) | exact absurd (Classical.not_not.mp c75) c48)⟩
            · have c91 : ¬ (¬ (te_get B ca sz x0 0) = 2) := c91
              refine g_ald (pc' := 95) cd_Te_hasGoodParts rfl (Or.inr ⟨_, rfl, rfl, rfl⟩) l0 rfl rfl ?_
              refine g_ild (pc' := 97) cd_Te_hasGoodParts rfl (Or.inl ⟨rfl, rfl⟩) l4 rfl ?_
              refine g_calli (pc' := 100) cd_Te_hasGoodParts rfl rfl rfl rfl rfl (tm_invV rfl rfl cd_Te_kindOf rfl (Nat.le_of_ble_eq_true rfl) (by decide) hT.1.1 hT.1.2) (k_Te_kindOf hT ?_)
              show bm_G _ _ _ 100 _ [.int (te_get B ca sz x1 0)] B _
              refine g_k1 (v := 2) (pc' := 101) cd_Te_hasGoodParts rfl (by decide) rfl ?_
              refine g_if2 (t := 118) (pc' := 104) cd_Te_hasGoodParts rfl rfl rfl (fun c101 => ?_) (fun c101 => ?_)
              · have c101 : ¬ (te_get B ca sz x1 0) = 2 := c101
                refine g_k1 (v := 0) (pc' := 119) cd_Te_hasGoodParts rfl (by decide) rfl ?_
                exact g_retz cd_Te_hasGoodParts rfl (Or.inl rfl) ⟨_, rfl, bz_fin kk (by first | (simp [gp, bz, c33, c43, c48, c70, c75, c91, c101]; done) | exact absurd (Classical.not_not.mp c75) c48)⟩
              · have c101 : ¬ (¬ (te_get B ca sz x1 0) = 2) := c101
                refine g_ild (pc' := 106) cd_Te_hasGoodParts rfl (Or.inl ⟨rfl, rfl⟩) l7 rfl ?_
                refine g_if1 (t := 114) (pc' := 109) cd_Te_hasGoodParts rfl rfl rfl (fun c106 => ?_) (fun c106 => ?_)
                · have c106 : ¬ (1 : Int32) = 0 := c106
                  refine g_k1 (v := 1) (pc' := 115) cd_Te_hasGoodParts rfl (by decide) rfl ?_
                  refine g_pure (pc' := 119) (st' := [.int 1]) cd_Te_hasGoodParts rfl rfl (fun _ _ => rfl) ?_
                  exact g_retz cd_Te_hasGoodParts rfl (Or.inr rfl) ⟨_, rfl, bz_fin kk (by first | (simp [gp, bz, c33, c43, c48, c70, c75, c91, c101, c106]; done) | exact absurd (Classical.not_not.mp c75) c48)⟩
                · exact absurd (show ¬ (¬ (1 : Int32) = 0) from c106) (by decide)
          · have c75 : ¬ (¬ x3 = 0) := c75
            refine g_k1 (v := 1) (pc' := 79) cd_Te_hasGoodParts rfl (by decide) rfl ?_
            refine g_pure (pc' := 83) (st' := [.int 1]) cd_Te_hasGoodParts rfl rfl (fun _ _ => rfl) ?_
            refine g_ist (pc' := 85) cd_Te_hasGoodParts rfl (Or.inl ⟨rfl, rfl⟩) (by decide) rfl (fun lv el => ?_)
            have l0 := tm_lk el l0 rfl (by decide)
            have l1 := tm_lk el l1 rfl (by decide)
            have l2 := tm_lk el l2 rfl (by decide)
            have l3 := tm_lk el l3 rfl (by decide)
            have l4 := tm_lk el l4 rfl (by decide)
            have l5 := tm_lk el l5 rfl (by decide)
            have l6 := tm_lk el l6 rfl (by decide)
            have l7 := tm_lk el l7 rfl (by decide)
            have l8 : lv.lookup 8 = some (.int 1) := tm_lks el
            clear el
            refine g_ald (pc' := 86) cd_Te_hasGoodParts rfl (Or.inr ⟨_, rfl, rfl, rfl⟩) l0 rfl rfl ?_
            refine g_ild (pc' := 87) cd_Te_hasGoodParts rfl (Or.inr ⟨_, rfl, rfl, rfl⟩) l3 rfl ?_
            refine g_calli (pc' := 90) cd_Te_hasGoodParts rfl rfl rfl rfl rfl (tm_invV rfl rfl cd_Te_kindOf rfl (Nat.le_of_ble_eq_true rfl) (by decide) hT.1.1 hT.1.2) (k_Te_kindOf hT ?_)
            show bm_G _ _ _ 90 _ [.int (te_get B ca sz x0 0)] B _
            refine g_k1 (v := 2) (pc' := 91) cd_Te_hasGoodParts rfl (by decide) rfl ?_
            refine g_if2 (t := 118) (pc' := 94) cd_Te_hasGoodParts rfl rfl rfl (fun c91 => ?_) (fun c91 => ?_)
            · have c91 : ¬ (te_get B ca sz x0 0) = 2 := c91
              refine g_k1 (v := 0) (pc' := 119) cd_Te_hasGoodParts rfl (by decide) rfl ?_
              exact g_retz cd_Te_hasGoodParts rfl (Or.inl rfl) ⟨_, rfl, bz_fin kk (by first | (simp [gp, bz, c33, c43, c48, c70, c75, c91]; done) | exact absurd (Classical.not_not.mp c75) c48)⟩
            · have c91 : ¬ (¬ (te_get B ca sz x0 0) = 2) := c91
              refine g_ald (pc' := 95) cd_Te_hasGoodParts rfl (Or.inr ⟨_, rfl, rfl, rfl⟩) l0 rfl rfl ?_
              refine g_ild (pc' := 97) cd_Te_hasGoodParts rfl (Or.inl ⟨rfl, rfl⟩) l4 rfl ?_
              refine g_calli (pc' := 100) cd_Te_hasGoodParts rfl rfl rfl rfl rfl (tm_invV rfl rfl cd_Te_kindOf rfl (Nat.le_of_ble_eq_true rfl) (by decide) hT.1.1 hT.1.2) (k_Te_kindOf hT ?_)
              show bm_G _ _ _ 100 _ [.int (te_get B ca sz x1 0)] B _
              refine g_k1 (v := 2) (pc' := 101) cd_Te_hasGoodParts rfl (by decide) rfl ?_
              refine g_if2 (t := 118) (pc' := 104) cd_Te_hasGoodParts rfl rfl rfl (fun c101 => ?_) (fun c101 => ?_)
              · have c101 : ¬ (te_get B ca sz x1 0) = 2 := c101
                refine g_k1 (v := 0) (pc' := 119) cd_Te_hasGoodParts rfl (by decide) rfl ?_
                exact g_retz cd_Te_hasGoodParts rfl (Or.inl rfl) ⟨_, rfl, bz_fin kk (by first | (simp [gp, bz, c33, c43, c48, c70, c75, c91, c101]; done) | exact absurd (Classical.not_not.mp c75) c48)⟩
              · have c101 : ¬ (¬ (te_get B ca sz x1 0) = 2) := c101
                refine g_ild (pc' := 106) cd_Te_hasGoodParts rfl (Or.inl ⟨rfl, rfl⟩) l7 rfl ?_
                refine g_if1 (t := 114) (pc' := 109) cd_Te_hasGoodParts rfl rfl rfl (fun c106 => ?_) (fun c106 => ?_)
                · have c106 : ¬ (1 : Int32) = 0 := c106
                  refine g_k1 (v := 1) (pc' := 115) cd_Te_hasGoodParts rfl (by decide) rfl ?_
                  refine g_pure (pc' := 119) (st' := [.int 1]) cd_Te_hasGoodParts rfl rfl (fun _ _ => rfl) ?_
                  exact g_retz cd_Te_hasGoodParts rfl (Or.inr rfl) ⟨_, rfl, bz_fin kk (by first | (simp [gp, bz, c33, c43, c48, c70, c75, c91, c101, c106]; done) | exact absurd (Classical.not_not.mp c75) c48)⟩
                · exact absurd (show ¬ (¬ (1 : Int32) = 0) from c106) (by decide)
      · have c48 : ¬ x3 = 0 := c48
        refine g_ald (pc' := 52) cd_Te_hasGoodParts rfl (Or.inr ⟨_, rfl, rfl, rfl⟩) l0 rfl rfl ?_
        refine g_ild (pc' := 54) cd_Te_hasGoodParts rfl (Or.inl ⟨rfl, rfl⟩) l6 rfl ?_
        refine g_calli (pc' := 57) cd_Te_hasGoodParts rfl rfl rfl rfl rfl (tm_invV rfl rfl cd_Te_kindOf rfl (Nat.le_of_ble_eq_true rfl) (by decide) hT.1.1 hT.1.2) (k_Te_kindOf hT ?_)
        show bm_G _ _ _ 57 _ [.int (te_get B ca sz x3 0)] B _
        refine g_k1 (v := 2) (pc' := 58) cd_Te_hasGoodParts rfl (by decide) rfl ?_
        refine g_if2 (t := 65) (pc' := 61) cd_Te_hasGoodParts rfl rfl rfl (fun c58 => ?_) (fun c58 => ?_)
        · have c58 : ¬ (te_get B ca sz x3 0) = 2 := c58
          refine g_k1 (v := 0) (pc' := 66) cd_Te_hasGoodParts rfl (by decide) rfl ?_
          refine g_ist (pc' := 68) cd_Te_hasGoodParts rfl (Or.inl ⟨rfl, rfl⟩) (by decide) rfl (fun lv el => ?_)
          have l0 := tm_lk el l0 rfl (by decide)
          have l1 := tm_lk el l1 rfl (by decide)
          have l2 := tm_lk el l2 rfl (by decide)
          have l3 := tm_lk el l3 rfl (by decide)
          have l4 := tm_lk el l4 rfl (by decide)
          have l5 := tm_lk el l5 rfl (by decide)
          have l6 := tm_lk el l6 rfl (by decide)
          have l7 : lv.lookup 7 = some (.int 0) := tm_lks el
          clear el
          refine g_ild (pc' := 70) cd_Te_hasGoodParts rfl (Or.inl ⟨rfl, rfl⟩) l5 rfl ?_
          refine g_if1 (t := 82) (pc' := 73) cd_Te_hasGoodParts rfl rfl rfl (fun c70 => ?_) (fun c70 => ?_)
          · have c70 : ¬ x2 = 0 := c70
            refine g_k1 (v := 0) (pc' := 83) cd_Te_hasGoodParts rfl (by decide) rfl ?_
            refine g_ist (pc' := 85) cd_Te_hasGoodParts rfl (Or.inl ⟨rfl, rfl⟩) (by decide) rfl (fun lv el => ?_)
            have l0 := tm_lk el l0 rfl (by decide)
            have l1 := tm_lk el l1 rfl (by decide)
            have l2 := tm_lk el l2 rfl (by decide)
            have l3 := tm_lk el l3 rfl (by decide)
            have l4 := tm_lk el l4 rfl (by decide)
            have l5 := tm_lk el l5 rfl (by decide)
            have l6 := tm_lk el l6 rfl (by decide)
            have l7 := tm_lk el l7 rfl (by decide)
            have l8 : lv.lookup 8 = some (.int 0) := tm_lks el
            clear el
            refine g_ald (pc' := 86) cd_Te_hasGoodParts rfl (Or.inr ⟨_, rfl, rfl, rfl⟩) l0 rfl rfl ?_
            refine g_ild (pc' := 87) cd_Te_hasGoodParts rfl (Or.inr ⟨_, rfl, rfl, rfl⟩) l3 rfl ?_
            refine g_calli (pc' := 90) cd_Te_hasGoodParts rfl rfl rfl rfl rfl (tm_invV rfl rfl cd_Te_kindOf rfl (Nat.le_of_ble_eq_true rfl) (by decide) hT.1.1 hT.1.2) (k_Te_kindOf hT ?_)
            show bm_G _ _ _ 90 _ [.int (te_get B ca sz x0 0)] B _
            refine g_k1 (v := 2) (pc' := 91) cd_Te_hasGoodParts rfl (by decide) rfl ?_
            refine g_if2 (t := 118) (pc' := 94) cd_Te_hasGoodParts rfl rfl rfl (fun c91 => ?_) (fun c91 => ?_)
            · have c91 : ¬ (te_get B ca sz x0 0) = 2 := c91
              refine g_k1 (v := 0) (pc' := 119) cd_Te_hasGoodParts rfl (by decide) rfl ?_
              exact g_retz cd_Te_hasGoodParts rfl (Or.inl rfl) ⟨_, rfl, bz_fin kk (by simp [gp, bz, c33, c43, c48, c58, c70, c91])⟩
            · have c91 : ¬ (¬ (te_get B ca sz x0 0) = 2) := c91
              refine g_ald (pc' := 95) cd_Te_hasGoodParts rfl (Or.inr ⟨_, rfl, rfl, rfl⟩) l0 rfl rfl ?_
              refine g_ild (pc' := 97) cd_Te_hasGoodParts rfl (Or.inl ⟨rfl, rfl⟩) l4 rfl ?_
              refine g_calli (pc' := 100) cd_Te_hasGoodParts rfl rfl rfl rfl rfl (tm_invV rfl rfl cd_Te_kindOf rfl (Nat.le_of_ble_eq_true rfl) (by decide) hT.1.1 hT.1.2) (k_Te_kindOf hT ?_)
              show bm_G _ _ _ 100 _ [.int (te_get B ca sz x1 0)] B _
              refine g_k1 (v := 2) (pc' := 101) cd_Te_hasGoodParts rfl (by decide) rfl ?_
              refine g_if2 (t := 118) (pc' := 104) cd_Te_hasGoodParts rfl rfl rfl (fun c101 => ?_) (fun c101 => ?_)
              · have c101 : ¬ (te_get B ca sz x1 0) = 2 := c101
                refine g_k1 (v := 0) (pc' := 119) cd_Te_hasGoodParts rfl (by decide) rfl ?_
                exact g_retz cd_Te_hasGoodParts rfl (Or.inl rfl) ⟨_, rfl, bz_fin kk (by simp [gp, bz, c33, c43, c48, c58, c70, c91, c101])⟩
              · have c101 : ¬ (¬ (te_get B ca sz x1 0) = 2) := c101
                refine g_ild (pc' := 106) cd_Te_hasGoodParts rfl (Or.inl ⟨rfl, rfl⟩) l7 rfl ?_
                refine g_if1 (t := 114) (pc' := 109) cd_Te_hasGoodParts rfl rfl rfl (fun c106 => ?_) (fun c106 => ?_)
                · exact absurd (show ¬ (0 : Int32) = 0 from c106) (by decide)
                · have c106 : ¬ (¬ (0 : Int32) = 0) := c106
                  refine g_ild (pc' := 111) cd_Te_hasGoodParts rfl (Or.inl ⟨rfl, rfl⟩) l8 rfl ?_
                  refine g_if1 (t := 118) (pc' := 114) cd_Te_hasGoodParts rfl rfl rfl (fun c111 => ?_) (fun c111 => ?_)
                  · have c111 : (0 : Int32) = 0 := c111
                    refine g_k1 (v := 0) (pc' := 119) cd_Te_hasGoodParts rfl (by decide) rfl ?_
                    exact g_retz cd_Te_hasGoodParts rfl (Or.inl rfl) ⟨_, rfl, bz_fin kk (by simp [gp, bz, c33, c43, c48, c58, c70, c91, c101, c106, c111])⟩
                  · exact absurd (show ¬ (0 : Int32) = 0 from c111) (by decide)
          · have c70 : ¬ (¬ x2 = 0) := c70
            refine g_ild (pc' := 75) cd_Te_hasGoodParts rfl (Or.inl ⟨rfl, rfl⟩) l6 rfl ?_
            refine g_if1 (t := 82) (pc' := 78) cd_Te_hasGoodParts rfl rfl rfl (fun c75 => ?_) (fun c75 => ?_)
            · have c75 : ¬ x3 = 0 := c75
              refine g_k1 (v := 0) (pc' := 83) cd_Te_hasGoodParts rfl (by decide) rfl ?_
              refine g_ist (pc' := 85) cd_Te_hasGoodParts rfl (Or.inl ⟨rfl, rfl⟩) (by decide) rfl (fun lv el => ?_)
              have l0 := tm_lk el l0 rfl (by decide)
              have l1 := tm_lk el l1 rfl (by decide)
              have l2 := tm_lk el l2 rfl (by decide)
              have l3 := tm_lk el l3 rfl (by decide)
              have l4 := tm_lk el l4 rfl (by decide)
              have l5 := tm_lk el l5 rfl (by decide)
              have l6 := tm_lk el l6 rfl (by decide)
              have l7 := tm_lk el l7 rfl (by decide)
              have l8 : lv.lookup 8 = some (.int 0) := tm_lks el
              clear el
              refine g_ald (pc' := 86) cd_Te_hasGoodParts rfl (Or.inr ⟨_, rfl, rfl, rfl⟩) l0 rfl rfl ?_
              refine g_ild (pc' := 87) cd_Te_hasGoodParts rfl (Or.inr ⟨_, rfl, rfl, rfl⟩) l3 rfl ?_
              refine g_calli (pc' := 90) cd_Te_hasGoodParts rfl rfl rfl rfl rfl (tm_invV rfl rfl cd_Te_kindOf rfl (Nat.le_of_ble_eq_true rfl) (by decide) hT.1.1 hT.1.2) (k_Te_kindOf hT ?_)
              show bm_G _ _ _ 90 _ [.int (te_get B ca sz x0 0)] B _
              refine g_k1 (v := 2) (pc' := 91) cd_Te_hasGoodParts rfl (by decide) rfl ?_
              refine g_if2 (t := 118) (pc' := 94) cd_Te_hasGoodParts rfl rfl rfl (fun c91 => ?_) (fun c91 => ?_)
              · have c91 : ¬ (te_get B ca sz x0 0) = 2 := c91
                refine g_k1 (v := 0) (pc' := 119) cd_Te_hasGoodParts rfl (by decide) rfl ?_
                exact g_retz cd_Te_hasGoodParts rfl (Or.inl rfl) ⟨_, rfl, bz_fin kk (by first | (simp [gp, bz, c33, c43, c48, c58, c70, c75, c91]; done) | exact absurd (Classical.not_not.mp c75) c48)⟩
              · have c91 : ¬ (¬ (te_get B ca sz x0 0) = 2) := c91
                refine g_ald (pc' := 95) cd_Te_hasGoodParts rfl (Or.inr ⟨_, rfl, rfl, rfl⟩) l0 rfl rfl ?_
                refine g_ild (pc' := 97) cd_Te_hasGoodParts rfl (Or.inl ⟨rfl, rfl⟩) l4 rfl ?_
                refine g_calli (pc' := 100) cd_Te_hasGoodParts rfl rfl rfl rfl rfl (tm_invV rfl rfl cd_Te_kindOf rfl (Nat.le_of_ble_eq_true rfl) (by decide) hT.1.1 hT.1.2) (k_Te_kindOf hT ?_)
                show bm_G _ _ _ 100 _ [.int (te_get B ca sz x1 0)] B _
                refine g_k1 (v := 2) (pc' := 101) cd_Te_hasGoodParts rfl (by decide) rfl ?_
                refine g_if2 (t := 118) (pc' := 104) cd_Te_hasGoodParts rfl rfl rfl (fun c101 => ?_) (fun c101 => ?_)
                · have c101 : ¬ (te_get B ca sz x1 0) = 2 := c101
                  refine g_k1 (v := 0) (pc' := 119) cd_Te_hasGoodParts rfl (by decide) rfl ?_
                  exact g_retz cd_Te_hasGoodParts rfl (Or.inl rfl) ⟨_, rfl, bz_fin kk (by first | (simp [gp, bz, c33, c43, c48, c58, c70, c75, c91, c101]; done) | exact absurd (Classical.not_not.mp c75) c48)⟩
                · have c101 : ¬ (¬ (te_get B ca sz x1 0) = 2) := c101
                  refine g_ild (pc' := 106) cd_Te_hasGoodParts rfl (Or.inl ⟨rfl, rfl⟩) l7 rfl ?_
                  refine g_if1 (t := 114) (pc' := 109) cd_Te_hasGoodParts rfl rfl rfl (fun c106 => ?_) (fun c106 => ?_)
                  · exact absurd (show ¬ (0 : Int32) = 0 from c106) (by decide)
                  · have c106 : ¬ (¬ (0 : Int32) = 0) := c106
                    refine g_ild (pc' := 111) cd_Te_hasGoodParts rfl (Or.inl ⟨rfl, rfl⟩) l8 rfl ?_
                    refine g_if1 (t := 118) (pc' := 114) cd_Te_hasGoodParts rfl rfl rfl (fun c111 => ?_) (fun c111 => ?_)
                    · have c111 : (0 : Int32) = 0 := c111
                      refine g_k1 (v := 0) (pc' := 119) cd_Te_hasGoodParts rfl (by decide) rfl ?_
                      exact g_retz cd_Te_hasGoodParts rfl (Or.inl rfl) ⟨_, rfl, bz_fin kk (by first | (simp [gp, bz, c33, c43, c48, c58, c70, c75, c91, c101, c106, c111]; done) | exact absurd (Classical.not_not.mp c75) c48)⟩
                    · exact absurd (show ¬ (0 : Int32) = 0 from c111) (by decide)
            · have c75 : ¬ (¬ x3 = 0) := c75
              refine g_k1 (v := 1) (pc' := 79) cd_Te_hasGoodParts rfl (by decide) rfl ?_
              refine g_pure (pc' := 83) (st' := [.int 1]) cd_Te_hasGoodParts rfl rfl (fun _ _ => rfl) ?_
              refine g_ist (pc' := 85) cd_Te_hasGoodParts rfl (Or.inl ⟨rfl, rfl⟩) (by decide) rfl (fun lv el => ?_)
              have l0 := tm_lk el l0 rfl (by decide)
              have l1 := tm_lk el l1 rfl (by decide)
              have l2 := tm_lk el l2 rfl (by decide)
              have l3 := tm_lk el l3 rfl (by decide)
              have l4 := tm_lk el l4 rfl (by decide)
              have l5 := tm_lk el l5 rfl (by decide)
              have l6 := tm_lk el l6 rfl (by decide)
              have l7 := tm_lk el l7 rfl (by decide)
              have l8 : lv.lookup 8 = some (.int 1) := tm_lks el
              clear el
              refine g_ald (pc' := 86) cd_Te_hasGoodParts rfl (Or.inr ⟨_, rfl, rfl, rfl⟩) l0 rfl rfl ?_
              refine g_ild (pc' := 87) cd_Te_hasGoodParts rfl (Or.inr ⟨_, rfl, rfl, rfl⟩) l3 rfl ?_
              refine g_calli (pc' := 90) cd_Te_hasGoodParts rfl rfl rfl rfl rfl (tm_invV rfl rfl cd_Te_kindOf rfl (Nat.le_of_ble_eq_true rfl) (by decide) hT.1.1 hT.1.2) (k_Te_kindOf hT ?_)
              show bm_G _ _ _ 90 _ [.int (te_get B ca sz x0 0)] B _
              refine g_k1 (v := 2) (pc' := 91) cd_Te_hasGoodParts rfl (by decide) rfl ?_
              refine g_if2 (t := 118) (pc' := 94) cd_Te_hasGoodParts rfl rfl rfl (fun c91 => ?_) (fun c91 => ?_)
              · have c91 : ¬ (te_get B ca sz x0 0) = 2 := c91
                refine g_k1 (v := 0) (pc' := 119) cd_Te_hasGoodParts rfl (by decide) rfl ?_
                exact g_retz cd_Te_hasGoodParts rfl (Or.inl rfl) ⟨_, rfl, bz_fin kk (by first | (simp [gp, bz, c33, c43, c48, c58, c70, c75, c91]; done) | exact absurd (Classical.not_not.mp c75) c48)⟩
              · have c91 : ¬ (¬ (te_get B ca sz x0 0) = 2) := c91
                refine g_ald (pc' := 95) cd_Te_hasGoodParts rfl (Or.inr ⟨_, rfl, rfl, rfl⟩) l0 rfl rfl ?_
                refine g_ild (pc' := 97) cd_Te_hasGoodParts rfl (Or.inl ⟨rfl, rfl⟩) l4 rfl ?_
                refine g_calli (pc' := 100) cd_Te_hasGoodParts rfl rfl rfl rfl rfl (tm_invV rfl rfl cd_Te_kindOf rfl (Nat.le_of_ble_eq_true rfl) (by decide) hT.1.1 hT.1.2) (k_Te_kindOf hT ?_)
                show bm_G _ _ _ 100 _ [.int (te_get B ca sz x1 0)] B _
                refine g_k1 (v := 2) (pc' := 101) cd_Te_hasGoodParts rfl (by decide) rfl ?_
                refine g_if2 (t := 118) (pc' := 104) cd_Te_hasGoodParts rfl rfl rfl (fun c101 => ?_) (fun c101 => ?_)
                · have c101 : ¬ (te_get B ca sz x1 0) = 2 := c101
                  refine g_k1 (v := 0) (pc' := 119) cd_Te_hasGoodParts rfl (by decide) rfl ?_
                  exact g_retz cd_Te_hasGoodParts rfl (Or.inl rfl) ⟨_, rfl, bz_fin kk (by first | (simp [gp, bz, c33, c43, c48, c58, c70, c75, c91, c101]; done) | exact absurd (Classical.not_not.mp c75) c48)⟩
                · have c101 : ¬ (¬ (te_get B ca sz x1 0) = 2) := c101
                  refine g_ild (pc' := 106) cd_Te_hasGoodParts rfl (Or.inl ⟨rfl, rfl⟩) l7 rfl ?_
                  refine g_if1 (t := 114) (pc' := 109) cd_Te_hasGoodParts rfl rfl rfl (fun c106 => ?_) (fun c106 => ?_)
                  · exact absurd (show ¬ (0 : Int32) = 0 from c106) (by decide)
                  · have c106 : ¬ (¬ (0 : Int32) = 0) := c106
                    refine g_ild (pc' := 111) cd_Te_hasGoodParts rfl (Or.inl ⟨rfl, rfl⟩) l8 rfl ?_
                    refine g_if1 (t := 118) (pc' := 114) cd_Te_hasGoodParts rfl rfl rfl (fun c111 => ?_) (fun c111 => ?_)
                    · exact absurd (show (1 : Int32) = 0 from c111) (by decide)
                    · have c111 : ¬ (1 : Int32) = 0 := c111
                      refine g_k1 (v := 1) (pc' := 115) cd_Te_hasGoodParts rfl (by decide) rfl ?_
                      refine g_pure (pc' := 119) (st' := [.int 1]) cd_Te_hasGoodParts rfl rfl (fun _ _ => rfl) ?_
                      exact g_retz cd_Te_hasGoodParts rfl (Or.inr rfl) ⟨_, rfl, bz_fin kk (by first | (simp [gp, bz, c33, c43, c48, c58, c70, c75, c91, c101, c106, c111]; done) | exact absurd (Classical.not_not.mp c75) c48)⟩
        · have c58 : ¬ (¬ (te_get B ca sz x3 0) = 2) := c58
          refine g_k1 (v := 1) (pc' := 62) cd_Te_hasGoodParts rfl (by decide) rfl ?_
          refine g_pure (pc' := 66) (st' := [.int 1]) cd_Te_hasGoodParts rfl rfl (fun _ _ => rfl) ?_
          refine g_ist (pc' := 68) cd_Te_hasGoodParts rfl (Or.inl ⟨rfl, rfl⟩) (by decide) rfl (fun lv el => ?_)
          have l0 := tm_lk el l0 rfl (by decide)
          have l1 := tm_lk el l1 rfl (by decide)
          have l2 := tm_lk el l2 rfl (by decide)
          have l3 := tm_lk el l3 rfl (by decide)
          have l4 := tm_lk el l4 rfl (by decide)
          have l5 := tm_lk el l5 rfl (by decide)
          have l6 := tm_lk el l6 rfl (by decide)
          have l7 : lv.lookup 7 = some (.int 1) := tm_lks el
          clear el
          refine g_ild (pc' := 70) cd_Te_hasGoodParts rfl (Or.inl ⟨rfl, rfl⟩) l5 rfl ?_
          refine g_if1 (t := 82) (pc' := 73) cd_Te_hasGoodParts rfl rfl rfl (fun c70 => ?_) (fun c70 => ?_)
          · have c70 : ¬ x2 = 0 := c70
            refine g_k1 (v := 0) (pc' := 83) cd_Te_hasGoodParts rfl (by decide) rfl ?_
            refine g_ist (pc' := 85) cd_Te_hasGoodParts rfl (Or.inl ⟨rfl, rfl⟩) (by decide) rfl (fun lv el => ?_)
            have l0 := tm_lk el l0 rfl (by decide)
            have l1 := tm_lk el l1 rfl (by decide)
            have l2 := tm_lk el l2 rfl (by decide)
            have l3 := tm_lk el l3 rfl (by decide)
            have l4 := tm_lk el l4 rfl (by decide)
            have l5 := tm_lk el l5 rfl (by decide)
            have l6 := tm_lk el l6 rfl (by decide)
            have l7 := tm_lk el l7 rfl (by decide)
            have l8 : lv.lookup 8 = some (.int 0) := tm_lks el
            clear el
            refine g_ald (pc' := 86) cd_Te_hasGoodParts rfl (Or.inr ⟨_, rfl, rfl, rfl⟩) l0 rfl rfl ?_
            refine g_ild (pc' := 87) cd_Te_hasGoodParts rfl (Or.inr ⟨_, rfl, rfl, rfl⟩) l3 rfl ?_
            refine g_calli (pc' := 90) cd_Te_hasGoodParts rfl rfl rfl rfl rfl (tm_invV rfl rfl cd_Te_kindOf rfl (Nat.le_of_ble_eq_true rfl) (by decide) hT.1.1 hT.1.2) (k_Te_kindOf hT ?_)
            show bm_G _ _ _ 90 _ [.int (te_get B ca sz x0 0)] B _
            refine g_k1 (v := 2) (pc' := 91) cd_Te_hasGoodParts rfl (by decide) rfl ?_
            refine g_if2 (t := 118) (pc' := 94) cd_Te_hasGoodParts rfl rfl rfl (fun c91 => ?_) (fun c91 => ?_)
            · have c91 : ¬ (te_get B ca sz x0 0) = 2 := c91
              refine g_k1 (v := 0) (pc' := 119) cd_Te_hasGoodParts rfl (by decide) rfl ?_
              exact g_retz cd_Te_hasGoodParts rfl (Or.inl rfl) ⟨_, rfl, bz_fin kk (by simp [gp, bz, c33, c43, c48, c58, c70, c91])⟩
            · have c91 : ¬ (¬ (te_get B ca sz x0 0) = 2) := c91
              refine g_ald (pc' := 95) cd_Te_hasGoodParts rfl (Or.inr ⟨_, rfl, rfl, rfl⟩) l0 rfl rfl ?_
              refine g_ild (pc' := 97) cd_Te_hasGoodParts rfl (Or.inl ⟨rfl, rfl⟩) l4 rfl ?_
              refine g_calli (pc' := 100) cd_Te_hasGoodParts rfl rfl rfl rfl rfl (tm_invV rfl rfl cd_Te_kindOf rfl (Nat.le_of_ble_eq_true rfl) (by decide) hT.1.1 hT.1.2) (k_Te_kindOf hT ?_)
              show bm_G _ _ _ 100 _ [.int (te_get B ca sz x1 0)] B _
              refine g_k1 (v := 2) (pc' := 101) cd_Te_hasGoodParts rfl (by decide) rfl ?_
              refine g_if2 (t := 118) (pc' := 104) cd_Te_hasGoodParts rfl rfl rfl (fun c101 => ?_) (fun c101 => ?_)
              · have c101 : ¬ (te_get B ca sz x1 0) = 2 := c101
                refine g_k1 (v := 0) (pc' := 119) cd_Te_hasGoodParts rfl (by decide) rfl ?_
                exact g_retz cd_Te_hasGoodParts rfl (Or.inl rfl) ⟨_, rfl, bz_fin kk (by simp [gp, bz, c33, c43, c48, c58, c70, c91, c101])⟩
              · have c101 : ¬ (¬ (te_get B ca sz x1 0) = 2) := c101
                refine g_ild (pc' := 106) cd_Te_hasGoodParts rfl (Or.inl ⟨rfl, rfl⟩) l7 rfl ?_
                refine g_if1 (t := 114) (pc' := 109) cd_Te_hasGoodParts rfl rfl rfl (fun c106 => ?_) (fun c106 => ?_)
                · have c106 : ¬ (1 : Int32) = 0 := c106
                  refine g_k1 (v := 1) (pc' := 115) cd_Te_hasGoodParts rfl (by decide) rfl ?_
                  refine g_pure (pc' := 119) (st' := [.int 1]) cd_Te_hasGoodParts rfl rfl (fun _ _ => rfl) ?_
                  exact g_retz cd_Te_hasGoodParts rfl (Or.inr rfl) ⟨_, rfl, bz_fin kk (by simp [gp, bz, c33, c43, c48, c58, c70, c91, c101, c106])⟩
                · exact absurd (show ¬ (¬ (1 : Int32) = 0) from c106) (by decide)
          · have c70 : ¬ (¬ x2 = 0) := c70
            refine g_ild (pc' := 75) cd_Te_hasGoodParts rfl (Or.inl ⟨rfl, rfl⟩) l6 rfl ?_
            refine g_if1 (t := 82) (pc' := 78) cd_Te_hasGoodParts rfl rfl rfl (fun c75 => ?_) (fun c75 => ?_)
            · have c75 : ¬ x3 = 0 := c75
              refine g_k1 (v := 0) (pc' := 83) cd_Te_hasGoodParts rfl (by decide) rfl ?_
              refine g_ist (pc' := 85) cd_Te_hasGoodParts rfl (Or.inl ⟨rfl, rfl⟩) (by decide) rfl (fun lv el => ?_)
              have l0 := tm_lk el l0 rfl (by decide)
              have l1 := tm_lk el l1 rfl (by decide)
              have l2 := tm_lk el l2 rfl (by decide)
              have l3 := tm_lk el l3 rfl (by decide)
              have l4 := tm_lk el l4 rfl (by decide)
              have l5 := tm_lk el l5 rfl (by decide)
              have l6 := tm_lk el l6 rfl (by decide)
              have l7 := tm_lk el l7 rfl (by decide)
              have l8 : lv.lookup 8 = some (.int 0) := tm_lks el
              clear el
              refine g_ald (pc' := 86) cd_Te_hasGoodParts rfl (Or.inr ⟨_, rfl, rfl, rfl⟩) l0 rfl rfl ?_
              refine g_ild (pc' := 87) cd_Te_hasGoodParts rfl (Or.inr ⟨_, rfl, rfl, rfl⟩) l3 rfl ?_
              refine g_calli (pc' := 90) cd_Te_hasGoodParts rfl rfl rfl rfl rfl (tm_invV rfl rfl cd_Te_kindOf rfl (Nat.le_of_ble_eq_true rfl) (by decide) hT.1.1 hT.1.2) (k_Te_kindOf hT ?_)
              show bm_G _ _ _ 90 _ [.int (te_get B ca sz x0 0)] B _
              refine g_k1 (v := 2) (pc' := 91) cd_Te_hasGoodParts rfl (by decide) rfl ?_
              refine g_if2 (t := 118) (pc' := 94) cd_Te_hasGoodParts rfl rfl rfl (fun c91 => ?_) (fun c91 => ?_)
              · have c91 : ¬ (te_get B ca sz x0 0) = 2 := c91
                refine g_k1 (v := 0) (pc' := 119) cd_Te_hasGoodParts rfl (by decide) rfl ?_
                exact g_retz cd_Te_hasGoodParts rfl (Or.inl rfl) ⟨_, rfl, bz_fin kk (by first | (simp [gp, bz, c33, c43, c48, c58, c70, c75, c91]; done) | exact absurd (Classical.not_not.mp c75) c48)⟩
              · have c91 : ¬ (¬ (te_get B ca sz x0 0) = 2) := c91
                refine g_ald (pc' := 95) cd_Te_hasGoodParts rfl (Or.inr ⟨_, rfl, rfl, rfl⟩) l0 rfl rfl ?_
                refine g_ild (pc' := 97) cd_Te_hasGoodParts rfl (Or.inl ⟨rfl, rfl⟩) l4 rfl ?_
                refine g_calli (pc' := 100) cd_Te_hasGoodParts rfl rfl rfl rfl rfl (tm_invV rfl rfl cd_Te_kindOf rfl (Nat.le_of_ble_eq_true rfl) (by decide) hT.1.1 hT.1.2) (k_Te_kindOf hT ?_)
                show bm_G _ _ _ 100 _ [.int (te_get B ca sz x1 0)] B _
                refine g_k1 (v := 2) (pc' := 101) cd_Te_hasGoodParts rfl (by decide) rfl ?_
                refine g_if2 (t := 118) (pc' := 104) cd_Te_hasGoodParts rfl rfl rfl (fun c101 => ?_) (fun c101 => ?_)
                · have c101 : ¬ (te_get B ca sz x1 0) = 2 := c101
                  refine g_k1 (v := 0) (pc' := 119) cd_Te_hasGoodParts rfl (by decide) rfl ?_
                  exact g_retz cd_Te_hasGoodParts rfl (Or.inl rfl) ⟨_, rfl, bz_fin kk (by first | (simp [gp, bz, c33, c43, c48, c58, c70, c75, c91, c101]; done) | exact absurd (Classical.not_not.mp c75) c48)⟩
                · have c101 : ¬ (¬ (te_get B ca sz x1 0) = 2) := c101
                  refine g_ild (pc' := 106) cd_Te_hasGoodParts rfl (Or.inl ⟨rfl, rfl⟩) l7 rfl ?_
                  refine g_if1 (t := 114) (pc' := 109) cd_Te_hasGoodParts rfl rfl rfl (fun c106 => ?_) (fun c106 => ?_)
                  · have c106 : ¬ (1 : Int32) = 0 := c106
                    refine g_k1 (v := 1) (pc' := 115) cd_Te_hasGoodParts rfl (by decide) rfl ?_
                    refine g_pure (pc' := 119) (st' := [.int 1]) cd_Te_hasGoodParts rfl rfl (fun _ _ => rfl) ?_
                    exact g_retz cd_Te_hasGoodParts rfl (Or.inr rfl) ⟨_, rfl, bz_fin kk (by first | (simp [gp, bz, c33, c43, c48, c58, c70, c75, c91, c101, c106]; done) | exact absurd (Classical.not_not.mp c75) c48)⟩
                  · exact absurd (show ¬ (¬ (1 : Int32) = 0) from c106) (by decide)
            · have c75 : ¬ (¬ x3 = 0) := c75
              refine g_k1 (v := 1) (pc' := 79) cd_Te_hasGoodParts rfl (by decide) rfl ?_
              refine g_pure (pc' := 83) (st' := [.int 1]) cd_Te_hasGoodParts rfl rfl (fun _ _ => rfl) ?_
              refine g_ist (pc' := 85) cd_Te_hasGoodParts rfl (Or.inl ⟨rfl, rfl⟩) (by decide) rfl (fun lv el => ?_)
              have l0 := tm_lk el l0 rfl (by decide)
              have l1 := tm_lk el l1 rfl (by decide)
              have l2 := tm_lk el l2 rfl (by decide)
              have l3 := tm_lk el l3 rfl (by decide)
              have l4 := tm_lk el l4 rfl (by decide)
              have l5 := tm_lk el l5 rfl (by decide)
              have l6 := tm_lk el l6 rfl (by decide)
              have l7 := tm_lk el l7 rfl (by decide)
              have l8 : lv.lookup 8 = some (.int 1) := tm_lks el
              clear el
              refine g_ald (pc' := 86) cd_Te_hasGoodParts rfl (Or.inr ⟨_, rfl, rfl, rfl⟩) l0 rfl rfl ?_
              refine g_ild (pc' := 87) cd_Te_hasGoodParts rfl (Or.inr ⟨_, rfl, rfl, rfl⟩) l3 rfl ?_
              refine g_calli (pc' := 90) cd_Te_hasGoodParts rfl rfl rfl rfl rfl (tm_invV rfl rfl cd_Te_kindOf rfl (Nat.le_of_ble_eq_true rfl) (by decide) hT.1.1 hT.1.2) (k_Te_kindOf hT ?_)
              show bm_G _ _ _ 90 _ [.int (te_get B ca sz x0 0)] B _
              refine g_k1 (v := 2) (pc' := 91) cd_Te_hasGoodParts rfl (by decide) rfl ?_
              refine g_if2 (t := 118) (pc' := 94) cd_Te_hasGoodParts rfl rfl rfl (fun c91 => ?_) (fun c91 => ?_)
              · have c91 : ¬ (te_get B ca sz x0 0) = 2 := c91
                refine g_k1 (v := 0) (pc' := 119) cd_Te_hasGoodParts rfl (by decide) rfl ?_
                exact g_retz cd_Te_hasGoodParts rfl (Or.inl rfl) ⟨_, rfl, bz_fin kk (by first | (simp [gp, bz, c33, c43, c48, c58, c70, c75, c91]; done) | exact absurd (Classical.not_not.mp c75) c48)⟩
              · have c91 : ¬ (¬ (te_get B ca sz x0 0) = 2) := c91
                refine g_ald (pc' := 95) cd_Te_hasGoodParts rfl (Or.inr ⟨_, rfl, rfl, rfl⟩) l0 rfl rfl ?_
                refine g_ild (pc' := 97) cd_Te_hasGoodParts rfl (Or.inl ⟨rfl, rfl⟩) l4 rfl ?_
                refine g_calli (pc' := 100) cd_Te_hasGoodParts rfl rfl rfl rfl rfl (tm_invV rfl rfl cd_Te_kindOf rfl (Nat.le_of_ble_eq_true rfl) (by decide) hT.1.1 hT.1.2) (k_Te_kindOf hT ?_)
                show bm_G _ _ _ 100 _ [.int (te_get B ca sz x1 0)] B _
                refine g_k1 (v := 2) (pc' := 101) cd_Te_hasGoodParts rfl (by decide) rfl ?_
                refine g_if2 (t := 118) (pc' := 104) cd_Te_hasGoodParts rfl rfl rfl (fun c101 => ?_) (fun c101 => ?_)
                · have c101 : ¬ (te_get B ca sz x1 0) = 2 := c101
                  refine g_k1 (v := 0) (pc' := 119) cd_Te_hasGoodParts rfl (by decide) rfl ?_
                  exact g_retz cd_Te_hasGoodParts rfl (Or.inl rfl) ⟨_, rfl, bz_fin kk (by first | (simp [gp, bz, c33, c43, c48, c58, c70, c75, c91, c101]; done) | exact absurd (Classical.not_not.mp c75) c48)⟩
                · have c101 : ¬ (¬ (te_get B ca sz x1 0) = 2) := c101
                  refine g_ild (pc' := 106) cd_Te_hasGoodParts rfl (Or.inl ⟨rfl, rfl⟩) l7 rfl ?_
                  refine g_if1 (t := 114) (pc' := 109) cd_Te_hasGoodParts rfl rfl rfl (fun c106 => ?_) (fun c106 => ?_)
                  · have c106 : ¬ (1 : Int32) = 0 := c106
                    refine g_k1 (v := 1) (pc' := 115) cd_Te_hasGoodParts rfl (by decide) rfl ?_
                    refine g_pure (pc' := 119) (st' := [.int 1]) cd_Te_hasGoodParts rfl rfl (fun _ _ => rfl) ?_
                    exact g_retz cd_Te_hasGoodParts rfl (Or.inr rfl) ⟨_, rfl, bz_fin kk (by first | (simp [gp, bz, c33, c43, c48, c58, c70, c75, c91, c101, c106]; done) | exact absurd (Classical.not_not.mp c75) c48)⟩
                  · exact absurd (show ¬ (¬ (1 : Int32) = 0) from c106) (by decide)
set_option maxRecDepth 100000 in
theorem k_Te_hasGoodParts_4 {sc : tm_X} {d : Nat} {B : bm_H} {a ca ba da rm sz dr : Nat} {t : Int32} {Q : Int32 → bm_H → Prop} (hT : te_ok B a ca ba da rm sz dr) (kk : Q (bz (te_gp B ca sz t 4)) B) : bm_Gi sc (d + 1) 74 [.ref a, .int t, .int 4] B Q := by
  unfold te_gp at kk
  show bm_G sc (d + 1) 74 0 [(0, .ref a), (1, .int t), (2, .int 4)] [] B _
  generalize elv : ([(0, .ref a), (1, .int t), (2, .int 4)] : tm_L) = lv
  have l0 : lv.lookup 0 = some (.ref a) := by rw [← elv]; rfl
  have l1 : lv.lookup 1 = some (.int t) := by rw [← elv]; rfl
  have l2 : lv.lookup 2 = some (.int 4) := by rw [← elv]; rfl
  clear elv
  refine g_ald (pc' := 1) cd_Te_hasGoodParts rfl (Or.inr ⟨_, rfl, rfl, rfl⟩) l0 rfl rfl ?_
  refine g_ild (pc' := 2) cd_Te_hasGoodParts rfl (Or.inr ⟨_, rfl, rfl, rfl⟩) l1 rfl ?_
  refine g_k1 (v := 0) (pc' := 3) cd_Te_hasGoodParts rfl (by decide) rfl ?_
  refine g_calli (pc' := 6) cd_Te_hasGoodParts rfl rfl rfl rfl rfl (tm_invV rfl rfl cd_Te_partOf rfl (Nat.le_of_ble_eq_true rfl) (by decide) hT.1.1 hT.1.2) (k_Te_partOf hT ?_)
  generalize hx0 : te_gt2 B ca sz t 0 6 = x0
  try rw [hx0] at kk
  show bm_G _ _ _ 6 _ [.int x0] B _
  refine g_ist (pc' := 7) cd_Te_hasGoodParts rfl (Or.inr ⟨_, rfl, rfl, rfl⟩) (by decide) rfl (fun lv el => ?_)
  have l0 := tm_lk el l0 rfl (by decide)
  have l1 := tm_lk el l1 rfl (by decide)
  have l2 := tm_lk el l2 rfl (by decide)
  have l3 : lv.lookup 3 = some (.int x0) := tm_lks el
  clear el
  refine g_ald (pc' := 8) cd_Te_hasGoodParts rfl (Or.inr ⟨_, rfl, rfl, rfl⟩) l0 rfl rfl ?_
  refine g_ild (pc' := 9) cd_Te_hasGoodParts rfl (Or.inr ⟨_, rfl, rfl, rfl⟩) l1 rfl ?_
  refine g_k1 (v := 1) (pc' := 10) cd_Te_hasGoodParts rfl (by decide) rfl ?_
  refine g_calli (pc' := 13) cd_Te_hasGoodParts rfl rfl rfl rfl rfl (tm_invV rfl rfl cd_Te_partOf rfl (Nat.le_of_ble_eq_true rfl) (by decide) hT.1.1 hT.1.2) (k_Te_partOf hT ?_)
  generalize hx1 : te_gt2 B ca sz t 1 6 = x1
  try rw [hx1] at kk
  show bm_G _ _ _ 13 _ [.int x1] B _
  refine g_ist (pc' := 15) cd_Te_hasGoodParts rfl (Or.inl ⟨rfl, rfl⟩) (by decide) rfl (fun lv el => ?_)
  have l0 := tm_lk el l0 rfl (by decide)
  have l1 := tm_lk el l1 rfl (by decide)
  have l2 := tm_lk el l2 rfl (by decide)
  have l3 := tm_lk el l3 rfl (by decide)
  have l4 : lv.lookup 4 = some (.int x1) := tm_lks el
  clear el
  refine g_ald (pc' := 16) cd_Te_hasGoodParts rfl (Or.inr ⟨_, rfl, rfl, rfl⟩) l0 rfl rfl ?_
  refine g_ild (pc' := 17) cd_Te_hasGoodParts rfl (Or.inr ⟨_, rfl, rfl, rfl⟩) l1 rfl ?_
  refine g_k1 (v := 2) (pc' := 18) cd_Te_hasGoodParts rfl (by decide) rfl ?_
  refine g_calli (pc' := 21) cd_Te_hasGoodParts rfl rfl rfl rfl rfl (tm_invV rfl rfl cd_Te_partOf rfl (Nat.le_of_ble_eq_true rfl) (by decide) hT.1.1 hT.1.2) (k_Te_partOf hT ?_)
  generalize hx2 : te_gt2 B ca sz t 2 6 = x2
  try rw [hx2] at kk
  show bm_G _ _ _ 21 _ [.int x2] B _
  refine g_ist (pc' := 23) cd_Te_hasGoodParts rfl (Or.inl ⟨rfl, rfl⟩) (by decide) rfl (fun lv el => ?_)
  have l0 := tm_lk el l0 rfl (by decide)
  have l1 := tm_lk el l1 rfl (by decide)
  have l2 := tm_lk el l2 rfl (by decide)
  have l3 := tm_lk el l3 rfl (by decide)
  have l4 := tm_lk el l4 rfl (by decide)
  have l5 : lv.lookup 5 = some (.int x2) := tm_lks el
  clear el
  refine g_ald (pc' := 24) cd_Te_hasGoodParts rfl (Or.inr ⟨_, rfl, rfl, rfl⟩) l0 rfl rfl ?_
  refine g_ild (pc' := 25) cd_Te_hasGoodParts rfl (Or.inr ⟨_, rfl, rfl, rfl⟩) l1 rfl ?_
  refine g_k1 (v := 3) (pc' := 26) cd_Te_hasGoodParts rfl (by decide) rfl ?_
  refine g_calli (pc' := 29) cd_Te_hasGoodParts rfl rfl rfl rfl rfl (tm_invV rfl rfl cd_Te_partOf rfl (Nat.le_of_ble_eq_true rfl) (by decide) hT.1.1 hT.1.2) (k_Te_partOf hT ?_)
  generalize hx3 : te_gt2 B ca sz t 3 6 = x3
  try rw [hx3] at kk
  show bm_G _ _ _ 29 _ [.int x3] B _
  refine g_ist (pc' := 31) cd_Te_hasGoodParts rfl (Or.inl ⟨rfl, rfl⟩) (by decide) rfl (fun lv el => ?_)
  have l0 := tm_lk el l0 rfl (by decide)
  have l1 := tm_lk el l1 rfl (by decide)
  have l2 := tm_lk el l2 rfl (by decide)
  have l3 := tm_lk el l3 rfl (by decide)
  have l4 := tm_lk el l4 rfl (by decide)
  have l5 := tm_lk el l5 rfl (by decide)
  have l6 : lv.lookup 6 = some (.int x3) := tm_lks el
  clear el
  refine g_ild (pc' := 32) cd_Te_hasGoodParts rfl (Or.inr ⟨_, rfl, rfl, rfl⟩) l2 rfl ?_
  refine g_k1 (v := 3) (pc' := 33) cd_Te_hasGoodParts rfl (by decide) rfl ?_
  refine g_if2 (t := 120) (pc' := 36) cd_Te_hasGoodParts rfl rfl rfl (fun c33 => ?_) (fun c33 => ?_)
  · have c33 : ¬ (4 : Int32) = 3 := c33
    refine g_ild (pc' := 122) cd_Te_hasGoodParts rfl (Or.inl ⟨rfl, rfl⟩) l5 rfl ?_
    refine g_if1 (t := 130) (pc' := 125) cd_Te_hasGoodParts rfl rfl rfl (fun c122 => ?_) (fun c122 => ?_)
    · have c122 : ¬ x2 = 0 := c122
      refine g_k1 (v := 0) (pc' := 131) cd_Te_hasGoodParts rfl (by decide) rfl ?_
      exact g_retz cd_Te_hasGoodParts rfl (Or.inl rfl) ⟨_, rfl, bz_fin kk (by simp [gp, bz, c33, c122])⟩
    · have c122 : ¬ (¬ x2 = 0) := c122
      refine g_ild (pc' := 127) cd_Te_hasGoodParts rfl (Or.inl ⟨rfl, rfl⟩) l6 rfl ?_
      refine g_if1 (t := 132) (pc' := 130) cd_Te_hasGoodParts rfl rfl rfl (fun c127 => ?_) (fun c127 => ?_)
      · have c127 : x3 = 0 := c127
        refine g_ild (pc' := 133) cd_Te_hasGoodParts rfl (Or.inr ⟨_, rfl, rfl, rfl⟩) l2 rfl ?_
        refine g_pure (pc' := 188) (st' := []) cd_Te_hasGoodParts rfl rfl (fun _ _ => rfl) ?_
        refine g_ild (pc' := 189) cd_Te_hasGoodParts rfl (Or.inr ⟨_, rfl, rfl, rfl⟩) l3 rfl ?_
        refine g_if1 (t := 201) (pc' := 192) cd_Te_hasGoodParts rfl rfl rfl (fun c189 => ?_) (fun c189 => ?_)
        · have c189 : x0 = 0 := c189
          refine g_k1 (v := 0) (pc' := 202) cd_Te_hasGoodParts rfl (by decide) rfl ?_
          exact g_retz cd_Te_hasGoodParts rfl (Or.inl rfl) ⟨_, rfl, bz_fin kk (by simp [gp, bz, c33, c122, c127, c189])⟩
        · have c189 : ¬ x0 = 0 := c189
          refine g_ild (pc' := 194) cd_Te_hasGoodParts rfl (Or.inl ⟨rfl, rfl⟩) l4 rfl ?_
          refine g_if1 (t := 201) (pc' := 197) cd_Te_hasGoodParts rfl rfl rfl (fun c194 => ?_) (fun c194 => ?_)
          · have c194 : ¬ x1 = 0 := c194
            refine g_k1 (v := 0) (pc' := 202) cd_Te_hasGoodParts rfl (by decide) rfl ?_
            exact g_retz cd_Te_hasGoodParts rfl (Or.inl rfl) ⟨_, rfl, bz_fin kk (by simp [gp, bz, c33, c122, c127, c189, c194])⟩
          · have c194 : ¬ (¬ x1 = 0) := c194
            refine g_k1 (v := 1) (pc' := 198) cd_Te_hasGoodParts rfl (by decide) rfl ?_
            refine g_pure (pc' := 202) (st' := [.int 1]) cd_Te_hasGoodParts rfl rfl (fun _ _ => rfl) ?_
            exact g_retz cd_Te_hasGoodParts rfl (Or.inr rfl) ⟨_, rfl, bz_fin kk (by simp [gp, bz, c33, c122, c127, c189, c194])⟩
      · have c127 : ¬ x3 = 0 := c127
        refine g_k1 (v := 0) (pc' := 131) cd_Te_hasGoodParts rfl (by decide) rfl ?_
        exact g_retz cd_Te_hasGoodParts rfl (Or.inl rfl) ⟨_, rfl, bz_fin kk (by simp [gp, bz, c33, c122, c127])⟩
  · exact absurd (show ¬ (¬ (4 : Int32) = 3) from c33) (by decide)
set_option maxRecDepth 100000 in
theorem k_Te_hasGoodParts_5 {sc : tm_X} {d : Nat} {B : bm_H} {a ca ba da rm sz dr : Nat} {t : Int32} {Q : Int32 → bm_H → Prop} (hT : te_ok B a ca ba da rm sz dr) (kk : Q (bz (te_gp B ca sz t 5)) B) : bm_Gi sc (d + 1) 74 [.ref a, .int t, .int 5] B Q := by
  unfold te_gp at kk
  show bm_G sc (d + 1) 74 0 [(0, .ref a), (1, .int t), (2, .int 5)] [] B _
  generalize elv : ([(0, .ref a), (1, .int t), (2, .int 5)] : tm_L) = lv
  have l0 : lv.lookup 0 = some (.ref a) := by rw [← elv]; rfl
  have l1 : lv.lookup 1 = some (.int t) := by rw [← elv]; rfl
  have l2 : lv.lookup 2 = some (.int 5) := by rw [← elv]; rfl
  clear elv
  refine g_ald (pc' := 1) cd_Te_hasGoodParts rfl (Or.inr ⟨_, rfl, rfl, rfl⟩) l0 rfl rfl ?_
  refine g_ild (pc' := 2) cd_Te_hasGoodParts rfl (Or.inr ⟨_, rfl, rfl, rfl⟩) l1 rfl ?_
  refine g_k1 (v := 0) (pc' := 3) cd_Te_hasGoodParts rfl (by decide) rfl ?_
  refine g_calli (pc' := 6) cd_Te_hasGoodParts rfl rfl rfl rfl rfl (tm_invV rfl rfl cd_Te_partOf rfl (Nat.le_of_ble_eq_true rfl) (by decide) hT.1.1 hT.1.2) (k_Te_partOf hT ?_)
  generalize hx0 : te_gt2 B ca sz t 0 6 = x0
  try rw [hx0] at kk
  show bm_G _ _ _ 6 _ [.int x0] B _
  refine g_ist (pc' := 7) cd_Te_hasGoodParts rfl (Or.inr ⟨_, rfl, rfl, rfl⟩) (by decide) rfl (fun lv el => ?_)
  have l0 := tm_lk el l0 rfl (by decide)
  have l1 := tm_lk el l1 rfl (by decide)
  have l2 := tm_lk el l2 rfl (by decide)
  have l3 : lv.lookup 3 = some (.int x0) := tm_lks el
  clear el
  refine g_ald (pc' := 8) cd_Te_hasGoodParts rfl (Or.inr ⟨_, rfl, rfl, rfl⟩) l0 rfl rfl ?_
  refine g_ild (pc' := 9) cd_Te_hasGoodParts rfl (Or.inr ⟨_, rfl, rfl, rfl⟩) l1 rfl ?_
  refine g_k1 (v := 1) (pc' := 10) cd_Te_hasGoodParts rfl (by decide) rfl ?_
  refine g_calli (pc' := 13) cd_Te_hasGoodParts rfl rfl rfl rfl rfl (tm_invV rfl rfl cd_Te_partOf rfl (Nat.le_of_ble_eq_true rfl) (by decide) hT.1.1 hT.1.2) (k_Te_partOf hT ?_)
  generalize hx1 : te_gt2 B ca sz t 1 6 = x1
  try rw [hx1] at kk
  show bm_G _ _ _ 13 _ [.int x1] B _
  refine g_ist (pc' := 15) cd_Te_hasGoodParts rfl (Or.inl ⟨rfl, rfl⟩) (by decide) rfl (fun lv el => ?_)
  have l0 := tm_lk el l0 rfl (by decide)
  have l1 := tm_lk el l1 rfl (by decide)
  have l2 := tm_lk el l2 rfl (by decide)
  have l3 := tm_lk el l3 rfl (by decide)
  have l4 : lv.lookup 4 = some (.int x1) := tm_lks el
  clear el
  refine g_ald (pc' := 16) cd_Te_hasGoodParts rfl (Or.inr ⟨_, rfl, rfl, rfl⟩) l0 rfl rfl ?_
  refine g_ild (pc' := 17) cd_Te_hasGoodParts rfl (Or.inr ⟨_, rfl, rfl, rfl⟩) l1 rfl ?_
  refine g_k1 (v := 2) (pc' := 18) cd_Te_hasGoodParts rfl (by decide) rfl ?_
  refine g_calli (pc' := 21) cd_Te_hasGoodParts rfl rfl rfl rfl rfl (tm_invV rfl rfl cd_Te_partOf rfl (Nat.le_of_ble_eq_true rfl) (by decide) hT.1.1 hT.1.2) (k_Te_partOf hT ?_)
  generalize hx2 : te_gt2 B ca sz t 2 6 = x2
  try rw [hx2] at kk
  show bm_G _ _ _ 21 _ [.int x2] B _
  refine g_ist (pc' := 23) cd_Te_hasGoodParts rfl (Or.inl ⟨rfl, rfl⟩) (by decide) rfl (fun lv el => ?_)
  have l0 := tm_lk el l0 rfl (by decide)
  have l1 := tm_lk el l1 rfl (by decide)
  have l2 := tm_lk el l2 rfl (by decide)
  have l3 := tm_lk el l3 rfl (by decide)
  have l4 := tm_lk el l4 rfl (by decide)
  have l5 : lv.lookup 5 = some (.int x2) := tm_lks el
  clear el
  refine g_ald (pc' := 24) cd_Te_hasGoodParts rfl (Or.inr ⟨_, rfl, rfl, rfl⟩) l0 rfl rfl ?_
  refine g_ild (pc' := 25) cd_Te_hasGoodParts rfl (Or.inr ⟨_, rfl, rfl, rfl⟩) l1 rfl ?_
  refine g_k1 (v := 3) (pc' := 26) cd_Te_hasGoodParts rfl (by decide) rfl ?_
  refine g_calli (pc' := 29) cd_Te_hasGoodParts rfl rfl rfl rfl rfl (tm_invV rfl rfl cd_Te_partOf rfl (Nat.le_of_ble_eq_true rfl) (by decide) hT.1.1 hT.1.2) (k_Te_partOf hT ?_)
  generalize hx3 : te_gt2 B ca sz t 3 6 = x3
  try rw [hx3] at kk
  show bm_G _ _ _ 29 _ [.int x3] B _
  refine g_ist (pc' := 31) cd_Te_hasGoodParts rfl (Or.inl ⟨rfl, rfl⟩) (by decide) rfl (fun lv el => ?_)
  have l0 := tm_lk el l0 rfl (by decide)
  have l1 := tm_lk el l1 rfl (by decide)
  have l2 := tm_lk el l2 rfl (by decide)
  have l3 := tm_lk el l3 rfl (by decide)
  have l4 := tm_lk el l4 rfl (by decide)
  have l5 := tm_lk el l5 rfl (by decide)
  have l6 : lv.lookup 6 = some (.int x3) := tm_lks el
  clear el
  refine g_ild (pc' := 32) cd_Te_hasGoodParts rfl (Or.inr ⟨_, rfl, rfl, rfl⟩) l2 rfl ?_
  refine g_k1 (v := 3) (pc' := 33) cd_Te_hasGoodParts rfl (by decide) rfl ?_
  refine g_if2 (t := 120) (pc' := 36) cd_Te_hasGoodParts rfl rfl rfl (fun c33 => ?_) (fun c33 => ?_)
  · have c33 : ¬ (5 : Int32) = 3 := c33
    refine g_ild (pc' := 122) cd_Te_hasGoodParts rfl (Or.inl ⟨rfl, rfl⟩) l5 rfl ?_
    refine g_if1 (t := 130) (pc' := 125) cd_Te_hasGoodParts rfl rfl rfl (fun c122 => ?_) (fun c122 => ?_)
    · have c122 : ¬ x2 = 0 := c122
      refine g_k1 (v := 0) (pc' := 131) cd_Te_hasGoodParts rfl (by decide) rfl ?_
      exact g_retz cd_Te_hasGoodParts rfl (Or.inl rfl) ⟨_, rfl, bz_fin kk (by simp [gp, bz, c33, c122])⟩
    · have c122 : ¬ (¬ x2 = 0) := c122
      refine g_ild (pc' := 127) cd_Te_hasGoodParts rfl (Or.inl ⟨rfl, rfl⟩) l6 rfl ?_
      refine g_if1 (t := 132) (pc' := 130) cd_Te_hasGoodParts rfl rfl rfl (fun c127 => ?_) (fun c127 => ?_)
      · have c127 : x3 = 0 := c127
        refine g_ild (pc' := 133) cd_Te_hasGoodParts rfl (Or.inr ⟨_, rfl, rfl, rfl⟩) l2 rfl ?_
        refine g_pure (pc' := 203) (st' := []) cd_Te_hasGoodParts rfl rfl (fun _ _ => rfl) ?_
        refine g_ild (pc' := 204) cd_Te_hasGoodParts rfl (Or.inr ⟨_, rfl, rfl, rfl⟩) l3 rfl ?_
        refine g_if1 (t := 221) (pc' := 207) cd_Te_hasGoodParts rfl rfl rfl (fun c204 => ?_) (fun c204 => ?_)
        · have c204 : x0 = 0 := c204
          refine g_k1 (v := 0) (pc' := 222) cd_Te_hasGoodParts rfl (by decide) rfl ?_
          exact g_retz cd_Te_hasGoodParts rfl (Or.inl rfl) ⟨_, rfl, bz_fin kk (by simp [gp, bz, c33, c122, c127, c204])⟩
        · have c204 : ¬ x0 = 0 := c204
          refine g_ald (pc' := 208) cd_Te_hasGoodParts rfl (Or.inr ⟨_, rfl, rfl, rfl⟩) l0 rfl rfl ?_
          refine g_ild (pc' := 210) cd_Te_hasGoodParts rfl (Or.inl ⟨rfl, rfl⟩) l4 rfl ?_
          refine g_calli (pc' := 213) cd_Te_hasGoodParts rfl rfl rfl rfl rfl (tm_invV rfl rfl cd_Te_kindOf rfl (Nat.le_of_ble_eq_true rfl) (by decide) hT.1.1 hT.1.2) (k_Te_kindOf hT ?_)
          show bm_G _ _ _ 213 _ [.int (te_get B ca sz x1 0)] B _
          refine g_k1 (v := 2) (pc' := 214) cd_Te_hasGoodParts rfl (by decide) rfl ?_
          refine g_if2 (t := 221) (pc' := 217) cd_Te_hasGoodParts rfl rfl rfl (fun c214 => ?_) (fun c214 => ?_)
          · have c214 : ¬ (te_get B ca sz x1 0) = 2 := c214
            refine g_k1 (v := 0) (pc' := 222) cd_Te_hasGoodParts rfl (by decide) rfl ?_
            exact g_retz cd_Te_hasGoodParts rfl (Or.inl rfl) ⟨_, rfl, bz_fin kk (by simp [gp, bz, c33, c122, c127, c204, c214])⟩
          · have c214 : ¬ (¬ (te_get B ca sz x1 0) = 2) := c214
            refine g_k1 (v := 1) (pc' := 218) cd_Te_hasGoodParts rfl (by decide) rfl ?_
            refine g_pure (pc' := 222) (st' := [.int 1]) cd_Te_hasGoodParts rfl rfl (fun _ _ => rfl) ?_
            exact g_retz cd_Te_hasGoodParts rfl (Or.inr rfl) ⟨_, rfl, bz_fin kk (by simp [gp, bz, c33, c122, c127, c204, c214])⟩
      · have c127 : ¬ x3 = 0 := c127
        refine g_k1 (v := 0) (pc' := 131) cd_Te_hasGoodParts rfl (by decide) rfl ?_
        exact g_retz cd_Te_hasGoodParts rfl (Or.inl rfl) ⟨_, rfl, bz_fin kk (by simp [gp, bz, c33, c122, c127])⟩
  · exact absurd (show ¬ (¬ (5 : Int32) = 3) from c33) (by decide)
set_option maxRecDepth 100000 in
theorem k_Te_hasGoodParts_6 {sc : tm_X} {d : Nat} {B : bm_H} {a ca ba da rm sz dr : Nat} {t : Int32} {Q : Int32 → bm_H → Prop} (hT : te_ok B a ca ba da rm sz dr) (kk : Q (bz (te_gp B ca sz t 6)) B) : bm_Gi sc (d + 1) 74 [.ref a, .int t, .int 6] B Q := by
  unfold te_gp at kk
  show bm_G sc (d + 1) 74 0 [(0, .ref a), (1, .int t), (2, .int 6)] [] B _
  generalize elv : ([(0, .ref a), (1, .int t), (2, .int 6)] : tm_L) = lv
  have l0 : lv.lookup 0 = some (.ref a) := by rw [← elv]; rfl
  have l1 : lv.lookup 1 = some (.int t) := by rw [← elv]; rfl
  have l2 : lv.lookup 2 = some (.int 6) := by rw [← elv]; rfl
  clear elv
  refine g_ald (pc' := 1) cd_Te_hasGoodParts rfl (Or.inr ⟨_, rfl, rfl, rfl⟩) l0 rfl rfl ?_
  refine g_ild (pc' := 2) cd_Te_hasGoodParts rfl (Or.inr ⟨_, rfl, rfl, rfl⟩) l1 rfl ?_
  refine g_k1 (v := 0) (pc' := 3) cd_Te_hasGoodParts rfl (by decide) rfl ?_
  refine g_calli (pc' := 6) cd_Te_hasGoodParts rfl rfl rfl rfl rfl (tm_invV rfl rfl cd_Te_partOf rfl (Nat.le_of_ble_eq_true rfl) (by decide) hT.1.1 hT.1.2) (k_Te_partOf hT ?_)
  generalize hx0 : te_gt2 B ca sz t 0 6 = x0
  try rw [hx0] at kk
  show bm_G _ _ _ 6 _ [.int x0] B _
  refine g_ist (pc' := 7) cd_Te_hasGoodParts rfl (Or.inr ⟨_, rfl, rfl, rfl⟩) (by decide) rfl (fun lv el => ?_)
  have l0 := tm_lk el l0 rfl (by decide)
  have l1 := tm_lk el l1 rfl (by decide)
  have l2 := tm_lk el l2 rfl (by decide)
  have l3 : lv.lookup 3 = some (.int x0) := tm_lks el
  clear el
  refine g_ald (pc' := 8) cd_Te_hasGoodParts rfl (Or.inr ⟨_, rfl, rfl, rfl⟩) l0 rfl rfl ?_
  refine g_ild (pc' := 9) cd_Te_hasGoodParts rfl (Or.inr ⟨_, rfl, rfl, rfl⟩) l1 rfl ?_
  refine g_k1 (v := 1) (pc' := 10) cd_Te_hasGoodParts rfl (by decide) rfl ?_
  refine g_calli (pc' := 13) cd_Te_hasGoodParts rfl rfl rfl rfl rfl (tm_invV rfl rfl cd_Te_partOf rfl (Nat.le_of_ble_eq_true rfl) (by decide) hT.1.1 hT.1.2) (k_Te_partOf hT ?_)
  generalize hx1 : te_gt2 B ca sz t 1 6 = x1
  try rw [hx1] at kk
  show bm_G _ _ _ 13 _ [.int x1] B _
  refine g_ist (pc' := 15) cd_Te_hasGoodParts rfl (Or.inl ⟨rfl, rfl⟩) (by decide) rfl (fun lv el => ?_)
  have l0 := tm_lk el l0 rfl (by decide)
  have l1 := tm_lk el l1 rfl (by decide)
  have l2 := tm_lk el l2 rfl (by decide)
  have l3 := tm_lk el l3 rfl (by decide)
  have l4 : lv.lookup 4 = some (.int x1) := tm_lks el
  clear el
  refine g_ald (pc' := 16) cd_Te_hasGoodParts rfl (Or.inr ⟨_, rfl, rfl, rfl⟩) l0 rfl rfl ?_
  refine g_ild (pc' := 17) cd_Te_hasGoodParts rfl (Or.inr ⟨_, rfl, rfl, rfl⟩) l1 rfl ?_
  refine g_k1 (v := 2) (pc' := 18) cd_Te_hasGoodParts rfl (by decide) rfl ?_
  refine g_calli (pc' := 21) cd_Te_hasGoodParts rfl rfl rfl rfl rfl (tm_invV rfl rfl cd_Te_partOf rfl (Nat.le_of_ble_eq_true rfl) (by decide) hT.1.1 hT.1.2) (k_Te_partOf hT ?_)
  generalize hx2 : te_gt2 B ca sz t 2 6 = x2
  try rw [hx2] at kk
  show bm_G _ _ _ 21 _ [.int x2] B _
  refine g_ist (pc' := 23) cd_Te_hasGoodParts rfl (Or.inl ⟨rfl, rfl⟩) (by decide) rfl (fun lv el => ?_)
  have l0 := tm_lk el l0 rfl (by decide)
  have l1 := tm_lk el l1 rfl (by decide)
  have l2 := tm_lk el l2 rfl (by decide)
  have l3 := tm_lk el l3 rfl (by decide)
  have l4 := tm_lk el l4 rfl (by decide)
  have l5 : lv.lookup 5 = some (.int x2) := tm_lks el
  clear el
  refine g_ald (pc' := 24) cd_Te_hasGoodParts rfl (Or.inr ⟨_, rfl, rfl, rfl⟩) l0 rfl rfl ?_
  refine g_ild (pc' := 25) cd_Te_hasGoodParts rfl (Or.inr ⟨_, rfl, rfl, rfl⟩) l1 rfl ?_
  refine g_k1 (v := 3) (pc' := 26) cd_Te_hasGoodParts rfl (by decide) rfl ?_
  refine g_calli (pc' := 29) cd_Te_hasGoodParts rfl rfl rfl rfl rfl (tm_invV rfl rfl cd_Te_partOf rfl (Nat.le_of_ble_eq_true rfl) (by decide) hT.1.1 hT.1.2) (k_Te_partOf hT ?_)
  generalize hx3 : te_gt2 B ca sz t 3 6 = x3
  try rw [hx3] at kk
  show bm_G _ _ _ 29 _ [.int x3] B _
  refine g_ist (pc' := 31) cd_Te_hasGoodParts rfl (Or.inl ⟨rfl, rfl⟩) (by decide) rfl (fun lv el => ?_)
  have l0 := tm_lk el l0 rfl (by decide)
  have l1 := tm_lk el l1 rfl (by decide)
  have l2 := tm_lk el l2 rfl (by decide)
  have l3 := tm_lk el l3 rfl (by decide)
  have l4 := tm_lk el l4 rfl (by decide)
  have l5 := tm_lk el l5 rfl (by decide)
  have l6 : lv.lookup 6 = some (.int x3) := tm_lks el
  clear el
  refine g_ild (pc' := 32) cd_Te_hasGoodParts rfl (Or.inr ⟨_, rfl, rfl, rfl⟩) l2 rfl ?_
  refine g_k1 (v := 3) (pc' := 33) cd_Te_hasGoodParts rfl (by decide) rfl ?_
  refine g_if2 (t := 120) (pc' := 36) cd_Te_hasGoodParts rfl rfl rfl (fun c33 => ?_) (fun c33 => ?_)
  · have c33 : ¬ (6 : Int32) = 3 := c33
    refine g_ild (pc' := 122) cd_Te_hasGoodParts rfl (Or.inl ⟨rfl, rfl⟩) l5 rfl ?_
    refine g_if1 (t := 130) (pc' := 125) cd_Te_hasGoodParts rfl rfl rfl (fun c122 => ?_) (fun c122 => ?_)
    · have c122 : ¬ x2 = 0 := c122
      refine g_k1 (v := 0) (pc' := 131) cd_Te_hasGoodParts rfl (by decide) rfl ?_
      exact g_retz cd_Te_hasGoodParts rfl (Or.inl rfl) ⟨_, rfl, bz_fin kk (by simp [gp, bz, c33, c122])⟩
    · have c122 : ¬ (¬ x2 = 0) := c122
      refine g_ild (pc' := 127) cd_Te_hasGoodParts rfl (Or.inl ⟨rfl, rfl⟩) l6 rfl ?_
      refine g_if1 (t := 132) (pc' := 130) cd_Te_hasGoodParts rfl rfl rfl (fun c127 => ?_) (fun c127 => ?_)
      · have c127 : x3 = 0 := c127
        refine g_ild (pc' := 133) cd_Te_hasGoodParts rfl (Or.inr ⟨_, rfl, rfl, rfl⟩) l2 rfl ?_
        refine g_pure (pc' := 223) (st' := []) cd_Te_hasGoodParts rfl rfl (fun _ _ => rfl) ?_
        refine g_ild (pc' := 224) cd_Te_hasGoodParts rfl (Or.inr ⟨_, rfl, rfl, rfl⟩) l3 rfl ?_
        refine g_if1 (t := 236) (pc' := 227) cd_Te_hasGoodParts rfl rfl rfl (fun c224 => ?_) (fun c224 => ?_)
        · have c224 : ¬ x0 = 0 := c224
          refine g_k1 (v := 0) (pc' := 237) cd_Te_hasGoodParts rfl (by decide) rfl ?_
          exact g_retz cd_Te_hasGoodParts rfl (Or.inl rfl) ⟨_, rfl, bz_fin kk (by simp [gp, bz, c33, c122, c127, c224])⟩
        · have c224 : ¬ (¬ x0 = 0) := c224
          refine g_ild (pc' := 229) cd_Te_hasGoodParts rfl (Or.inl ⟨rfl, rfl⟩) l4 rfl ?_
          refine g_if1 (t := 236) (pc' := 232) cd_Te_hasGoodParts rfl rfl rfl (fun c229 => ?_) (fun c229 => ?_)
          · have c229 : ¬ x1 = 0 := c229
            refine g_k1 (v := 0) (pc' := 237) cd_Te_hasGoodParts rfl (by decide) rfl ?_
            exact g_retz cd_Te_hasGoodParts rfl (Or.inl rfl) ⟨_, rfl, bz_fin kk (by simp [gp, bz, c33, c122, c127, c224, c229])⟩
          · have c229 : ¬ (¬ x1 = 0) := c229
            refine g_k1 (v := 1) (pc' := 233) cd_Te_hasGoodParts rfl (by decide) rfl ?_
            refine g_pure (pc' := 237) (st' := [.int 1]) cd_Te_hasGoodParts rfl rfl (fun _ _ => rfl) ?_
            exact g_retz cd_Te_hasGoodParts rfl (Or.inr rfl) ⟨_, rfl, bz_fin kk (by simp [gp, bz, c33, c122, c127, c224, c229])⟩
      · have c127 : ¬ x3 = 0 := c127
        refine g_k1 (v := 0) (pc' := 131) cd_Te_hasGoodParts rfl (by decide) rfl ?_
        exact g_retz cd_Te_hasGoodParts rfl (Or.inl rfl) ⟨_, rfl, bz_fin kk (by simp [gp, bz, c33, c122, c127])⟩
  · exact absurd (show ¬ (¬ (6 : Int32) = 3) from c33) (by decide)
set_option maxRecDepth 100000 in
theorem k_Te_hasGoodParts_7 {sc : tm_X} {d : Nat} {B : bm_H} {a ca ba da rm sz dr : Nat} {t : Int32} {Q : Int32 → bm_H → Prop} (hT : te_ok B a ca ba da rm sz dr) (kk : Q (bz (te_gp B ca sz t 7)) B) : bm_Gi sc (d + 1) 74 [.ref a, .int t, .int 7] B Q := by
  unfold te_gp at kk
  show bm_G sc (d + 1) 74 0 [(0, .ref a), (1, .int t), (2, .int 7)] [] B _
  generalize elv : ([(0, .ref a), (1, .int t), (2, .int 7)] : tm_L) = lv
  have l0 : lv.lookup 0 = some (.ref a) := by rw [← elv]; rfl
  have l1 : lv.lookup 1 = some (.int t) := by rw [← elv]; rfl
  have l2 : lv.lookup 2 = some (.int 7) := by rw [← elv]; rfl
  clear elv
  refine g_ald (pc' := 1) cd_Te_hasGoodParts rfl (Or.inr ⟨_, rfl, rfl, rfl⟩) l0 rfl rfl ?_
  refine g_ild (pc' := 2) cd_Te_hasGoodParts rfl (Or.inr ⟨_, rfl, rfl, rfl⟩) l1 rfl ?_
  refine g_k1 (v := 0) (pc' := 3) cd_Te_hasGoodParts rfl (by decide) rfl ?_
  refine g_calli (pc' := 6) cd_Te_hasGoodParts rfl rfl rfl rfl rfl (tm_invV rfl rfl cd_Te_partOf rfl (Nat.le_of_ble_eq_true rfl) (by decide) hT.1.1 hT.1.2) (k_Te_partOf hT ?_)
  generalize hx0 : te_gt2 B ca sz t 0 6 = x0
  try rw [hx0] at kk
  show bm_G _ _ _ 6 _ [.int x0] B _
  refine g_ist (pc' := 7) cd_Te_hasGoodParts rfl (Or.inr ⟨_, rfl, rfl, rfl⟩) (by decide) rfl (fun lv el => ?_)
  have l0 := tm_lk el l0 rfl (by decide)
  have l1 := tm_lk el l1 rfl (by decide)
  have l2 := tm_lk el l2 rfl (by decide)
  have l3 : lv.lookup 3 = some (.int x0) := tm_lks el
  clear el
  refine g_ald (pc' := 8) cd_Te_hasGoodParts rfl (Or.inr ⟨_, rfl, rfl, rfl⟩) l0 rfl rfl ?_
  refine g_ild (pc' := 9) cd_Te_hasGoodParts rfl (Or.inr ⟨_, rfl, rfl, rfl⟩) l1 rfl ?_
  refine g_k1 (v := 1) (pc' := 10) cd_Te_hasGoodParts rfl (by decide) rfl ?_
  refine g_calli (pc' := 13) cd_Te_hasGoodParts rfl rfl rfl rfl rfl (tm_invV rfl rfl cd_Te_partOf rfl (Nat.le_of_ble_eq_true rfl) (by decide) hT.1.1 hT.1.2) (k_Te_partOf hT ?_)
  generalize hx1 : te_gt2 B ca sz t 1 6 = x1
  try rw [hx1] at kk
  show bm_G _ _ _ 13 _ [.int x1] B _
  refine g_ist (pc' := 15) cd_Te_hasGoodParts rfl (Or.inl ⟨rfl, rfl⟩) (by decide) rfl (fun lv el => ?_)
  have l0 := tm_lk el l0 rfl (by decide)
  have l1 := tm_lk el l1 rfl (by decide)
  have l2 := tm_lk el l2 rfl (by decide)
  have l3 := tm_lk el l3 rfl (by decide)
  have l4 : lv.lookup 4 = some (.int x1) := tm_lks el
  clear el
  refine g_ald (pc' := 16) cd_Te_hasGoodParts rfl (Or.inr ⟨_, rfl, rfl, rfl⟩) l0 rfl rfl ?_
  refine g_ild (pc' := 17) cd_Te_hasGoodParts rfl (Or.inr ⟨_, rfl, rfl, rfl⟩) l1 rfl ?_
  refine g_k1 (v := 2) (pc' := 18) cd_Te_hasGoodParts rfl (by decide) rfl ?_
  refine g_calli (pc' := 21) cd_Te_hasGoodParts rfl rfl rfl rfl rfl (tm_invV rfl rfl cd_Te_partOf rfl (Nat.le_of_ble_eq_true rfl) (by decide) hT.1.1 hT.1.2) (k_Te_partOf hT ?_)
  generalize hx2 : te_gt2 B ca sz t 2 6 = x2
  try rw [hx2] at kk
  show bm_G _ _ _ 21 _ [.int x2] B _
  refine g_ist (pc' := 23) cd_Te_hasGoodParts rfl (Or.inl ⟨rfl, rfl⟩) (by decide) rfl (fun lv el => ?_)
  have l0 := tm_lk el l0 rfl (by decide)
  have l1 := tm_lk el l1 rfl (by decide)
  have l2 := tm_lk el l2 rfl (by decide)
  have l3 := tm_lk el l3 rfl (by decide)
  have l4 := tm_lk el l4 rfl (by decide)
  have l5 : lv.lookup 5 = some (.int x2) := tm_lks el
  clear el
  refine g_ald (pc' := 24) cd_Te_hasGoodParts rfl (Or.inr ⟨_, rfl, rfl, rfl⟩) l0 rfl rfl ?_
  refine g_ild (pc' := 25) cd_Te_hasGoodParts rfl (Or.inr ⟨_, rfl, rfl, rfl⟩) l1 rfl ?_
  refine g_k1 (v := 3) (pc' := 26) cd_Te_hasGoodParts rfl (by decide) rfl ?_
  refine g_calli (pc' := 29) cd_Te_hasGoodParts rfl rfl rfl rfl rfl (tm_invV rfl rfl cd_Te_partOf rfl (Nat.le_of_ble_eq_true rfl) (by decide) hT.1.1 hT.1.2) (k_Te_partOf hT ?_)
  generalize hx3 : te_gt2 B ca sz t 3 6 = x3
  try rw [hx3] at kk
  show bm_G _ _ _ 29 _ [.int x3] B _
  refine g_ist (pc' := 31) cd_Te_hasGoodParts rfl (Or.inl ⟨rfl, rfl⟩) (by decide) rfl (fun lv el => ?_)
  have l0 := tm_lk el l0 rfl (by decide)
  have l1 := tm_lk el l1 rfl (by decide)
  have l2 := tm_lk el l2 rfl (by decide)
  have l3 := tm_lk el l3 rfl (by decide)
  have l4 := tm_lk el l4 rfl (by decide)
  have l5 := tm_lk el l5 rfl (by decide)
  have l6 : lv.lookup 6 = some (.int x3) := tm_lks el
  clear el
  refine g_ild (pc' := 32) cd_Te_hasGoodParts rfl (Or.inr ⟨_, rfl, rfl, rfl⟩) l2 rfl ?_
  refine g_k1 (v := 3) (pc' := 33) cd_Te_hasGoodParts rfl (by decide) rfl ?_
  refine g_if2 (t := 120) (pc' := 36) cd_Te_hasGoodParts rfl rfl rfl (fun c33 => ?_) (fun c33 => ?_)
  · have c33 : ¬ (7 : Int32) = 3 := c33
    refine g_ild (pc' := 122) cd_Te_hasGoodParts rfl (Or.inl ⟨rfl, rfl⟩) l5 rfl ?_
    refine g_if1 (t := 130) (pc' := 125) cd_Te_hasGoodParts rfl rfl rfl (fun c122 => ?_) (fun c122 => ?_)
    · have c122 : ¬ x2 = 0 := c122
      refine g_k1 (v := 0) (pc' := 131) cd_Te_hasGoodParts rfl (by decide) rfl ?_
      exact g_retz cd_Te_hasGoodParts rfl (Or.inl rfl) ⟨_, rfl, bz_fin kk (by simp [gp, bz, c33, c122])⟩
    · have c122 : ¬ (¬ x2 = 0) := c122
      refine g_ild (pc' := 127) cd_Te_hasGoodParts rfl (Or.inl ⟨rfl, rfl⟩) l6 rfl ?_
      refine g_if1 (t := 132) (pc' := 130) cd_Te_hasGoodParts rfl rfl rfl (fun c127 => ?_) (fun c127 => ?_)
      · have c127 : x3 = 0 := c127
        refine g_ild (pc' := 133) cd_Te_hasGoodParts rfl (Or.inr ⟨_, rfl, rfl, rfl⟩) l2 rfl ?_
        refine g_pure (pc' := 223) (st' := []) cd_Te_hasGoodParts rfl rfl (fun _ _ => rfl) ?_
        refine g_ild (pc' := 224) cd_Te_hasGoodParts rfl (Or.inr ⟨_, rfl, rfl, rfl⟩) l3 rfl ?_
        refine g_if1 (t := 236) (pc' := 227) cd_Te_hasGoodParts rfl rfl rfl (fun c224 => ?_) (fun c224 => ?_)
        · have c224 : ¬ x0 = 0 := c224
          refine g_k1 (v := 0) (pc' := 237) cd_Te_hasGoodParts rfl (by decide) rfl ?_
          exact g_retz cd_Te_hasGoodParts rfl (Or.inl rfl) ⟨_, rfl, bz_fin kk (by simp [gp, bz, c33, c122, c127, c224])⟩
        · have c224 : ¬ (¬ x0 = 0) := c224
          refine g_ild (pc' := 229) cd_Te_hasGoodParts rfl (Or.inl ⟨rfl, rfl⟩) l4 rfl ?_
          refine g_if1 (t := 236) (pc' := 232) cd_Te_hasGoodParts rfl rfl rfl (fun c229 => ?_) (fun c229 => ?_)
          · have c229 : ¬ x1 = 0 := c229
            refine g_k1 (v := 0) (pc' := 237) cd_Te_hasGoodParts rfl (by decide) rfl ?_
            exact g_retz cd_Te_hasGoodParts rfl (Or.inl rfl) ⟨_, rfl, bz_fin kk (by simp [gp, bz, c33, c122, c127, c224, c229])⟩
          · have c229 : ¬ (¬ x1 = 0) := c229
            refine g_k1 (v := 1) (pc' := 233) cd_Te_hasGoodParts rfl (by decide) rfl ?_
            refine g_pure (pc' := 237) (st' := [.int 1]) cd_Te_hasGoodParts rfl rfl (fun _ _ => rfl) ?_
            exact g_retz cd_Te_hasGoodParts rfl (Or.inr rfl) ⟨_, rfl, bz_fin kk (by simp [gp, bz, c33, c122, c127, c224, c229])⟩
      · have c127 : ¬ x3 = 0 := c127
        refine g_k1 (v := 0) (pc' := 131) cd_Te_hasGoodParts rfl (by decide) rfl ?_
        exact g_retz cd_Te_hasGoodParts rfl (Or.inl rfl) ⟨_, rfl, bz_fin kk (by simp [gp, bz, c33, c122, c127])⟩
  · exact absurd (show ¬ (¬ (7 : Int32) = 3) from c33) (by decide)
set_option maxRecDepth 100000 in
theorem k_Te_isGood_1 {sc : tm_X} {d : Nat} {B : bm_H} {a ca ba da rm sz dr : Nat} {t : Int32} {Q : Int32 → bm_H → Prop} (hT : te_ok B a ca ba da rm sz dr) (kk : Q (bz (te_good B ca sz t 1)) B) : bm_Gi sc (d + 2) 68 [.ref a, .int t, .int 1] B Q := by
  show bm_G sc (d + 2) 68 0 [(0, .ref a), (1, .int t), (2, .int 1)] [] B _
  generalize elv : ([(0, .ref a), (1, .int t), (2, .int 1)] : tm_L) = lv
  have l0 : lv.lookup 0 = some (.ref a) := by rw [← elv]; rfl
  have l1 : lv.lookup 1 = some (.int t) := by rw [← elv]; rfl
  have l2 : lv.lookup 2 = some (.int 1) := by rw [← elv]; rfl
  clear elv
  refine g_ald (pc' := 1) cd_Te_isGood rfl (Or.inr ⟨_, rfl, rfl, rfl⟩) l0 rfl rfl ?_
  refine g_ild (pc' := 2) cd_Te_isGood rfl (Or.inr ⟨_, rfl, rfl, rfl⟩) l1 rfl ?_
  refine g_calli (pc' := 5) cd_Te_isGood rfl rfl rfl rfl rfl (tm_invV rfl rfl cd_Te_kindOf rfl (Nat.le_of_ble_eq_true rfl) (by decide) hT.1.1 hT.1.2) (k_Te_kindOf hT ?_)
  show bm_G _ _ _ 5 _ [.int (te_get B ca sz t 0)] B _
  refine g_k2 (v := 7) (pc' := 7) cd_Te_isGood rfl (by decide) rfl ?_
  refine g_if2 (t := 19) (pc' := 10) cd_Te_isGood rfl rfl rfl (fun c7 => ?_) (fun c7 => ?_)
  · have c7 : ¬ (te_get B ca sz t 0) = 7 := c7
    refine g_k1 (v := 0) (pc' := 20) cd_Te_isGood rfl (by decide) rfl ?_
    exact g_retz cd_Te_isGood rfl (Or.inl rfl) ⟨_, rfl, bz_fin kk (by simp [te_good, bz, show nI 1 = 1 from rfl, c7])⟩
  · have c7 : ¬ (¬ (te_get B ca sz t 0) = 7) := c7
    refine g_ald (pc' := 11) cd_Te_isGood rfl (Or.inr ⟨_, rfl, rfl, rfl⟩) l0 rfl rfl ?_
    refine g_ild (pc' := 12) cd_Te_isGood rfl (Or.inr ⟨_, rfl, rfl, rfl⟩) l1 rfl ?_
    refine g_calli (pc' := 15) cd_Te_isGood rfl rfl rfl rfl rfl (tm_invV rfl rfl cd_Te_markOf rfl (Nat.le_of_ble_eq_true rfl) (by decide) hT.1.1 hT.1.2) (k_Te_markOf hT ?_)
    show bm_G _ _ _ 15 _ [.int (te_get B ca sz t 1)] B _
    refine g_ild (pc' := 16) cd_Te_isGood rfl (Or.inr ⟨_, rfl, rfl, rfl⟩) l2 rfl ?_
    refine g_if2 (t := 21) (pc' := 19) cd_Te_isGood rfl rfl rfl (fun c16 => ?_) (fun c16 => ?_)
    · have c16 : (te_get B ca sz t 1) = 1 := c16
      refine g_ald (pc' := 22) cd_Te_isGood rfl (Or.inr ⟨_, rfl, rfl, rfl⟩) l0 rfl rfl ?_
      refine g_ild (pc' := 23) cd_Te_isGood rfl (Or.inr ⟨_, rfl, rfl, rfl⟩) l1 rfl ?_
      refine g_ild (pc' := 24) cd_Te_isGood rfl (Or.inr ⟨_, rfl, rfl, rfl⟩) l2 rfl ?_
      refine g_calli (pc' := 27) cd_Te_isGood rfl rfl rfl rfl rfl (tm_invV rfl rfl cd_Te_hasGoodNumbers rfl (Nat.le_of_ble_eq_true rfl) (by decide) hT.1.1 hT.1.2) (k_Te_hasGoodNumbers_1 hT ?_)
      show bm_G _ _ _ 27 _ [.int (bz (te_gn B ca sz t 1))] B _
      refine g_if1 (t := 43) (pc' := 30) cd_Te_isGood rfl rfl rfl (fun c27 => ?_) (fun c27 => ?_)
      · have c27 : (te_gn B ca sz t 1) = false := bz_f c27
        refine g_k1 (v := 0) (pc' := 44) cd_Te_isGood rfl (by decide) rfl ?_
        exact g_retz cd_Te_isGood rfl (Or.inl rfl) ⟨_, rfl, bz_fin kk (by simp [te_good, bz, show nI 1 = 1 from rfl, c7, c16, c27])⟩
      · have c27 : (te_gn B ca sz t 1) = true := bz_t c27
        refine g_ald (pc' := 31) cd_Te_isGood rfl (Or.inr ⟨_, rfl, rfl, rfl⟩) l0 rfl rfl ?_
        refine g_ild (pc' := 32) cd_Te_isGood rfl (Or.inr ⟨_, rfl, rfl, rfl⟩) l1 rfl ?_
        refine g_ild (pc' := 33) cd_Te_isGood rfl (Or.inr ⟨_, rfl, rfl, rfl⟩) l2 rfl ?_
        refine g_calli (pc' := 36) cd_Te_isGood rfl rfl rfl rfl rfl (tm_invV rfl rfl cd_Te_hasGoodParts rfl (Nat.le_of_ble_eq_true rfl) (by decide) hT.1.1 hT.1.2) (k_Te_hasGoodParts_1 hT ?_)
        show bm_G _ _ _ 36 _ [.int (bz (te_gp B ca sz t 1))] B _
        refine g_if1 (t := 43) (pc' := 39) cd_Te_isGood rfl rfl rfl (fun c36 => ?_) (fun c36 => ?_)
        · have c36 : (te_gp B ca sz t 1) = false := bz_f c36
          refine g_k1 (v := 0) (pc' := 44) cd_Te_isGood rfl (by decide) rfl ?_
          exact g_retz cd_Te_isGood rfl (Or.inl rfl) ⟨_, rfl, bz_fin kk (by simp [te_good, bz, show nI 1 = 1 from rfl, c7, c16, c27, c36])⟩
        · have c36 : (te_gp B ca sz t 1) = true := bz_t c36
          refine g_k1 (v := 1) (pc' := 40) cd_Te_isGood rfl (by decide) rfl ?_
          refine g_pure (pc' := 44) (st' := [.int 1]) cd_Te_isGood rfl rfl (fun _ _ => rfl) ?_
          exact g_retz cd_Te_isGood rfl (Or.inr rfl) ⟨_, rfl, bz_fin kk (by simp [te_good, bz, show nI 1 = 1 from rfl, c7, c16, c27, c36])⟩
    · have c16 : ¬ (te_get B ca sz t 1) = 1 := c16
      refine g_k1 (v := 0) (pc' := 20) cd_Te_isGood rfl (by decide) rfl ?_
      exact g_retz cd_Te_isGood rfl (Or.inl rfl) ⟨_, rfl, bz_fin kk (by simp [te_good, bz, show nI 1 = 1 from rfl, c7, c16])⟩
set_option maxRecDepth 100000 in
theorem k_Te_isGood_2 {sc : tm_X} {d : Nat} {B : bm_H} {a ca ba da rm sz dr : Nat} {t : Int32} {Q : Int32 → bm_H → Prop} (hT : te_ok B a ca ba da rm sz dr) (kk : Q (bz (te_good B ca sz t 2)) B) : bm_Gi sc (d + 2) 68 [.ref a, .int t, .int 2] B Q := by
  show bm_G sc (d + 2) 68 0 [(0, .ref a), (1, .int t), (2, .int 2)] [] B _
  generalize elv : ([(0, .ref a), (1, .int t), (2, .int 2)] : tm_L) = lv
  have l0 : lv.lookup 0 = some (.ref a) := by rw [← elv]; rfl
  have l1 : lv.lookup 1 = some (.int t) := by rw [← elv]; rfl
  have l2 : lv.lookup 2 = some (.int 2) := by rw [← elv]; rfl
  clear elv
  refine g_ald (pc' := 1) cd_Te_isGood rfl (Or.inr ⟨_, rfl, rfl, rfl⟩) l0 rfl rfl ?_
  refine g_ild (pc' := 2) cd_Te_isGood rfl (Or.inr ⟨_, rfl, rfl, rfl⟩) l1 rfl ?_
  refine g_calli (pc' := 5) cd_Te_isGood rfl rfl rfl rfl rfl (tm_invV rfl rfl cd_Te_kindOf rfl (Nat.le_of_ble_eq_true rfl) (by decide) hT.1.1 hT.1.2) (k_Te_kindOf hT ?_)
  show bm_G _ _ _ 5 _ [.int (te_get B ca sz t 0)] B _
  refine g_k2 (v := 7) (pc' := 7) cd_Te_isGood rfl (by decide) rfl ?_
  refine g_if2 (t := 19) (pc' := 10) cd_Te_isGood rfl rfl rfl (fun c7 => ?_) (fun c7 => ?_)
  · have c7 : ¬ (te_get B ca sz t 0) = 7 := c7
    refine g_k1 (v := 0) (pc' := 20) cd_Te_isGood rfl (by decide) rfl ?_
    exact g_retz cd_Te_isGood rfl (Or.inl rfl) ⟨_, rfl, bz_fin kk (by simp [te_good, bz, show nI 2 = 2 from rfl, c7])⟩
  · have c7 : ¬ (¬ (te_get B ca sz t 0) = 7) := c7
    refine g_ald (pc' := 11) cd_Te_isGood rfl (Or.inr ⟨_, rfl, rfl, rfl⟩) l0 rfl rfl ?_
    refine g_ild (pc' := 12) cd_Te_isGood rfl (Or.inr ⟨_, rfl, rfl, rfl⟩) l1 rfl ?_
    refine g_calli (pc' := 15) cd_Te_isGood rfl rfl rfl rfl rfl (tm_invV rfl rfl cd_Te_markOf rfl (Nat.le_of_ble_eq_true rfl) (by decide) hT.1.1 hT.1.2) (k_Te_markOf hT ?_)
    show bm_G _ _ _ 15 _ [.int (te_get B ca sz t 1)] B _
    refine g_ild (pc' := 16) cd_Te_isGood rfl (Or.inr ⟨_, rfl, rfl, rfl⟩) l2 rfl ?_
    refine g_if2 (t := 21) (pc' := 19) cd_Te_isGood rfl rfl rfl (fun c16 => ?_) (fun c16 => ?_)
    · have c16 : (te_get B ca sz t 1) = 2 := c16
      refine g_ald (pc' := 22) cd_Te_isGood rfl (Or.inr ⟨_, rfl, rfl, rfl⟩) l0 rfl rfl ?_
      refine g_ild (pc' := 23) cd_Te_isGood rfl (Or.inr ⟨_, rfl, rfl, rfl⟩) l1 rfl ?_
      refine g_ild (pc' := 24) cd_Te_isGood rfl (Or.inr ⟨_, rfl, rfl, rfl⟩) l2 rfl ?_
      refine g_calli (pc' := 27) cd_Te_isGood rfl rfl rfl rfl rfl (tm_invV rfl rfl cd_Te_hasGoodNumbers rfl (Nat.le_of_ble_eq_true rfl) (by decide) hT.1.1 hT.1.2) (k_Te_hasGoodNumbers_2 hT ?_)
      show bm_G _ _ _ 27 _ [.int (bz (te_gn B ca sz t 2))] B _
      refine g_if1 (t := 43) (pc' := 30) cd_Te_isGood rfl rfl rfl (fun c27 => ?_) (fun c27 => ?_)
      · have c27 : (te_gn B ca sz t 2) = false := bz_f c27
        refine g_k1 (v := 0) (pc' := 44) cd_Te_isGood rfl (by decide) rfl ?_
        exact g_retz cd_Te_isGood rfl (Or.inl rfl) ⟨_, rfl, bz_fin kk (by simp [te_good, bz, show nI 2 = 2 from rfl, c7, c16, c27])⟩
      · have c27 : (te_gn B ca sz t 2) = true := bz_t c27
        refine g_ald (pc' := 31) cd_Te_isGood rfl (Or.inr ⟨_, rfl, rfl, rfl⟩) l0 rfl rfl ?_
        refine g_ild (pc' := 32) cd_Te_isGood rfl (Or.inr ⟨_, rfl, rfl, rfl⟩) l1 rfl ?_
        refine g_ild (pc' := 33) cd_Te_isGood rfl (Or.inr ⟨_, rfl, rfl, rfl⟩) l2 rfl ?_
        refine g_calli (pc' := 36) cd_Te_isGood rfl rfl rfl rfl rfl (tm_invV rfl rfl cd_Te_hasGoodParts rfl (Nat.le_of_ble_eq_true rfl) (by decide) hT.1.1 hT.1.2) (k_Te_hasGoodParts_2 hT ?_)
        show bm_G _ _ _ 36 _ [.int (bz (te_gp B ca sz t 2))] B _
        refine g_if1 (t := 43) (pc' := 39) cd_Te_isGood rfl rfl rfl (fun c36 => ?_) (fun c36 => ?_)
        · have c36 : (te_gp B ca sz t 2) = false := bz_f c36
          refine g_k1 (v := 0) (pc' := 44) cd_Te_isGood rfl (by decide) rfl ?_
          exact g_retz cd_Te_isGood rfl (Or.inl rfl) ⟨_, rfl, bz_fin kk (by simp [te_good, bz, show nI 2 = 2 from rfl, c7, c16, c27, c36])⟩
        · have c36 : (te_gp B ca sz t 2) = true := bz_t c36
          refine g_k1 (v := 1) (pc' := 40) cd_Te_isGood rfl (by decide) rfl ?_
          refine g_pure (pc' := 44) (st' := [.int 1]) cd_Te_isGood rfl rfl (fun _ _ => rfl) ?_
          exact g_retz cd_Te_isGood rfl (Or.inr rfl) ⟨_, rfl, bz_fin kk (by simp [te_good, bz, show nI 2 = 2 from rfl, c7, c16, c27, c36])⟩
    · have c16 : ¬ (te_get B ca sz t 1) = 2 := c16
      refine g_k1 (v := 0) (pc' := 20) cd_Te_isGood rfl (by decide) rfl ?_
      exact g_retz cd_Te_isGood rfl (Or.inl rfl) ⟨_, rfl, bz_fin kk (by simp [te_good, bz, show nI 2 = 2 from rfl, c7, c16])⟩
set_option maxRecDepth 100000 in
theorem k_Te_isGood_3 {sc : tm_X} {d : Nat} {B : bm_H} {a ca ba da rm sz dr : Nat} {t : Int32} {Q : Int32 → bm_H → Prop} (hT : te_ok B a ca ba da rm sz dr) (kk : Q (bz (te_good B ca sz t 3)) B) : bm_Gi sc (d + 2) 68 [.ref a, .int t, .int 3] B Q := by
  show bm_G sc (d + 2) 68 0 [(0, .ref a), (1, .int t), (2, .int 3)] [] B _
  generalize elv : ([(0, .ref a), (1, .int t), (2, .int 3)] : tm_L) = lv
  have l0 : lv.lookup 0 = some (.ref a) := by rw [← elv]; rfl
  have l1 : lv.lookup 1 = some (.int t) := by rw [← elv]; rfl
  have l2 : lv.lookup 2 = some (.int 3) := by rw [← elv]; rfl
  clear elv
  refine g_ald (pc' := 1) cd_Te_isGood rfl (Or.inr ⟨_, rfl, rfl, rfl⟩) l0 rfl rfl ?_
  refine g_ild (pc' := 2) cd_Te_isGood rfl (Or.inr ⟨_, rfl, rfl, rfl⟩) l1 rfl ?_
  refine g_calli (pc' := 5) cd_Te_isGood rfl rfl rfl rfl rfl (tm_invV rfl rfl cd_Te_kindOf rfl (Nat.le_of_ble_eq_true rfl) (by decide) hT.1.1 hT.1.2) (k_Te_kindOf hT ?_)
  show bm_G _ _ _ 5 _ [.int (te_get B ca sz t 0)] B _
  refine g_k2 (v := 7) (pc' := 7) cd_Te_isGood rfl (by decide) rfl ?_
  refine g_if2 (t := 19) (pc' := 10) cd_Te_isGood rfl rfl rfl (fun c7 => ?_) (fun c7 => ?_)
  · have c7 : ¬ (te_get B ca sz t 0) = 7 := c7
    refine g_k1 (v := 0) (pc' := 20) cd_Te_isGood rfl (by decide) rfl ?_
    exact g_retz cd_Te_isGood rfl (Or.inl rfl) ⟨_, rfl, bz_fin kk (by simp [te_good, bz, show nI 3 = 3 from rfl, c7])⟩
  · have c7 : ¬ (¬ (te_get B ca sz t 0) = 7) := c7
    refine g_ald (pc' := 11) cd_Te_isGood rfl (Or.inr ⟨_, rfl, rfl, rfl⟩) l0 rfl rfl ?_
    refine g_ild (pc' := 12) cd_Te_isGood rfl (Or.inr ⟨_, rfl, rfl, rfl⟩) l1 rfl ?_
    refine g_calli (pc' := 15) cd_Te_isGood rfl rfl rfl rfl rfl (tm_invV rfl rfl cd_Te_markOf rfl (Nat.le_of_ble_eq_true rfl) (by decide) hT.1.1 hT.1.2) (k_Te_markOf hT ?_)
    show bm_G _ _ _ 15 _ [.int (te_get B ca sz t 1)] B _
    refine g_ild (pc' := 16) cd_Te_isGood rfl (Or.inr ⟨_, rfl, rfl, rfl⟩) l2 rfl ?_
    refine g_if2 (t := 21) (pc' := 19) cd_Te_isGood rfl rfl rfl (fun c16 => ?_) (fun c16 => ?_)
    · have c16 : (te_get B ca sz t 1) = 3 := c16
      refine g_ald (pc' := 22) cd_Te_isGood rfl (Or.inr ⟨_, rfl, rfl, rfl⟩) l0 rfl rfl ?_
      refine g_ild (pc' := 23) cd_Te_isGood rfl (Or.inr ⟨_, rfl, rfl, rfl⟩) l1 rfl ?_
      refine g_ild (pc' := 24) cd_Te_isGood rfl (Or.inr ⟨_, rfl, rfl, rfl⟩) l2 rfl ?_
      refine g_calli (pc' := 27) cd_Te_isGood rfl rfl rfl rfl rfl (tm_invV rfl rfl cd_Te_hasGoodNumbers rfl (Nat.le_of_ble_eq_true rfl) (by decide) hT.1.1 hT.1.2) (k_Te_hasGoodNumbers_3 hT ?_)
      show bm_G _ _ _ 27 _ [.int (bz (te_gn B ca sz t 3))] B _
      refine g_if1 (t := 43) (pc' := 30) cd_Te_isGood rfl rfl rfl (fun c27 => ?_) (fun c27 => ?_)
      · have c27 : (te_gn B ca sz t 3) = false := bz_f c27
        refine g_k1 (v := 0) (pc' := 44) cd_Te_isGood rfl (by decide) rfl ?_
        exact g_retz cd_Te_isGood rfl (Or.inl rfl) ⟨_, rfl, bz_fin kk (by simp [te_good, bz, show nI 3 = 3 from rfl, c7, c16, c27])⟩
      · have c27 : (te_gn B ca sz t 3) = true := bz_t c27
        refine g_ald (pc' := 31) cd_Te_isGood rfl (Or.inr ⟨_, rfl, rfl, rfl⟩) l0 rfl rfl ?_
        refine g_ild (pc' := 32) cd_Te_isGood rfl (Or.inr ⟨_, rfl, rfl, rfl⟩) l1 rfl ?_
        refine g_ild (pc' := 33) cd_Te_isGood rfl (Or.inr ⟨_, rfl, rfl, rfl⟩) l2 rfl ?_
        refine g_calli (pc' := 36) cd_Te_isGood rfl rfl rfl rfl rfl (tm_invV rfl rfl cd_Te_hasGoodParts rfl (Nat.le_of_ble_eq_true rfl) (by decide) hT.1.1 hT.1.2) (k_Te_hasGoodParts_3 hT ?_)
        show bm_G _ _ _ 36 _ [.int (bz (te_gp B ca sz t 3))] B _
        refine g_if1 (t := 43) (pc' := 39) cd_Te_isGood rfl rfl rfl (fun c36 => ?_) (fun c36 => ?_)
        · have c36 : (te_gp B ca sz t 3) = false := bz_f c36
          refine g_k1 (v := 0) (pc' := 44) cd_Te_isGood rfl (by decide) rfl ?_
          exact g_retz cd_Te_isGood rfl (Or.inl rfl) ⟨_, rfl, bz_fin kk (by simp [te_good, bz, show nI 3 = 3 from rfl, c7, c16, c27, c36])⟩
        · have c36 : (te_gp B ca sz t 3) = true := bz_t c36
          refine g_k1 (v := 1) (pc' := 40) cd_Te_isGood rfl (by decide) rfl ?_
          refine g_pure (pc' := 44) (st' := [.int 1]) cd_Te_isGood rfl rfl (fun _ _ => rfl) ?_
          exact g_retz cd_Te_isGood rfl (Or.inr rfl) ⟨_, rfl, bz_fin kk (by simp [te_good, bz, show nI 3 = 3 from rfl, c7, c16, c27, c36])⟩
    · have c16 : ¬ (te_get B ca sz t 1) = 3 := c16
      refine g_k1 (v := 0) (pc' := 20) cd_Te_isGood rfl (by decide) rfl ?_
      exact g_retz cd_Te_isGood rfl (Or.inl rfl) ⟨_, rfl, bz_fin kk (by simp [te_good, bz, show nI 3 = 3 from rfl, c7, c16])⟩
set_option maxRecDepth 100000 in
theorem k_Te_isGood_4 {sc : tm_X} {d : Nat} {B : bm_H} {a ca ba da rm sz dr : Nat} {t : Int32} {Q : Int32 → bm_H → Prop} (hT : te_ok B a ca ba da rm sz dr) (kk : Q (bz (te_good B ca sz t 4)) B) : bm_Gi sc (d + 2) 68 [.ref a, .int t, .int 4] B Q := by
  show bm_G sc (d + 2) 68 0 [(0, .ref a), (1, .int t), (2, .int 4)] [] B _
  generalize elv : ([(0, .ref a), (1, .int t), (2, .int 4)] : tm_L) = lv
  have l0 : lv.lookup 0 = some (.ref a) := by rw [← elv]; rfl
  have l1 : lv.lookup 1 = some (.int t) := by rw [← elv]; rfl
  have l2 : lv.lookup 2 = some (.int 4) := by rw [← elv]; rfl
  clear elv
  refine g_ald (pc' := 1) cd_Te_isGood rfl (Or.inr ⟨_, rfl, rfl, rfl⟩) l0 rfl rfl ?_
  refine g_ild (pc' := 2) cd_Te_isGood rfl (Or.inr ⟨_, rfl, rfl, rfl⟩) l1 rfl ?_
  refine g_calli (pc' := 5) cd_Te_isGood rfl rfl rfl rfl rfl (tm_invV rfl rfl cd_Te_kindOf rfl (Nat.le_of_ble_eq_true rfl) (by decide) hT.1.1 hT.1.2) (k_Te_kindOf hT ?_)
  show bm_G _ _ _ 5 _ [.int (te_get B ca sz t 0)] B _
  refine g_k2 (v := 7) (pc' := 7) cd_Te_isGood rfl (by decide) rfl ?_
  refine g_if2 (t := 19) (pc' := 10) cd_Te_isGood rfl rfl rfl (fun c7 => ?_) (fun c7 => ?_)
  · have c7 : ¬ (te_get B ca sz t 0) = 7 := c7
    refine g_k1 (v := 0) (pc' := 20) cd_Te_isGood rfl (by decide) rfl ?_
    exact g_retz cd_Te_isGood rfl (Or.inl rfl) ⟨_, rfl, bz_fin kk (by simp [te_good, bz, show nI 4 = 4 from rfl, c7])⟩
  · have c7 : ¬ (¬ (te_get B ca sz t 0) = 7) := c7
    refine g_ald (pc' := 11) cd_Te_isGood rfl (Or.inr ⟨_, rfl, rfl, rfl⟩) l0 rfl rfl ?_
    refine g_ild (pc' := 12) cd_Te_isGood rfl (Or.inr ⟨_, rfl, rfl, rfl⟩) l1 rfl ?_
    refine g_calli (pc' := 15) cd_Te_isGood rfl rfl rfl rfl rfl (tm_invV rfl rfl cd_Te_markOf rfl (Nat.le_of_ble_eq_true rfl) (by decide) hT.1.1 hT.1.2) (k_Te_markOf hT ?_)
    show bm_G _ _ _ 15 _ [.int (te_get B ca sz t 1)] B _
    refine g_ild (pc' := 16) cd_Te_isGood rfl (Or.inr ⟨_, rfl, rfl, rfl⟩) l2 rfl ?_
    refine g_if2 (t := 21) (pc' := 19) cd_Te_isGood rfl rfl rfl (fun c16 => ?_) (fun c16 => ?_)
    · have c16 : (te_get B ca sz t 1) = 4 := c16
      refine g_ald (pc' := 22) cd_Te_isGood rfl (Or.inr ⟨_, rfl, rfl, rfl⟩) l0 rfl rfl ?_
      refine g_ild (pc' := 23) cd_Te_isGood rfl (Or.inr ⟨_, rfl, rfl, rfl⟩) l1 rfl ?_
      refine g_ild (pc' := 24) cd_Te_isGood rfl (Or.inr ⟨_, rfl, rfl, rfl⟩) l2 rfl ?_
      refine g_calli (pc' := 27) cd_Te_isGood rfl rfl rfl rfl rfl (tm_invV rfl rfl cd_Te_hasGoodNumbers rfl (Nat.le_of_ble_eq_true rfl) (by decide) hT.1.1 hT.1.2) (k_Te_hasGoodNumbers_4 hT ?_)
      show bm_G _ _ _ 27 _ [.int (bz (te_gn B ca sz t 4))] B _
      refine g_if1 (t := 43) (pc' := 30) cd_Te_isGood rfl rfl rfl (fun c27 => ?_) (fun c27 => ?_)
      · have c27 : (te_gn B ca sz t 4) = false := bz_f c27
        refine g_k1 (v := 0) (pc' := 44) cd_Te_isGood rfl (by decide) rfl ?_
        exact g_retz cd_Te_isGood rfl (Or.inl rfl) ⟨_, rfl, bz_fin kk (by simp [te_good, bz, show nI 4 = 4 from rfl, c7, c16, c27])⟩
      · have c27 : (te_gn B ca sz t 4) = true := bz_t c27
        refine g_ald (pc' := 31) cd_Te_isGood rfl (Or.inr ⟨_, rfl, rfl, rfl⟩) l0 rfl rfl ?_
        refine g_ild (pc' := 32) cd_Te_isGood rfl (Or.inr ⟨_, rfl, rfl, rfl⟩) l1 rfl ?_
        refine g_ild (pc' := 33) cd_Te_isGood rfl (Or.inr ⟨_, rfl, rfl, rfl⟩) l2 rfl ?_
        refine g_calli (pc' := 36) cd_Te_isGood rfl rfl rfl rfl rfl (tm_invV rfl rfl cd_Te_hasGoodParts rfl (Nat.le_of_ble_eq_true rfl) (by decide) hT.1.1 hT.1.2) (k_Te_hasGoodParts_4 hT ?_)
        show bm_G _ _ _ 36 _ [.int (bz (te_gp B ca sz t 4))] B _
        refine g_if1 (t := 43) (pc' := 39) cd_Te_isGood rfl rfl rfl (fun c36 => ?_) (fun c36 => ?_)
        · have c36 : (te_gp B ca sz t 4) = false := bz_f c36
          refine g_k1 (v := 0) (pc' := 44) cd_Te_isGood rfl (by decide) rfl ?_
          exact g_retz cd_Te_isGood rfl (Or.inl rfl) ⟨_, rfl, bz_fin kk (by simp [te_good, bz, show nI 4 = 4 from rfl, c7, c16, c27, c36])⟩
        · have c36 : (te_gp B ca sz t 4) = true := bz_t c36
          refine g_k1 (v := 1) (pc' := 40) cd_Te_isGood rfl (by decide) rfl ?_
          refine g_pure (pc' := 44) (st' := [.int 1]) cd_Te_isGood rfl rfl (fun _ _ => rfl) ?_
          exact g_retz cd_Te_isGood rfl (Or.inr rfl) ⟨_, rfl, bz_fin kk (by simp [te_good, bz, show nI 4 = 4 from rfl, c7, c16, c27, c36])⟩
    · have c16 : ¬ (te_get B ca sz t 1) = 4 := c16
      refine g_k1 (v := 0) (pc' := 20) cd_Te_isGood rfl (by decide) rfl ?_
      exact g_retz cd_Te_isGood rfl (Or.inl rfl) ⟨_, rfl, bz_fin kk (by simp [te_good, bz, show nI 4 = 4 from rfl, c7, c16])⟩
set_option maxRecDepth 100000 in
theorem k_Te_isGood_5 {sc : tm_X} {d : Nat} {B : bm_H} {a ca ba da rm sz dr : Nat} {t : Int32} {Q : Int32 → bm_H → Prop} (hT : te_ok B a ca ba da rm sz dr) (kk : Q (bz (te_good B ca sz t 5)) B) : bm_Gi sc (d + 2) 68 [.ref a, .int t, .int 5] B Q := by
  show bm_G sc (d + 2) 68 0 [(0, .ref a), (1, .int t), (2, .int 5)] [] B _
  generalize elv : ([(0, .ref a), (1, .int t), (2, .int 5)] : tm_L) = lv
  have l0 : lv.lookup 0 = some (.ref a) := by rw [← elv]; rfl
  have l1 : lv.lookup 1 = some (.int t) := by rw [← elv]; rfl
  have l2 : lv.lookup 2 = some (.int 5) := by rw [← elv]; rfl
  clear elv
  refine g_ald (pc' := 1) cd_Te_isGood rfl (Or.inr ⟨_, rfl, rfl, rfl⟩) l0 rfl rfl ?_
  refine g_ild (pc' := 2) cd_Te_isGood rfl (Or.inr ⟨_, rfl, rfl, rfl⟩) l1 rfl ?_
  refine g_calli (pc' := 5) cd_Te_isGood rfl rfl rfl rfl rfl (tm_invV rfl rfl cd_Te_kindOf rfl (Nat.le_of_ble_eq_true rfl) (by decide) hT.1.1 hT.1.2) (k_Te_kindOf hT ?_)
  show bm_G _ _ _ 5 _ [.int (te_get B ca sz t 0)] B _
  refine g_k2 (v := 7) (pc' := 7) cd_Te_isGood rfl (by decide) rfl ?_
  refine g_if2 (t := 19) (pc' := 10) cd_Te_isGood rfl rfl rfl (fun c7 => ?_) (fun c7 => ?_)
  · have c7 : ¬ (te_get B ca sz t 0) = 7 := c7
    refine g_k1 (v := 0) (pc' := 20) cd_Te_isGood rfl (by decide) rfl ?_
    exact g_retz cd_Te_isGood rfl (Or.inl rfl) ⟨_, rfl, bz_fin kk (by simp [te_good, bz, show nI 5 = 5 from rfl, c7])⟩
  · have c7 : ¬ (¬ (te_get B ca sz t 0) = 7) := c7
    refine g_ald (pc' := 11) cd_Te_isGood rfl (Or.inr ⟨_, rfl, rfl, rfl⟩) l0 rfl rfl ?_
    refine g_ild (pc' := 12) cd_Te_isGood rfl (Or.inr ⟨_, rfl, rfl, rfl⟩) l1 rfl ?_
    refine g_calli (pc' := 15) cd_Te_isGood rfl rfl rfl rfl rfl (tm_invV rfl rfl cd_Te_markOf rfl (Nat.le_of_ble_eq_true rfl) (by decide) hT.1.1 hT.1.2) (k_Te_markOf hT ?_)
    show bm_G _ _ _ 15 _ [.int (te_get B ca sz t 1)] B _
    refine g_ild (pc' := 16) cd_Te_isGood rfl (Or.inr ⟨_, rfl, rfl, rfl⟩) l2 rfl ?_
    refine g_if2 (t := 21) (pc' := 19) cd_Te_isGood rfl rfl rfl (fun c16 => ?_) (fun c16 => ?_)
    · have c16 : (te_get B ca sz t 1) = 5 := c16
      refine g_ald (pc' := 22) cd_Te_isGood rfl (Or.inr ⟨_, rfl, rfl, rfl⟩) l0 rfl rfl ?_
      refine g_ild (pc' := 23) cd_Te_isGood rfl (Or.inr ⟨_, rfl, rfl, rfl⟩) l1 rfl ?_
      refine g_ild (pc' := 24) cd_Te_isGood rfl (Or.inr ⟨_, rfl, rfl, rfl⟩) l2 rfl ?_
      refine g_calli (pc' := 27) cd_Te_isGood rfl rfl rfl rfl rfl (tm_invV rfl rfl cd_Te_hasGoodNumbers rfl (Nat.le_of_ble_eq_true rfl) (by decide) hT.1.1 hT.1.2) (k_Te_hasGoodNumbers_5 hT ?_)
      show bm_G _ _ _ 27 _ [.int (bz (te_gn B ca sz t 5))] B _
      refine g_if1 (t := 43) (pc' := 30) cd_Te_isGood rfl rfl rfl (fun c27 => ?_) (fun c27 => ?_)
      · have c27 : (te_gn B ca sz t 5) = false := bz_f c27
        refine g_k1 (v := 0) (pc' := 44) cd_Te_isGood rfl (by decide) rfl ?_
        exact g_retz cd_Te_isGood rfl (Or.inl rfl) ⟨_, rfl, bz_fin kk (by simp [te_good, bz, show nI 5 = 5 from rfl, c7, c16, c27])⟩
      · have c27 : (te_gn B ca sz t 5) = true := bz_t c27
        refine g_ald (pc' := 31) cd_Te_isGood rfl (Or.inr ⟨_, rfl, rfl, rfl⟩) l0 rfl rfl ?_
        refine g_ild (pc' := 32) cd_Te_isGood rfl (Or.inr ⟨_, rfl, rfl, rfl⟩) l1 rfl ?_
        refine g_ild (pc' := 33) cd_Te_isGood rfl (Or.inr ⟨_, rfl, rfl, rfl⟩) l2 rfl ?_
        refine g_calli (pc' := 36) cd_Te_isGood rfl rfl rfl rfl rfl (tm_invV rfl rfl cd_Te_hasGoodParts rfl (Nat.le_of_ble_eq_true rfl) (by decide) hT.1.1 hT.1.2) (k_Te_hasGoodParts_5 hT ?_)
        show bm_G _ _ _ 36 _ [.int (bz (te_gp B ca sz t 5))] B _
        refine g_if1 (t := 43) (pc' := 39) cd_Te_isGood rfl rfl rfl (fun c36 => ?_) (fun c36 => ?_)
        · have c36 : (te_gp B ca sz t 5) = false := bz_f c36
          refine g_k1 (v := 0) (pc' := 44) cd_Te_isGood rfl (by decide) rfl ?_
          exact g_retz cd_Te_isGood rfl (Or.inl rfl) ⟨_, rfl, bz_fin kk (by simp [te_good, bz, show nI 5 = 5 from rfl, c7, c16, c27, c36])⟩
        · have c36 : (te_gp B ca sz t 5) = true := bz_t c36
          refine g_k1 (v := 1) (pc' := 40) cd_Te_isGood rfl (by decide) rfl ?_
          refine g_pure (pc' := 44) (st' := [.int 1]) cd_Te_isGood rfl rfl (fun _ _ => rfl) ?_
          exact g_retz cd_Te_isGood rfl (Or.inr rfl) ⟨_, rfl, bz_fin kk (by simp [te_good, bz, show nI 5 = 5 from rfl, c7, c16, c27, c36])⟩
    · have c16 : ¬ (te_get B ca sz t 1) = 5 := c16
      refine g_k1 (v := 0) (pc' := 20) cd_Te_isGood rfl (by decide) rfl ?_
      exact g_retz cd_Te_isGood rfl (Or.inl rfl) ⟨_, rfl, bz_fin kk (by simp [te_good, bz, show nI 5 = 5 from rfl, c7, c16])⟩
set_option maxRecDepth 100000 in
theorem k_Te_isGood_6 {sc : tm_X} {d : Nat} {B : bm_H} {a ca ba da rm sz dr : Nat} {t : Int32} {Q : Int32 → bm_H → Prop} (hT : te_ok B a ca ba da rm sz dr) (kk : Q (bz (te_good B ca sz t 6)) B) : bm_Gi sc (d + 2) 68 [.ref a, .int t, .int 6] B Q := by
  show bm_G sc (d + 2) 68 0 [(0, .ref a), (1, .int t), (2, .int 6)] [] B _
  generalize elv : ([(0, .ref a), (1, .int t), (2, .int 6)] : tm_L) = lv
  have l0 : lv.lookup 0 = some (.ref a) := by rw [← elv]; rfl
  have l1 : lv.lookup 1 = some (.int t) := by rw [← elv]; rfl
  have l2 : lv.lookup 2 = some (.int 6) := by rw [← elv]; rfl
  clear elv
  refine g_ald (pc' := 1) cd_Te_isGood rfl (Or.inr ⟨_, rfl, rfl, rfl⟩) l0 rfl rfl ?_
  refine g_ild (pc' := 2) cd_Te_isGood rfl (Or.inr ⟨_, rfl, rfl, rfl⟩) l1 rfl ?_
  refine g_calli (pc' := 5) cd_Te_isGood rfl rfl rfl rfl rfl (tm_invV rfl rfl cd_Te_kindOf rfl (Nat.le_of_ble_eq_true rfl) (by decide) hT.1.1 hT.1.2) (k_Te_kindOf hT ?_)
  show bm_G _ _ _ 5 _ [.int (te_get B ca sz t 0)] B _
  refine g_k2 (v := 7) (pc' := 7) cd_Te_isGood rfl (by decide) rfl ?_
  refine g_if2 (t := 19) (pc' := 10) cd_Te_isGood rfl rfl rfl (fun c7 => ?_) (fun c7 => ?_)
  · have c7 : ¬ (te_get B ca sz t 0) = 7 := c7
    refine g_k1 (v := 0) (pc' := 20) cd_Te_isGood rfl (by decide) rfl ?_
    exact g_retz cd_Te_isGood rfl (Or.inl rfl) ⟨_, rfl, bz_fin kk (by simp [te_good, bz, show nI 6 = 6 from rfl, c7])⟩
  · have c7 : ¬ (¬ (te_get B ca sz t 0) = 7) := c7
    refine g_ald (pc' := 11) cd_Te_isGood rfl (Or.inr ⟨_, rfl, rfl, rfl⟩) l0 rfl rfl ?_
    refine g_ild (pc' := 12) cd_Te_isGood rfl (Or.inr ⟨_, rfl, rfl, rfl⟩) l1 rfl ?_
    refine g_calli (pc' := 15) cd_Te_isGood rfl rfl rfl rfl rfl (tm_invV rfl rfl cd_Te_markOf rfl (Nat.le_of_ble_eq_true rfl) (by decide) hT.1.1 hT.1.2) (k_Te_markOf hT ?_)
    show bm_G _ _ _ 15 _ [.int (te_get B ca sz t 1)] B _
    refine g_ild (pc' := 16) cd_Te_isGood rfl (Or.inr ⟨_, rfl, rfl, rfl⟩) l2 rfl ?_
    refine g_if2 (t := 21) (pc' := 19) cd_Te_isGood rfl rfl rfl (fun c16 => ?_) (fun c16 => ?_)
    · have c16 : (te_get B ca sz t 1) = 6 := c16
      refine g_ald (pc' := 22) cd_Te_isGood rfl (Or.inr ⟨_, rfl, rfl, rfl⟩) l0 rfl rfl ?_
      refine g_ild (pc' := 23) cd_Te_isGood rfl (Or.inr ⟨_, rfl, rfl, rfl⟩) l1 rfl ?_
      refine g_ild (pc' := 24) cd_Te_isGood rfl (Or.inr ⟨_, rfl, rfl, rfl⟩) l2 rfl ?_
      refine g_calli (pc' := 27) cd_Te_isGood rfl rfl rfl rfl rfl (tm_invV rfl rfl cd_Te_hasGoodNumbers rfl (Nat.le_of_ble_eq_true rfl) (by decide) hT.1.1 hT.1.2) (k_Te_hasGoodNumbers_6 hT ?_)
      show bm_G _ _ _ 27 _ [.int (bz (te_gn B ca sz t 6))] B _
      refine g_if1 (t := 43) (pc' := 30) cd_Te_isGood rfl rfl rfl (fun c27 => ?_) (fun c27 => ?_)
      · have c27 : (te_gn B ca sz t 6) = false := bz_f c27
        refine g_k1 (v := 0) (pc' := 44) cd_Te_isGood rfl (by decide) rfl ?_
        exact g_retz cd_Te_isGood rfl (Or.inl rfl) ⟨_, rfl, bz_fin kk (by simp [te_good, bz, show nI 6 = 6 from rfl, c7, c16, c27])⟩
      · have c27 : (te_gn B ca sz t 6) = true := bz_t c27
        refine g_ald (pc' := 31) cd_Te_isGood rfl (Or.inr ⟨_, rfl, rfl, rfl⟩) l0 rfl rfl ?_
        refine g_ild (pc' := 32) cd_Te_isGood rfl (Or.inr ⟨_, rfl, rfl, rfl⟩) l1 rfl ?_
        refine g_ild (pc' := 33) cd_Te_isGood rfl (Or.inr ⟨_, rfl, rfl, rfl⟩) l2 rfl ?_
        refine g_calli (pc' := 36) cd_Te_isGood rfl rfl rfl rfl rfl (tm_invV rfl rfl cd_Te_hasGoodParts rfl (Nat.le_of_ble_eq_true rfl) (by decide) hT.1.1 hT.1.2) (k_Te_hasGoodParts_6 hT ?_)
        show bm_G _ _ _ 36 _ [.int (bz (te_gp B ca sz t 6))] B _
        refine g_if1 (t := 43) (pc' := 39) cd_Te_isGood rfl rfl rfl (fun c36 => ?_) (fun c36 => ?_)
        · have c36 : (te_gp B ca sz t 6) = false := bz_f c36
          refine g_k1 (v := 0) (pc' := 44) cd_Te_isGood rfl (by decide) rfl ?_
          exact g_retz cd_Te_isGood rfl (Or.inl rfl) ⟨_, rfl, bz_fin kk (by simp [te_good, bz, show nI 6 = 6 from rfl, c7, c16, c27, c36])⟩
        · have c36 : (te_gp B ca sz t 6) = true := bz_t c36
          refine g_k1 (v := 1) (pc' := 40) cd_Te_isGood rfl (by decide) rfl ?_
          refine g_pure (pc' := 44) (st' := [.int 1]) cd_Te_isGood rfl rfl (fun _ _ => rfl) ?_
          exact g_retz cd_Te_isGood rfl (Or.inr rfl) ⟨_, rfl, bz_fin kk (by simp [te_good, bz, show nI 6 = 6 from rfl, c7, c16, c27, c36])⟩
    · have c16 : ¬ (te_get B ca sz t 1) = 6 := c16
      refine g_k1 (v := 0) (pc' := 20) cd_Te_isGood rfl (by decide) rfl ?_
      exact g_retz cd_Te_isGood rfl (Or.inl rfl) ⟨_, rfl, bz_fin kk (by simp [te_good, bz, show nI 6 = 6 from rfl, c7, c16])⟩
set_option maxRecDepth 100000 in
theorem k_Te_isGood_7 {sc : tm_X} {d : Nat} {B : bm_H} {a ca ba da rm sz dr : Nat} {t : Int32} {Q : Int32 → bm_H → Prop} (hT : te_ok B a ca ba da rm sz dr) (kk : Q (bz (te_good B ca sz t 7)) B) : bm_Gi sc (d + 2) 68 [.ref a, .int t, .int 7] B Q := by
  show bm_G sc (d + 2) 68 0 [(0, .ref a), (1, .int t), (2, .int 7)] [] B _
  generalize elv : ([(0, .ref a), (1, .int t), (2, .int 7)] : tm_L) = lv
  have l0 : lv.lookup 0 = some (.ref a) := by rw [← elv]; rfl
  have l1 : lv.lookup 1 = some (.int t) := by rw [← elv]; rfl
  have l2 : lv.lookup 2 = some (.int 7) := by rw [← elv]; rfl
  clear elv
  refine g_ald (pc' := 1) cd_Te_isGood rfl (Or.inr ⟨_, rfl, rfl, rfl⟩) l0 rfl rfl ?_
  refine g_ild (pc' := 2) cd_Te_isGood rfl (Or.inr ⟨_, rfl, rfl, rfl⟩) l1 rfl ?_
  refine g_calli (pc' := 5) cd_Te_isGood rfl rfl rfl rfl rfl (tm_invV rfl rfl cd_Te_kindOf rfl (Nat.le_of_ble_eq_true rfl) (by decide) hT.1.1 hT.1.2) (k_Te_kindOf hT ?_)
  show bm_G _ _ _ 5 _ [.int (te_get B ca sz t 0)] B _
  refine g_k2 (v := 7) (pc' := 7) cd_Te_isGood rfl (by decide) rfl ?_
  refine g_if2 (t := 19) (pc' := 10) cd_Te_isGood rfl rfl rfl (fun c7 => ?_) (fun c7 => ?_)
  · have c7 : ¬ (te_get B ca sz t 0) = 7 := c7
    refine g_k1 (v := 0) (pc' := 20) cd_Te_isGood rfl (by decide) rfl ?_
    exact g_retz cd_Te_isGood rfl (Or.inl rfl) ⟨_, rfl, bz_fin kk (by simp [te_good, bz, show nI 7 = 7 from rfl, c7])⟩
  · have c7 : ¬ (¬ (te_get B ca sz t 0) = 7) := c7
    refine g_ald (pc' := 11) cd_Te_isGood rfl (Or.inr ⟨_, rfl, rfl, rfl⟩) l0 rfl rfl ?_
    refine g_ild (pc' := 12) cd_Te_isGood rfl (Or.inr ⟨_, rfl, rfl, rfl⟩) l1 rfl ?_
    refine g_calli (pc' := 15) cd_Te_isGood rfl rfl rfl rfl rfl (tm_invV rfl rfl cd_Te_markOf rfl (Nat.le_of_ble_eq_true rfl) (by decide) hT.1.1 hT.1.2) (k_Te_markOf hT ?_)
    show bm_G _ _ _ 15 _ [.int (te_get B ca sz t 1)] B _
    refine g_ild (pc' := 16) cd_Te_isGood rfl (Or.inr ⟨_, rfl, rfl, rfl⟩) l2 rfl ?_
    refine g_if2 (t := 21) (pc' := 19) cd_Te_isGood rfl rfl rfl (fun c16 => ?_) (fun c16 => ?_)
    · have c16 : (te_get B ca sz t 1) = 7 := c16
      refine g_ald (pc' := 22) cd_Te_isGood rfl (Or.inr ⟨_, rfl, rfl, rfl⟩) l0 rfl rfl ?_
      refine g_ild (pc' := 23) cd_Te_isGood rfl (Or.inr ⟨_, rfl, rfl, rfl⟩) l1 rfl ?_
      refine g_ild (pc' := 24) cd_Te_isGood rfl (Or.inr ⟨_, rfl, rfl, rfl⟩) l2 rfl ?_
      refine g_calli (pc' := 27) cd_Te_isGood rfl rfl rfl rfl rfl (tm_invV rfl rfl cd_Te_hasGoodNumbers rfl (Nat.le_of_ble_eq_true rfl) (by decide) hT.1.1 hT.1.2) (k_Te_hasGoodNumbers_7 hT ?_)
      show bm_G _ _ _ 27 _ [.int (bz (te_gn B ca sz t 7))] B _
      refine g_if1 (t := 43) (pc' := 30) cd_Te_isGood rfl rfl rfl (fun c27 => ?_) (fun c27 => ?_)
      · have c27 : (te_gn B ca sz t 7) = false := bz_f c27
        refine g_k1 (v := 0) (pc' := 44) cd_Te_isGood rfl (by decide) rfl ?_
        exact g_retz cd_Te_isGood rfl (Or.inl rfl) ⟨_, rfl, bz_fin kk (by simp [te_good, bz, show nI 7 = 7 from rfl, c7, c16, c27])⟩
      · have c27 : (te_gn B ca sz t 7) = true := bz_t c27
        refine g_ald (pc' := 31) cd_Te_isGood rfl (Or.inr ⟨_, rfl, rfl, rfl⟩) l0 rfl rfl ?_
        refine g_ild (pc' := 32) cd_Te_isGood rfl (Or.inr ⟨_, rfl, rfl, rfl⟩) l1 rfl ?_
        refine g_ild (pc' := 33) cd_Te_isGood rfl (Or.inr ⟨_, rfl, rfl, rfl⟩) l2 rfl ?_
        refine g_calli (pc' := 36) cd_Te_isGood rfl rfl rfl rfl rfl (tm_invV rfl rfl cd_Te_hasGoodParts rfl (Nat.le_of_ble_eq_true rfl) (by decide) hT.1.1 hT.1.2) (k_Te_hasGoodParts_7 hT ?_)
        show bm_G _ _ _ 36 _ [.int (bz (te_gp B ca sz t 7))] B _
        refine g_if1 (t := 43) (pc' := 39) cd_Te_isGood rfl rfl rfl (fun c36 => ?_) (fun c36 => ?_)
        · have c36 : (te_gp B ca sz t 7) = false := bz_f c36
          refine g_k1 (v := 0) (pc' := 44) cd_Te_isGood rfl (by decide) rfl ?_
          exact g_retz cd_Te_isGood rfl (Or.inl rfl) ⟨_, rfl, bz_fin kk (by simp [te_good, bz, show nI 7 = 7 from rfl, c7, c16, c27, c36])⟩
        · have c36 : (te_gp B ca sz t 7) = true := bz_t c36
          refine g_k1 (v := 1) (pc' := 40) cd_Te_isGood rfl (by decide) rfl ?_
          refine g_pure (pc' := 44) (st' := [.int 1]) cd_Te_isGood rfl rfl (fun _ _ => rfl) ?_
          exact g_retz cd_Te_isGood rfl (Or.inr rfl) ⟨_, rfl, bz_fin kk (by simp [te_good, bz, show nI 7 = 7 from rfl, c7, c16, c27, c36])⟩
    · have c16 : ¬ (te_get B ca sz t 1) = 7 := c16
      refine g_k1 (v := 0) (pc' := 20) cd_Te_isGood rfl (by decide) rfl ?_
      exact g_retz cd_Te_isGood rfl (Or.inl rfl) ⟨_, rfl, bz_fin kk (by simp [te_good, bz, show nI 7 = 7 from rfl, c7, c16])⟩
