/-! Small tests -/
def hbit (m i : Int32) : Bool := !decide ((m >>> (i &&& 31)) &&& 1 = 0)
def inR (x n : Int32) : Bool := decide (0 ≤ x) && decide (x < n)
theorem hbit_t {m i : Int32} (h : ¬ (m >>> (i &&& 31)) &&& 1 = 0) : hbit m i = true := by unfold hbit; rw [decide_eq_false h]; rfl
theorem hbit_f {m i : Int32} (h : (m >>> (i &&& 31)) &&& 1 = 0) : hbit m i = false := by unfold hbit; rw [decide_eq_true h]; rfl
theorem inR_lo {x n : Int32} (h : x < 0) : inR x n = false := by unfold inR; rw [decide_eq_false (Int32.not_le.mpr h)]; rfl
theorem inR_hi {x n : Int32} (h : n ≤ x) : inR x n = false := by unfold inR; rw [decide_eq_false (Int32.not_lt.mpr h), Bool.and_false]
theorem inR_t {x n : Int32} (h : ¬ x < 0) (h2 : ¬ n ≤ x) : inR x n = true := by unfold inR; rw [decide_eq_true (Int32.not_lt.mp h), decide_eq_true (Int32.not_le.mp h2)]; rfl
theorem inR_nI {p n : Nat} (h : p < n) (hn : n < 2 ^ 31) : inR (nI p) (nI n) = true := inR_t (nI_pos (by omega)) (nI_ge h hn)
theorem inR_of {x : Int32} {n : Nat} (hn : n < 2 ^ 31) (h : inR x (nI n) = true) : ∃ p, p < n ∧ x = nI p := by
  unfold inR at h
  rw [Bool.and_eq_true, decide_eq_true_eq, decide_eq_true_eq] at h
  obtain ⟨j, hj, rfl⟩ := nI_of (Int32.not_lt.mpr h.1)
  exact ⟨j, (nI_ltI hj hn).mp h.2, rfl⟩
theorem t_hasBit {sc : tm_X} {d : Nat} {B : bm_H} {m i : Int32} {Q : Int32 → bm_H → Prop} (kk : Q (bz (hbit m i)) B) : bm_Gi sc d 95 [.int m, .int i] B Q := by
  show bm_G sc d 95 0 [(0, .int m), (1, .int i)] [] B _
  generalize elv : ([(0, .int m), (1, .int i)] : tm_L) = lv
  have l0 : lv.lookup 0 = some (.int m) := by rw [← elv]; rfl
  have l1 : lv.lookup 1 = some (.int i) := by rw [← elv]; rfl
  clear elv
  refine g_ild (pc' := 1) cd_Ho_hasBit rfl (Or.inr ⟨_, rfl, rfl, rfl⟩) l0 rfl ?_
  refine g_ild (pc' := 2) cd_Ho_hasBit rfl (Or.inr ⟨_, rfl, rfl, rfl⟩) l1 rfl ?_
  refine g_pure (pc' := 3) (st' := [.int (m >>> (i &&& 31))]) cd_Ho_hasBit rfl rfl (fun _ _ => rfl) ?_
  refine g_k1 (v := 1) (pc' := 4) cd_Ho_hasBit rfl (by decide) rfl ?_
  refine g_pure (pc' := 5) (st' := [.int ((m >>> (i &&& 31)) &&& 1)]) cd_Ho_hasBit rfl rfl (fun _ _ => rfl) ?_
  refine g_if1 (t := 12) (pc' := 8) cd_Ho_hasBit rfl rfl rfl (fun c5 => ?_) (fun c5 => ?_)
  · have c5 : ((m >>> (i &&& 31)) &&& 1) = 0 := c5
    refine g_k1 (v := 0) (pc' := 13) cd_Ho_hasBit rfl (by decide) rfl ?_
    exact g_retz cd_Ho_hasBit rfl (Or.inl rfl) ⟨_, rfl, (bm_eq kk (by rw [hbit_f c5]; rfl))⟩
  · have c5 : ¬ ((m >>> (i &&& 31)) &&& 1) = 0 := c5
    refine g_k1 (v := 1) (pc' := 9) cd_Ho_hasBit rfl (by decide) rfl ?_
    refine g_pure (pc' := 13) (st' := [.int 1]) cd_Ho_hasBit rfl rfl (fun _ _ => rfl) ?_
    exact g_retz cd_Ho_hasBit rfl (Or.inr rfl) ⟨_, rfl, (bm_eq kk (by rw [hbit_t c5]; rfl))⟩
theorem t_isDevice {sc : tm_X} {d : Nat} {B : bm_H} {x : Int32} {Q : Int32 → bm_H → Prop} (kk : Q (bz (inR x 6)) B) : bm_Gi sc d 31 [.int x] B Q := by
  show bm_G sc d 31 0 [(0, .int x)] [] B _
  generalize elv : ([(0, .int x)] : tm_L) = lv
  have l0 : lv.lookup 0 = some (.int x) := by rw [← elv]; rfl
  clear elv
  refine g_ild (pc' := 1) cd_Ho_isDevice rfl (Or.inr ⟨_, rfl, rfl, rfl⟩) l0 rfl ?_
  refine g_if1 (t := 14) (pc' := 4) cd_Ho_isDevice rfl rfl rfl (fun c1 => ?_) (fun c1 => ?_)
  · have c1 : x < 0 := c1
    refine g_k1 (v := 0) (pc' := 15) cd_Ho_isDevice rfl (by decide) rfl ?_
    exact g_retz cd_Ho_isDevice rfl (Or.inl rfl) ⟨_, rfl, (bm_eq kk (by rw [inR_lo c1]; rfl))⟩
  · have c1 : ¬ x < 0 := c1
    refine g_ild (pc' := 5) cd_Ho_isDevice rfl (Or.inr ⟨_, rfl, rfl, rfl⟩) l0 rfl ?_
    refine g_k2 (v := 6) (pc' := 7) cd_Ho_isDevice rfl (by decide) rfl ?_
    refine g_if2 (t := 14) (pc' := 10) cd_Ho_isDevice rfl rfl rfl (fun c7 => ?_) (fun c7 => ?_)
    · have c7 : (6 : Int32) ≤ x := c7
      refine g_k1 (v := 0) (pc' := 15) cd_Ho_isDevice rfl (by decide) rfl ?_
      exact g_retz cd_Ho_isDevice rfl (Or.inl rfl) ⟨_, rfl, (bm_eq kk (by rw [inR_hi c7]; rfl))⟩
    · have c7 : ¬ (6 : Int32) ≤ x := c7
      refine g_k1 (v := 1) (pc' := 11) cd_Ho_isDevice rfl (by decide) rfl ?_
      refine g_pure (pc' := 15) (st' := [.int 1]) cd_Ho_isDevice rfl rfl (fun _ _ => rfl) ?_
      exact g_retz cd_Ho_isDevice rfl (Or.inr rfl) ⟨_, rfl, (bm_eq kk (by rw [inR_t c1 c7]; rfl))⟩
theorem t_isGroup {sc : tm_X} {d : Nat} {B : bm_H} {x : Int32} {Q : Int32 → bm_H → Prop} (kk : Q (bz (inR x 4)) B) : bm_Gi sc d 73 [.int x] B Q := by
  show bm_G sc d 73 0 [(0, .int x)] [] B _
  generalize elv : ([(0, .int x)] : tm_L) = lv
  have l0 : lv.lookup 0 = some (.int x) := by rw [← elv]; rfl
  clear elv
  refine g_ild (pc' := 1) cd_Ho_isGroup rfl (Or.inr ⟨_, rfl, rfl, rfl⟩) l0 rfl ?_
  refine g_if1 (t := 13) (pc' := 4) cd_Ho_isGroup rfl rfl rfl (fun c1 => ?_) (fun c1 => ?_)
  · have c1 : x < 0 := c1
    refine g_k1 (v := 0) (pc' := 14) cd_Ho_isGroup rfl (by decide) rfl ?_
    exact g_retz cd_Ho_isGroup rfl (Or.inl rfl) ⟨_, rfl, (bm_eq kk (by rw [inR_lo c1]; rfl))⟩
  · have c1 : ¬ x < 0 := c1
    refine g_ild (pc' := 5) cd_Ho_isGroup rfl (Or.inr ⟨_, rfl, rfl, rfl⟩) l0 rfl ?_
    refine g_k1 (v := 4) (pc' := 6) cd_Ho_isGroup rfl (by decide) rfl ?_
    refine g_if2 (t := 13) (pc' := 9) cd_Ho_isGroup rfl rfl rfl (fun c6 => ?_) (fun c6 => ?_)
    · have c6 : (4 : Int32) ≤ x := c6
      refine g_k1 (v := 0) (pc' := 14) cd_Ho_isGroup rfl (by decide) rfl ?_
      exact g_retz cd_Ho_isGroup rfl (Or.inl rfl) ⟨_, rfl, (bm_eq kk (by rw [inR_hi c6]; rfl))⟩
    · have c6 : ¬ (4 : Int32) ≤ x := c6
      refine g_k1 (v := 1) (pc' := 10) cd_Ho_isGroup rfl (by decide) rfl ?_
      refine g_pure (pc' := 14) (st' := [.int 1]) cd_Ho_isGroup rfl rfl (fun _ _ => rfl) ?_
      exact g_retz cd_Ho_isGroup rfl (Or.inr rfl) ⟨_, rfl, (bm_eq kk (by rw [inR_t c1 c6]; rfl))⟩
theorem t_isRegister {sc : tm_X} {d : Nat} {B : bm_H} {x : Int32} {Q : Int32 → bm_H → Prop} (kk : Q (bz (inR x 32)) B) : bm_Gi sc d 132 [.int x] B Q := by
  show bm_G sc d 132 0 [(0, .int x)] [] B _
  generalize elv : ([(0, .int x)] : tm_L) = lv
  have l0 : lv.lookup 0 = some (.int x) := by rw [← elv]; rfl
  clear elv
  refine g_ild (pc' := 1) cd_Ho_isRegister rfl (Or.inr ⟨_, rfl, rfl, rfl⟩) l0 rfl ?_
  refine g_if1 (t := 14) (pc' := 4) cd_Ho_isRegister rfl rfl rfl (fun c1 => ?_) (fun c1 => ?_)
  · have c1 : x < 0 := c1
    refine g_k1 (v := 0) (pc' := 15) cd_Ho_isRegister rfl (by decide) rfl ?_
    exact g_retz cd_Ho_isRegister rfl (Or.inl rfl) ⟨_, rfl, (bm_eq kk (by rw [inR_lo c1]; rfl))⟩
  · have c1 : ¬ x < 0 := c1
    refine g_ild (pc' := 5) cd_Ho_isRegister rfl (Or.inr ⟨_, rfl, rfl, rfl⟩) l0 rfl ?_
    refine g_k2 (v := 32) (pc' := 7) cd_Ho_isRegister rfl (by decide) rfl ?_
    refine g_if2 (t := 14) (pc' := 10) cd_Ho_isRegister rfl rfl rfl (fun c7 => ?_) (fun c7 => ?_)
    · have c7 : (32 : Int32) ≤ x := c7
      refine g_k1 (v := 0) (pc' := 15) cd_Ho_isRegister rfl (by decide) rfl ?_
      exact g_retz cd_Ho_isRegister rfl (Or.inl rfl) ⟨_, rfl, (bm_eq kk (by rw [inR_hi c7]; rfl))⟩
    · have c7 : ¬ (32 : Int32) ≤ x := c7
      refine g_k1 (v := 1) (pc' := 11) cd_Ho_isRegister rfl (by decide) rfl ?_
      refine g_pure (pc' := 15) (st' := [.int 1]) cd_Ho_isRegister rfl rfl (fun _ _ => rfl) ?_
      exact g_retz cd_Ho_isRegister rfl (Or.inr rfl) ⟨_, rfl, (bm_eq kk (by rw [inR_t c1 c7]; rfl))⟩
theorem t_areTwo {sc : tm_X} {d : Nat} {B : bm_H} {x y : Int32} {Q : Int32 → bm_H → Prop} (kk : Q (bz (inR x 6 && inR y 6 && !decide (x = y))) B) : bm_Gi sc (d + 1) 65 [.int x, .int y] B Q := by
  show bm_G sc (d + 1) 65 0 [(0, .int x), (1, .int y)] [] B _
  generalize elv : ([(0, .int x), (1, .int y)] : tm_L) = lv
  have l0 : lv.lookup 0 = some (.int x) := by rw [← elv]; rfl
  have l1 : lv.lookup 1 = some (.int y) := by rw [← elv]; rfl
  clear elv
  refine g_ild (pc' := 1) cd_Ho_areTwo rfl (Or.inr ⟨_, rfl, rfl, rfl⟩) l0 rfl ?_
  refine g_calli (pc' := 4) cd_Ho_areTwo rfl rfl rfl rfl rfl (tm_invS rfl rfl cd_Ho_isDevice rfl (Nat.le_of_ble_eq_true rfl)) (t_isDevice ?_)
  show bm_G _ _ _ 4 _ [.int (bz (inR x 6))] B _
  refine g_if1 (t := 23) (pc' := 7) cd_Ho_areTwo rfl rfl rfl (fun c4 => ?_) (fun c4 => ?_)
  · have c4 : (inR x 6) = false := bz_f c4
    refine g_k1 (v := 0) (pc' := 24) cd_Ho_areTwo rfl (by decide) rfl ?_
    exact g_retz cd_Ho_areTwo rfl (Or.inl rfl) ⟨_, rfl, (bm_eq kk (by rw [c4]; rfl))⟩
  · have c4 : (inR x 6) = true := bz_t c4
    refine g_ild (pc' := 8) cd_Ho_areTwo rfl (Or.inr ⟨_, rfl, rfl, rfl⟩) l1 rfl ?_
    refine g_calli (pc' := 11) cd_Ho_areTwo rfl rfl rfl rfl rfl (tm_invS rfl rfl cd_Ho_isDevice rfl (Nat.le_of_ble_eq_true rfl)) (t_isDevice ?_)
    show bm_G _ _ _ 11 _ [.int (bz (inR y 6))] B _
    refine g_if1 (t := 23) (pc' := 14) cd_Ho_areTwo rfl rfl rfl (fun c11 => ?_) (fun c11 => ?_)
    · have c11 : (inR y 6) = false := bz_f c11
      refine g_k1 (v := 0) (pc' := 24) cd_Ho_areTwo rfl (by decide) rfl ?_
      exact g_retz cd_Ho_areTwo rfl (Or.inl rfl) ⟨_, rfl, (bm_eq kk (by rw [c4, c11]; rfl))⟩
    · have c11 : (inR y 6) = true := bz_t c11
      refine g_ild (pc' := 15) cd_Ho_areTwo rfl (Or.inr ⟨_, rfl, rfl, rfl⟩) l0 rfl ?_
      refine g_ild (pc' := 16) cd_Ho_areTwo rfl (Or.inr ⟨_, rfl, rfl, rfl⟩) l1 rfl ?_
      refine g_if2 (t := 23) (pc' := 19) cd_Ho_areTwo rfl rfl rfl (fun c16 => ?_) (fun c16 => ?_)
      · have c16 : x = y := c16
        refine g_k1 (v := 0) (pc' := 24) cd_Ho_areTwo rfl (by decide) rfl ?_
        exact g_retz cd_Ho_areTwo rfl (Or.inl rfl) ⟨_, rfl, (bm_eq kk (by rw [c4, c11, decide_eq_true c16]; rfl))⟩
      · have c16 : ¬ x = y := c16
        refine g_k1 (v := 1) (pc' := 20) cd_Ho_areTwo rfl (by decide) rfl ?_
        refine g_pure (pc' := 24) (st' := [.int 1]) cd_Ho_areTwo rfl rfl (fun _ _ => rfl) ?_
        exact g_retz cd_Ho_areTwo rfl (Or.inr rfl) ⟨_, rfl, (bm_eq kk (by rw [c4, c11, decide_eq_false c16]; rfl))⟩
/-! Membership -/
def mm_adopt (M : MM) (v k : Int32) : MM := match M with
  | (_, ma, go, ge, ch, si, ix, ga, sl, gv) => (v, k, go ||| (ma &&& (k ^^^ (-1))), ge, ch, si, ix, ga, (if ma &&& (k ^^^ (-1)) = 0 then sl else true), fun p => if hbit (ma &&& (k ^^^ (-1))) (nI p) = true then [] else gv p)
def gclr (L : Int32) (p : Nat) (f : Nat → List GV) : Nat → List GV := fun q => if p ≤ q ∧ hbit L (nI q) = true then [] else f q
theorem gclr_t {L : Int32} {p : Nat} {f : Nat → List GV} (h : hbit L (nI p) = true) : gclr L (p + 1) (fset f p []) = gclr L p f := by
  funext q
  unfold gclr
  by_cases c : q = p
  · subst c
    rw [fset_same, if_neg (by omega), if_pos ⟨Nat.le_refl _, h⟩]
  · rw [fset_ne c]
    by_cases c2 : p ≤ q ∧ hbit L (nI q) = true
    · rw [if_pos c2, if_pos ⟨by omega, c2.2⟩]
    · rw [if_neg c2, if_neg (fun q => c2 ⟨by omega, q.2⟩)]
theorem gclr_f {L : Int32} {p : Nat} {f : Nat → List GV} (h : hbit L (nI p) = false) : gclr L (p + 1) f = gclr L p f := by
  funext q
  unfold gclr
  by_cases c : q = p
  · subst c
    rw [if_neg (by omega), if_neg (fun q => by rw [h] at q; exact absurd q.2 (by decide))]
  · by_cases c2 : p ≤ q ∧ hbit L (nI q) = true
    · rw [if_pos c2, if_pos ⟨by omega, c2.2⟩]
    · rw [if_neg c2, if_neg (fun q => c2 ⟨by omega, q.2⟩)]
theorem RGs_clr {B : bm_H} {T : List Tm} {m p : Nat} {w : Nat → Bool} {f : Nat → List GV} (hS : MeS B m) (hf : ∀ q, q < 6 → RGs B T m w q (f q)) : ∀ q, q < 6 → RGs (bm_setI B (m + 1) p 0) T m w q (fset f p [] q) := by
  intro q hq
  have i0 := gA_in m w hq (k := 0) (by decide)
  have i1 := gA_in m w hq (k := 1) (by decide)
  obtain ⟨⟨a1, a2⟩, ⟨a3, a4⟩, X0, X1, b0, b1, b2⟩ := hf q hq
  have hf := fr_setI B (m + 1) p 0
  by_cases c : q = p
  · subst c
    rw [fset_same]
    exact ⟨⟨by rw [AI_set]; exact if_pos rfl, by simp⟩, ⟨a3, a4⟩, X0, X1, RGv_fr b0 hf (by omega) (by omega) (by omega) (List.prefix_refl T), RGv_fr b1 hf (by omega) (by omega) (by omega) (List.prefix_refl T), rfl⟩
  · rw [fset_ne c]
    exact ⟨⟨by rw [AI_set, pk_un c]; exact a1, a2⟩, ⟨a3, a4⟩, X0, X1, RGv_fr b0 hf (by omega) (by omega) (by omega) (List.prefix_refl T), RGv_fr b1 hf (by omega) (by omega) (by omega) (List.prefix_refl T), b2⟩
theorem l_adopt {sc : tm_X} {d m : Nat} {T : List Tm} {w : Nat → Bool} {v k L : Int32} {Q : Option Value → bm_H → Prop} {B0 : bm_H} {g : Nat → List GV} (hS0 : MeS B0 m) (kk : ∀ B' (lv2 : tm_L), (∀ q, q < 6 → RGs B' T m w q (g q)) → fz (fun y => y = m + 1) B0 B' → lv2.lookup 0 = some (.ref m) → lv2.lookup 1 = some (.int v) → lv2.lookup 2 = some (.int k) → lv2.lookup 3 = some (.int L) → bm_G sc (d + 1) 96 42 lv2 [] B' Q) : ∀ (n p : Nat) (B : bm_H) (f : Nat → List GV), p + n = 6 → (∀ q, q < 6 → RGs B T m w q (f q)) → fz (fun y => y = m + 1) B0 B → gclr L p f = g → ∀ lv : tm_L, lv.lookup 0 = some (.ref m) → lv.lookup 1 = some (.int v) → lv.lookup 2 = some (.int k) → lv.lookup 3 = some (.int L) → lv.lookup 4 = some (.int (nI p)) → bm_G sc (d + 1) 96 12 lv [] B Q := by
  intro n
  induction n with
  | zero =>
    intro p B f hm hf hz hg lv l0 l1 l2 l3 l4
    have hS := MeS_fr hS0 hz.1
    refine g_ild (pc' := 14) cd_Me_adopt rfl (Or.inl ⟨rfl, rfl⟩) l4 rfl ?_
    refine g_k2 (v := 6) (pc' := 16) cd_Me_adopt rfl (by decide) rfl ?_
    refine g_if2 (t := 42) (pc' := 19) cd_Me_adopt rfl rfl rfl (fun c16 => ?_) (fun c16 => ?_)
    · have c16 : (6 : Int32) ≤ (nI p) := c16
      exact kk B lv (fun q hq => by have := hf q hq; rw [← hg]; unfold gclr; rw [if_neg (by omega)]; exact this) hz l0 l1 l2 l3
    · have c16 : ¬ (6 : Int32) ≤ (nI p) := c16
      exact absurd (nI_le (a := 6) (b := p) (by omega) (by omega)) c16
  | succ n ih =>
    intro p B f hm hf hz hg lv l0 l1 l2 l3 l4
    have hS := MeS_fr hS0 hz.1
    refine g_ild (pc' := 14) cd_Me_adopt rfl (Or.inl ⟨rfl, rfl⟩) l4 rfl ?_
    refine g_k2 (v := 6) (pc' := 16) cd_Me_adopt rfl (by decide) rfl ?_
    refine g_if2 (t := 42) (pc' := 19) cd_Me_adopt rfl rfl rfl (fun c16 => ?_) (fun c16 => ?_)
    · have c16 : (6 : Int32) ≤ (nI p) := c16
      exact absurd c16 (nI_ge (b := 6) (by omega) (by decide))
    · have c16 : ¬ (6 : Int32) ≤ (nI p) := c16
      refine g_ild (pc' := 20) cd_Me_adopt rfl (Or.inr ⟨_, rfl, rfl, rfl⟩) l3 rfl ?_
      refine g_ild (pc' := 22) cd_Me_adopt rfl (Or.inl ⟨rfl, rfl⟩) l4 rfl ?_
      refine g_calli (pc' := 25) cd_Me_adopt rfl rfl rfl rfl rfl (tm_invS rfl rfl cd_Ho_hasBit rfl (Nat.le_of_ble_eq_true rfl)) (t_hasBit ?_)
      show bm_G _ _ _ 25 _ [.int (bz (hbit L (nI p)))] B _
      refine g_if1 (t := 36) (pc' := 28) cd_Me_adopt rfl rfl rfl (fun c25 => ?_) (fun c25 => ?_)
      · have c25 : (hbit L (nI p)) = false := bz_f c25
        refine g_inc (y := nI (p + 1)) (pc' := 39) cd_Me_adopt rfl l4 (by decide) (nI_add p 1) rfl (fun lv el => ?_)
        have l0 := tm_lk el l0 rfl (by decide)
        have l1 := tm_lk el l1 rfl (by decide)
        have l2 := tm_lk el l2 rfl (by decide)
        have l3 := tm_lk el l3 rfl (by decide)
        have l4 : lv.lookup 4 = some (.int (nI (p + 1))) := tm_lks el
        clear el
        refine g_pure (pc' := 12) (st' := []) cd_Me_adopt rfl rfl (fun _ _ => rfl) ?_
        exact ih (p + 1) B f (by omega) hf hz (by rw [gclr_f c25]; exact hg) lv l0 l1 l2 l3 l4
      · have c25 : (hbit L (nI p)) = true := bz_t c25
        refine g_ald (pc' := 29) cd_Me_adopt rfl (Or.inr ⟨_, rfl, rfl, rfl⟩) l0 rfl rfl ?_
        refine g_fR (c := 5) (k := 0) (x := (m + 1)) (pc' := 32) cd_Me_adopt rfl rfl rfl rfl rfl (by decide) hS.1.1 hS.1.2 hS.2.1.1 ?_
        refine g_ild (pc' := 34) cd_Me_adopt rfl (Or.inl ⟨rfl, rfl⟩) l4 rfl ?_
        refine g_k1 (v := 0) (pc' := 35) cd_Me_adopt rfl (by decide) rfl ?_
        refine g_iast (pc' := 36) cd_Me_adopt rfl rfl hS.2.2.1.1 hS.2.2.1.2.1 (by rw [show bm_AL B (m + 1) = 6 from hS.2.2.1.2.2]; exact vp_in_nI (by omega) (by decide)) ?_
        rw [show (nI p : Int32).toNatClampNeg = p from nI_clamp (by omega)]
        refine g_inc (y := nI (p + 1)) (pc' := 39) cd_Me_adopt rfl l4 (by decide) (nI_add p 1) rfl (fun lv el => ?_)
        have l0 := tm_lk el l0 rfl (by decide)
        have l1 := tm_lk el l1 rfl (by decide)
        have l2 := tm_lk el l2 rfl (by decide)
        have l3 := tm_lk el l3 rfl (by decide)
        have l4 : lv.lookup 4 = some (.int (nI (p + 1))) := tm_lks el
        clear el
        refine g_pure (pc' := 12) (st' := []) cd_Me_adopt rfl rfl (fun _ _ => rfl) ?_
        exact ih (p + 1) _ (fset f p []) (by omega) (RGs_clr hS hf) (fz_trans hz ⟨fr_setI B (m + 1) p 0, rfl, rfl⟩) (by rw [gclr_t c25]; exact hg) lv l0 l1 l2 l3 l4
theorem t_adopt {sc : tm_X} {d m : Nat} {B : bm_H} {T : List Tm} {w : Nat → Bool} {ve ma go ge : Int32} {ch si : Tm} {ix ga : Int32} {sl : Bool} {gv : Nat → List GV} {v k : Int32} {Q : bm_H → Prop} (hR : RMe B T m w (ve, ma, go, ge, ch, si, ix, ga, sl, gv)) (kk : ∀ B', RMe B' T m w (mm_adopt (ve, ma, go, ge, ch, si, ix, ga, sl, gv) v k) → fz (fun y => y = m ∨ y = m + 1) B B' → Q B') : bm_Gv sc (d + 1) 96 [.ref m, .int v, .int k] B Q := by
  show bm_G sc (d + 1) 96 0 [(0, .ref m), (1, .int v), (2, .int k)] [] B _
  generalize elv : ([(0, .ref m), (1, .int v), (2, .int k)] : tm_L) = lv
  have l0 : lv.lookup 0 = some (.ref m) := by rw [← elv]; rfl
  have l1 : lv.lookup 1 = some (.int v) := by rw [← elv]; rfl
  have l2 : lv.lookup 2 = some (.int k) := by rw [← elv]; rfl
  clear elv
  refine g_ald (pc' := 1) cd_Me_adopt rfl (Or.inr ⟨_, rfl, rfl, rfl⟩) l0 rfl rfl ?_
  refine g_fI (c := 5) (k := 3) (x := ma) (pc' := 4) cd_Me_adopt rfl rfl rfl rfl rfl (by decide) hR.1.1.1 hR.1.1.2 hR.2.1.1.2.1 ?_
  refine g_ild (pc' := 5) cd_Me_adopt rfl (Or.inr ⟨_, rfl, rfl, rfl⟩) l2 rfl ?_
  refine g_k1 (v := (-1)) (pc' := 6) cd_Me_adopt rfl (by decide) rfl ?_
  refine g_pure (pc' := 7) (st' := [.int (k ^^^ (-1)), .int ma]) cd_Me_adopt rfl rfl (fun _ _ => rfl) ?_
  refine g_pure (pc' := 8) (st' := [.int (ma &&& (k ^^^ (-1)))]) cd_Me_adopt rfl rfl (fun _ _ => rfl) ?_
  refine g_top fun L e_L => ?_
  refine g_ist (pc' := 9) cd_Me_adopt rfl (Or.inr ⟨_, rfl, rfl, rfl⟩) (by decide) rfl (fun lv el => ?_)
  have l0 := tm_lk el l0 rfl (by decide)
  have l1 := tm_lk el l1 rfl (by decide)
  have l2 := tm_lk el l2 rfl (by decide)
  have l3 : lv.lookup 3 = some (.int L) := tm_lks el
  clear el
  refine g_k1 (v := 0) (pc' := 10) cd_Me_adopt rfl (by decide) rfl ?_
  refine g_ist (pc' := 12) cd_Me_adopt rfl (Or.inl ⟨rfl, rfl⟩) (by decide) rfl (fun lv el => ?_)
  have l0 := tm_lk el l0 rfl (by decide)
  have l1 := tm_lk el l1 rfl (by decide)
  have l2 := tm_lk el l2 rfl (by decide)
  have l3 := tm_lk el l3 rfl (by decide)
  have l4 : lv.lookup 4 = some (.int 0) := tm_lks el
  clear el
  refine l_adopt (g := gclr L 0 gv) hR.1 (fun B1 lv hg1 hz1 l0 l1 l2 l3 => ?_) 6 0 B gv rfl hR.2.2 (fz_rfl _ B) rfl lv l0 l1 l2 l3 l4
  have hS1 := MeS_fr hR.1 hz1.1
  have f1_0 := fr_lt hz1.1 hR.1.1.1
  have g1_0 := (fr_K hz1.1 hR.1.1.1).trans hR.1.1.2
  have f1_1 := fr_lt hz1.1 hR.1.2.2.1.1
  have g1_1 := (fr_K hz1.1 hR.1.2.2.1.1).trans hR.1.2.2.1.2.1
  have f1_2 := fr_lt hz1.1 hR.1.2.2.2.1
  have g1_2 := (fr_K hz1.1 hR.1.2.2.2.1).trans hR.1.2.2.2.2.1
  have q1_0 : bm_FI B1 5 2 m = ve := (fr_FI hz1.1 hR.1.1.1 (by omega) 5 2).trans hR.2.1.1.1
  have q1_1 : bm_FI B1 5 3 m = ma := (fr_FI hz1.1 hR.1.1.1 (by omega) 5 3).trans hR.2.1.1.2.1
  have q1_2 : bm_FI B1 5 4 m = go := (fr_FI hz1.1 hR.1.1.1 (by omega) 5 4).trans hR.2.1.1.2.2.1
  have q1_3 : bm_FI B1 5 5 m = ge := (fr_FI hz1.1 hR.1.1.1 (by omega) 5 5).trans hR.2.1.1.2.2.2
  have q1_4 : bm_FI B1 5 6 m = (bm_FI B 5 6 m) := (fr_FI hz1.1 hR.1.1.1 (by omega) 5 6).trans rfl
  have q1_5 : bm_FI B1 5 7 m = (bm_FI B 5 7 m) := (fr_FI hz1.1 hR.1.1.1 (by omega) 5 7).trans rfl
  have q1_6 : bm_FI B1 5 8 m = ix := (fr_FI hz1.1 hR.1.1.1 (by omega) 5 8).trans hR.2.1.2.2.1
  have q1_7 : bm_FI B1 5 9 m = ga := (fr_FI hz1.1 hR.1.1.1 (by omega) 5 9).trans hR.2.1.2.2.2.1
  have q1_8 : bm_FI B1 5 10 m = bz sl := (fr_FI hz1.1 hR.1.1.1 (by omega) 5 10).trans hR.2.1.2.2.2.2
  have r1_0 : bm_FR B1 5 0 m = some (m + 1) := (fr_FR hz1.1 hR.1.1.1 (by omega) 5 0).trans hR.1.2.1.1
  have r1_1 : bm_FR B1 5 1 m = some (m + 2) := (fr_FR hz1.1 hR.1.1.1 (by omega) 5 1).trans hR.1.2.1.2
  have w1_0 : bm_AL B1 (m + 1) = 6 := (fr_AL hz1.1 hR.1.2.2.1.1).trans hR.1.2.2.1.2.2
  have w1_1 : bm_AL B1 (m + 2) = 12 := (fr_AL hz1.1 hR.1.2.2.2.1).trans hR.1.2.2.2.2.2
  have hM1 : RMs B1 T m (ve, ma, go, ge, ch, si, ix, ga, sl, gv) := RMs_fr hR.1 hR.2.1 hz1.1 (by omega) (List.prefix_refl T)
  refine g_ild (pc' := 43) cd_Me_adopt rfl (Or.inr ⟨_, rfl, rfl, rfl⟩) l3 rfl ?_
  refine g_if1 (t := 51) (pc' := 46) cd_Me_adopt rfl rfl rfl (fun c43 => ?_) (fun c43 => ?_)
  · have c43 : L = 0 := c43
    refine g_ald (pc' := 52) cd_Me_adopt rfl (Or.inr ⟨_, rfl, rfl, rfl⟩) l0 rfl rfl ?_
    refine g_pure (pc' := 53) (st' := [.ref m, .ref m]) cd_Me_adopt rfl rfl (fun _ _ => rfl) ?_
    refine g_fI (c := 5) (k := 4) (x := go) (pc' := 56) cd_Me_adopt rfl rfl rfl rfl rfl (by decide) f1_0 g1_0 q1_2 ?_
    refine g_ild (pc' := 57) cd_Me_adopt rfl (Or.inr ⟨_, rfl, rfl, rfl⟩) l3 rfl ?_
    refine g_pure (pc' := 58) (st' := [.int (go ||| L), .ref m]) cd_Me_adopt rfl rfl (fun _ _ => rfl) ?_
    refine g_putI (c := 5) (k := 4) (pc' := 61) cd_Me_adopt rfl rfl rfl rfl (by simp [tm_okV, narrow, fits]) (Or.inl rfl) rfl (by decide) f1_0 g1_0 ?_
    have P2 : bm_FI (bm_putI B1 5 4 m (go ||| L)) 5 4 m = go ||| L := if_pos ⟨rfl, rfl, rfl⟩
    have Z3 : fz (fun y => y = m) B1 (bm_putI B1 5 4 m (go ||| L)) := fz_trans (fz_rfl _ B1) ⟨fr_mono (fun _ q => q) (fr_putI _ 5 4 m _), rfl, rfl⟩
    refine g_ald (pc' := 62) cd_Me_adopt rfl (Or.inr ⟨_, rfl, rfl, rfl⟩) l0 rfl rfl ?_
    refine g_ild (pc' := 63) cd_Me_adopt rfl (Or.inr ⟨_, rfl, rfl, rfl⟩) l1 rfl ?_
    refine g_putI (c := 5) (k := 2) (pc' := 66) cd_Me_adopt rfl rfl rfl rfl (by simp [tm_okV, narrow, fits]) (Or.inl rfl) rfl (by decide) f1_0 g1_0 ?_
    have P4 : bm_FI (bm_putI (bm_putI B1 5 4 m (go ||| L)) 5 2 m v) 5 2 m = v := if_pos ⟨rfl, rfl, rfl⟩
    have Z5 : fz (fun y => y = m) B1 (bm_putI (bm_putI B1 5 4 m (go ||| L)) 5 2 m v) := fz_trans Z3 ⟨fr_mono (fun _ q => q) (fr_putI _ 5 2 m _), rfl, rfl⟩
    refine g_ald (pc' := 67) cd_Me_adopt rfl (Or.inr ⟨_, rfl, rfl, rfl⟩) l0 rfl rfl ?_
    refine g_ild (pc' := 68) cd_Me_adopt rfl (Or.inr ⟨_, rfl, rfl, rfl⟩) l2 rfl ?_
    refine g_putI (c := 5) (k := 3) (pc' := 71) cd_Me_adopt rfl rfl rfl rfl (by simp [tm_okV, narrow, fits]) (Or.inl rfl) rfl (by decide) f1_0 g1_0 ?_
    have P6 : bm_FI (bm_putI (bm_putI (bm_putI B1 5 4 m (go ||| L)) 5 2 m v) 5 3 m k) 5 3 m = k := if_pos ⟨rfl, rfl, rfl⟩
    have Z7 : fz (fun y => y = m) B1 (bm_putI (bm_putI (bm_putI B1 5 4 m (go ||| L)) 5 2 m v) 5 3 m k) := fz_trans Z5 ⟨fr_mono (fun _ q => q) (fr_putI _ 5 3 m _), rfl, rfl⟩
    have hE : mm_adopt (ve, ma, go, ge, ch, si, ix, ga, sl, gv) v k = (v, k, go ||| L, ge, ch, si, ix, ga, sl, gclr L 0 gv) := by
      unfold mm_adopt; dsimp only; rw [← e_L, if_pos c43]; unfold gclr; simp only [Nat.zero_le, true_and]
    rw [hE] at kk
    exact g_retv cd_Me_adopt rfl ⟨rfl, (kk _ ⟨MeS_fr hS1 Z7.1, ⟨⟨P4, P6, P2, q1_3⟩, ⟨tvq q1_4 hR.2.1.2.1.1, tvq q1_5 hR.2.1.2.1.2⟩, q1_6, q1_7, q1_8⟩, fun q hq => RGs_fr hS1 hq (hg1 q hq) Z7.1 (by omega) (by omega) (fun k y hk a b => by have := gA_in m w hq hk; omega) (List.prefix_refl T)⟩ (fz_trans (fz_mono (fun _ q => Or.inr q) hz1) (fz_mono (fun _ q => Or.inl q) Z7)))⟩
  · have c43 : ¬ L = 0 := c43
    refine g_ald (pc' := 47) cd_Me_adopt rfl (Or.inr ⟨_, rfl, rfl, rfl⟩) l0 rfl rfl ?_
    refine g_k1 (v := 1) (pc' := 48) cd_Me_adopt rfl (by decide) rfl ?_
    refine g_putI (c := 5) (k := 10) (pc' := 51) cd_Me_adopt rfl rfl rfl rfl (by decide) (Or.inl rfl) rfl (by decide) f1_0 g1_0 ?_
    have P8 : bm_FI (bm_putI B1 5 10 m 1) 5 10 m = 1 := if_pos ⟨rfl, rfl, rfl⟩
    have Z9 : fz (fun y => y = m) B1 (bm_putI B1 5 10 m 1) := fz_trans (fz_rfl _ B1) ⟨fr_mono (fun _ q => q) (fr_putI _ 5 10 m _), rfl, rfl⟩
    refine g_ald (pc' := 52) cd_Me_adopt rfl (Or.inr ⟨_, rfl, rfl, rfl⟩) l0 rfl rfl ?_
    refine g_pure (pc' := 53) (st' := [.ref m, .ref m]) cd_Me_adopt rfl rfl (fun _ _ => rfl) ?_
    refine g_fI (c := 5) (k := 4) (x := go) (pc' := 56) cd_Me_adopt rfl rfl rfl rfl rfl (by decide) f1_0 g1_0 q1_2 ?_
    refine g_ild (pc' := 57) cd_Me_adopt rfl (Or.inr ⟨_, rfl, rfl, rfl⟩) l3 rfl ?_
    refine g_pure (pc' := 58) (st' := [.int (go ||| L), .ref m]) cd_Me_adopt rfl rfl (fun _ _ => rfl) ?_
    refine g_putI (c := 5) (k := 4) (pc' := 61) cd_Me_adopt rfl rfl rfl rfl (by simp [tm_okV, narrow, fits]) (Or.inl rfl) rfl (by decide) f1_0 g1_0 ?_
    have P10 : bm_FI (bm_putI (bm_putI B1 5 10 m 1) 5 4 m (go ||| L)) 5 4 m = go ||| L := if_pos ⟨rfl, rfl, rfl⟩
    have Z11 : fz (fun y => y = m) B1 (bm_putI (bm_putI B1 5 10 m 1) 5 4 m (go ||| L)) := fz_trans Z9 ⟨fr_mono (fun _ q => q) (fr_putI _ 5 4 m _), rfl, rfl⟩
    refine g_ald (pc' := 62) cd_Me_adopt rfl (Or.inr ⟨_, rfl, rfl, rfl⟩) l0 rfl rfl ?_
    refine g_ild (pc' := 63) cd_Me_adopt rfl (Or.inr ⟨_, rfl, rfl, rfl⟩) l1 rfl ?_
    refine g_putI (c := 5) (k := 2) (pc' := 66) cd_Me_adopt rfl rfl rfl rfl (by simp [tm_okV, narrow, fits]) (Or.inl rfl) rfl (by decide) f1_0 g1_0 ?_
    have P12 : bm_FI (bm_putI (bm_putI (bm_putI B1 5 10 m 1) 5 4 m (go ||| L)) 5 2 m v) 5 2 m = v := if_pos ⟨rfl, rfl, rfl⟩
    have Z13 : fz (fun y => y = m) B1 (bm_putI (bm_putI (bm_putI B1 5 10 m 1) 5 4 m (go ||| L)) 5 2 m v) := fz_trans Z11 ⟨fr_mono (fun _ q => q) (fr_putI _ 5 2 m _), rfl, rfl⟩
    refine g_ald (pc' := 67) cd_Me_adopt rfl (Or.inr ⟨_, rfl, rfl, rfl⟩) l0 rfl rfl ?_
    refine g_ild (pc' := 68) cd_Me_adopt rfl (Or.inr ⟨_, rfl, rfl, rfl⟩) l2 rfl ?_
    refine g_putI (c := 5) (k := 3) (pc' := 71) cd_Me_adopt rfl rfl rfl rfl (by simp [tm_okV, narrow, fits]) (Or.inl rfl) rfl (by decide) f1_0 g1_0 ?_
    have P14 : bm_FI (bm_putI (bm_putI (bm_putI (bm_putI B1 5 10 m 1) 5 4 m (go ||| L)) 5 2 m v) 5 3 m k) 5 3 m = k := if_pos ⟨rfl, rfl, rfl⟩
    have Z15 : fz (fun y => y = m) B1 (bm_putI (bm_putI (bm_putI (bm_putI B1 5 10 m 1) 5 4 m (go ||| L)) 5 2 m v) 5 3 m k) := fz_trans Z13 ⟨fr_mono (fun _ q => q) (fr_putI _ 5 3 m _), rfl, rfl⟩
    have hE : mm_adopt (ve, ma, go, ge, ch, si, ix, ga, sl, gv) v k = (v, k, go ||| L, ge, ch, si, ix, ga, true, gclr L 0 gv) := by
      unfold mm_adopt; dsimp only; rw [← e_L, if_neg c43]; unfold gclr; simp only [Nat.zero_le, true_and]
    rw [hE] at kk
    exact g_retv cd_Me_adopt rfl ⟨rfl, (kk _ ⟨MeS_fr hS1 Z15.1, ⟨⟨P12, P14, P10, q1_3⟩, ⟨tvq q1_4 hR.2.1.2.1.1, tvq q1_5 hR.2.1.2.1.2⟩, q1_6, q1_7, P8⟩, fun q hq => RGs_fr hS1 hq (hg1 q hq) Z15.1 (by omega) (by omega) (fun k y hk a b => by have := gA_in m w hq hk; omega) (List.prefix_refl T)⟩ (fz_trans (fz_mono (fun _ q => Or.inr q) hz1) (fz_mono (fun _ q => Or.inl q) Z15)))⟩
def mm_fresh (M : MM) : Bool := !decide (M.2.2.2.1 = 0) && !M.2.2.2.2.2.2.2.2.1
def mm_renew (M : MM) (dr : Nat) (s : Int32) : MM := match M with
  | (ve, ma, go, ge, _, _, _, _, _, gv) => (ve, ma, go, ge + 1, Tsec (nI dr) s 0, Tsec (nI (dr + 1)) s 0, 0, 0, false, gv)
set_option maxRecDepth 100000 in
theorem t_renewChain {sc : tm_X} {d a ca ba da rm dr m : Nat} {B : bm_H} {T : List Tm} {w : Nat → Bool} {ve ma go ge : Int32} {ch si : Tm} {ix ga : Int32} {sl : Bool} {gv : Nat → List GV} {v : Int32} {Q : bm_H → Prop} (hn : ∀ y, m ≤ y → y < m + 39 → ¬ tcs a ca ba da y) (hT : TI B a ca ba da rm dr T) (hR : RMe B T m w (ve, ma, go, ge, ch, si, ix, ga, sl, gv)) (hrm : T.length + 4 < rm) (hdr : dr + 2 < 100000) (kk0 : mm_fresh (ve, ma, go, ge, ch, si, ix, ga, sl, gv) = true → Q B) (kk : ∀ B' T', mm_fresh (ve, ma, go, ge, ch, si, ix, ga, sl, gv) = false → T <+: T' → T'.length ≤ T.length + 4 → TI B' a ca ba da rm (dr + 2) T' → RMe B' T' m w (mm_renew (ve, ma, go, ge, ch, si, ix, ga, sl, gv) dr v) → fz (fun y => tcs a ca ba da y ∨ y = m) B B' → Q B') : bm_Gv sc (d + 3) 98 [.ref m, .ref a, .int v] B Q := by
  show bm_G sc (d + 3) 98 0 [(0, .ref m), (1, .ref a), (2, .int v)] [] B _
  generalize elv : ([(0, .ref m), (1, .ref a), (2, .int v)] : tm_L) = lv
  have l0 : lv.lookup 0 = some (.ref m) := by rw [← elv]; rfl
  have l1 : lv.lookup 1 = some (.ref a) := by rw [← elv]; rfl
  have l2 : lv.lookup 2 = some (.int v) := by rw [← elv]; rfl
  clear elv
  refine g_ald (pc' := 1) cd_Me_renewChain rfl (Or.inr ⟨_, rfl, rfl, rfl⟩) l0 rfl rfl ?_
  refine g_fI (c := 5) (k := 5) (x := ge) (pc' := 4) cd_Me_renewChain rfl rfl rfl rfl rfl (by decide) hR.1.1.1 hR.1.1.2 hR.2.1.1.2.2.2 ?_
  refine g_if1 (t := 15) (pc' := 7) cd_Me_renewChain rfl rfl rfl (fun c4 => ?_) (fun c4 => ?_)
  · have c4 : ge = 0 := c4
    refine g_ald (pc' := 16) cd_Me_renewChain rfl (Or.inr ⟨_, rfl, rfl, rfl⟩) l0 rfl rfl ?_
    refine g_pure (pc' := 17) (st' := [.ref m, .ref m]) cd_Me_renewChain rfl rfl (fun _ _ => rfl) ?_
    refine g_fI (c := 5) (k := 5) (x := ge) (pc' := 20) cd_Me_renewChain rfl rfl rfl rfl rfl (by decide) hR.1.1.1 hR.1.1.2 hR.2.1.1.2.2.2 ?_
    refine g_k1 (v := 1) (pc' := 21) cd_Me_renewChain rfl (by decide) rfl ?_
    refine g_pure (pc' := 22) (st' := [.int (ge + 1), .ref m]) cd_Me_renewChain rfl rfl (fun _ _ => rfl) ?_
    refine g_putI (c := 5) (k := 5) (pc' := 25) cd_Me_renewChain rfl rfl rfl rfl (by simp [tm_okV, narrow, fits]) (Or.inl rfl) rfl (by decide) hR.1.1.1 hR.1.1.2 ?_
    have P16 : bm_FI (bm_putI B 5 5 m (ge + 1)) 5 5 m = ge + 1 := if_pos ⟨rfl, rfl, rfl⟩
    have Z17 : fz (fun y => tcs a ca ba da y ∨ y = m) B (bm_putI B 5 5 m (ge + 1)) := fz_trans (fz_rfl _ B) ⟨fr_mono (fun _ q => Or.inr q) (fr_putI _ 5 5 m _), rfl, rfl⟩
    refine g_ald (pc' := 26) cd_Me_renewChain rfl (Or.inr ⟨_, rfl, rfl, rfl⟩) l0 rfl rfl ?_
    refine g_ald (pc' := 27) cd_Me_renewChain rfl (Or.inr ⟨_, rfl, rfl, rfl⟩) l1 rfl rfl ?_
    refine g_ild (pc' := 28) cd_Me_renewChain rfl (Or.inr ⟨_, rfl, rfl, rfl⟩) l2 rfl ?_
    refine g_k1 (v := 0) (pc' := 29) cd_Me_renewChain rfl (by decide) rfl ?_
    have hT18 : TI (bm_putI B 5 5 m (ge + 1)) a ca ba da rm dr T := TI_fr (X := fun y => y = m) hT (fr_putI _ 5 5 m _) (fun q => hn _ (by omega) (by omega) (Or.inl rfl)) (fun q => hn _ (by omega) (by omega) (Or.inr (Or.inl rfl))) (fun q => hn _ (by omega) (by omega) (Or.inr (Or.inr (Or.inl rfl))))
    refine g_calli (pc' := 32) cd_Me_renewChain rfl rfl rfl rfl rfl (tm_invV rfl rfl cd_Te_secret rfl (Nat.le_of_ble_eq_true rfl) (by decide) hT.1.1.1 hT.1.1.2) (t_secret (xd := v) (xp := 0) hT18 (by omega) (by omega) (fun B19 r19 hx19 ht19 => ?_))
    have hT19 := hx19.2.2.1
    have hl19 := hx19.2.1
    have hf19 := (fz_te hx19.2.2.2).1
    have hz19 := fz_te hx19.2.2.2
    have f20_0 := fr_lt hf19 hR.1.1.1
    have g20_0 := (fr_K hf19 hR.1.1.1).trans hR.1.1.2
    have f20_1 := fr_lt hf19 hR.1.2.2.1.1
    have g20_1 := (fr_K hf19 hR.1.2.2.1.1).trans hR.1.2.2.1.2.1
    have f20_2 := fr_lt hf19 hR.1.2.2.2.1
    have g20_2 := (fr_K hf19 hR.1.2.2.2.1).trans hR.1.2.2.2.2.1
    have f20_3 := fr_lt hf19 hT.1.1.1
    have g20_3 := (fr_K hf19 hT.1.1.1).trans hT.1.1.2
    have q20_0 : bm_FI B19 5 2 m = ve := (fr_FI hf19 hR.1.1.1 (hn _ (by omega) (by omega)) 5 2).trans hR.2.1.1.1
    have q20_1 : bm_FI B19 5 3 m = ma := (fr_FI hf19 hR.1.1.1 (hn _ (by omega) (by omega)) 5 3).trans hR.2.1.1.2.1
    have q20_2 : bm_FI B19 5 4 m = go := (fr_FI hf19 hR.1.1.1 (hn _ (by omega) (by omega)) 5 4).trans hR.2.1.1.2.2.1
    have q20_3 : bm_FI B19 5 5 m = ge + 1 := (fr_FI hf19 hR.1.1.1 (hn _ (by omega) (by omega)) 5 5).trans P16
    have q20_4 : bm_FI B19 5 6 m = (bm_FI B 5 6 m) := (fr_FI hf19 hR.1.1.1 (hn _ (by omega) (by omega)) 5 6).trans rfl
    have q20_5 : bm_FI B19 5 7 m = (bm_FI B 5 7 m) := (fr_FI hf19 hR.1.1.1 (hn _ (by omega) (by omega)) 5 7).trans rfl
    have q20_6 : bm_FI B19 5 8 m = ix := (fr_FI hf19 hR.1.1.1 (hn _ (by omega) (by omega)) 5 8).trans hR.2.1.2.2.1
    have q20_7 : bm_FI B19 5 9 m = ga := (fr_FI hf19 hR.1.1.1 (hn _ (by omega) (by omega)) 5 9).trans hR.2.1.2.2.2.1
    have q20_8 : bm_FI B19 5 10 m = bz sl := (fr_FI hf19 hR.1.1.1 (hn _ (by omega) (by omega)) 5 10).trans hR.2.1.2.2.2.2
    have r20_0 : bm_FR B19 5 0 m = some (m + 1) := (fr_FR hf19 hR.1.1.1 (hn _ (by omega) (by omega)) 5 0).trans hR.1.2.1.1
    have r20_1 : bm_FR B19 5 1 m = some (m + 2) := (fr_FR hf19 hR.1.1.1 (hn _ (by omega) (by omega)) 5 1).trans hR.1.2.1.2
    have w20_0 : bm_AL B19 (m + 1) = 6 := (fr_AL hf19 hR.1.2.2.1.1).trans hR.1.2.2.1.2.2
    have w20_1 : bm_AL B19 (m + 2) = 12 := (fr_AL hf19 hR.1.2.2.2.1).trans hR.1.2.2.2.2.2
    have tv21_0 := tv_mono hx19.1 hR.2.1.2.1.1
    have tv21_1 := tv_mono hx19.1 hR.2.1.2.1.2
    have Z22 : fz (fun y => tcs a ca ba da y ∨ y = m) B B19 := fz_trans Z17 (fz_mono (fun _ q => Or.inl q) hz19)
    show bm_G _ _ _ 32 _ [.int r19, .ref m] B19 _
    refine g_putI (c := 5) (k := 6) (pc' := 35) cd_Me_renewChain rfl rfl rfl rfl (by simp [tm_okV, narrow, fits]) (Or.inl rfl) rfl (by decide) f20_0 g20_0 ?_
    have P23 : bm_FI (bm_putI B19 5 6 m r19) 5 6 m = r19 := if_pos ⟨rfl, rfl, rfl⟩
    have Z24 : fz (fun y => tcs a ca ba da y ∨ y = m) B (bm_putI B19 5 6 m r19) := fz_trans Z22 ⟨fr_mono (fun _ q => Or.inr q) (fr_putI _ 5 6 m _), rfl, rfl⟩
    refine g_ald (pc' := 36) cd_Me_renewChain rfl (Or.inr ⟨_, rfl, rfl, rfl⟩) l0 rfl rfl ?_
    refine g_ald (pc' := 37) cd_Me_renewChain rfl (Or.inr ⟨_, rfl, rfl, rfl⟩) l1 rfl rfl ?_
    refine g_ild (pc' := 38) cd_Me_renewChain rfl (Or.inr ⟨_, rfl, rfl, rfl⟩) l2 rfl ?_
    refine g_k1 (v := 0) (pc' := 39) cd_Me_renewChain rfl (by decide) rfl ?_
    have hT25 : TI (bm_putI B19 5 6 m r19) a ca ba da rm (dr + 1) (T ++ [Tsec (nI dr) v 0, Tpub (Tsec (nI dr) v 0)]) := TI_fr (X := fun y => y = m) hT19 (fr_putI _ 5 6 m _) (fun q => hn _ (by omega) (by omega) (Or.inl rfl)) (fun q => hn _ (by omega) (by omega) (Or.inr (Or.inl rfl))) (fun q => hn _ (by omega) (by omega) (Or.inr (Or.inr (Or.inl rfl))))
    refine g_calli (pc' := 42) cd_Me_renewChain rfl rfl rfl rfl rfl (tm_invV rfl rfl cd_Te_secret rfl (Nat.le_of_ble_eq_true rfl) (by decide) f20_3 g20_3) (t_secret (xd := v) (xp := 0) hT25 (by omega) (by omega) (fun B26 r26 hx26 ht26 => ?_))
    have hT26 := hx26.2.2.1
    have hl26 := hx26.2.1
    have hf26 := (fz_te hx26.2.2.2).1
    have hz26 := fz_te hx26.2.2.2
    have f27_0 := fr_lt hf26 f20_0
    have g27_0 := (fr_K hf26 f20_0).trans g20_0
    have f27_1 := fr_lt hf26 f20_1
    have g27_1 := (fr_K hf26 f20_1).trans g20_1
    have f27_2 := fr_lt hf26 f20_2
    have g27_2 := (fr_K hf26 f20_2).trans g20_2
    have f27_3 := fr_lt hf26 f20_3
    have g27_3 := (fr_K hf26 f20_3).trans g20_3
    have q27_0 : bm_FI B26 5 2 m = ve := (fr_FI hf26 f20_0 (hn _ (by omega) (by omega)) 5 2).trans q20_0
    have q27_1 : bm_FI B26 5 3 m = ma := (fr_FI hf26 f20_0 (hn _ (by omega) (by omega)) 5 3).trans q20_1
    have q27_2 : bm_FI B26 5 4 m = go := (fr_FI hf26 f20_0 (hn _ (by omega) (by omega)) 5 4).trans q20_2
    have q27_3 : bm_FI B26 5 5 m = ge + 1 := (fr_FI hf26 f20_0 (hn _ (by omega) (by omega)) 5 5).trans q20_3
    have q27_4 : bm_FI B26 5 6 m = r19 := (fr_FI hf26 f20_0 (hn _ (by omega) (by omega)) 5 6).trans P23
    have q27_5 : bm_FI B26 5 7 m = (bm_FI B 5 7 m) := (fr_FI hf26 f20_0 (hn _ (by omega) (by omega)) 5 7).trans q20_5
    have q27_6 : bm_FI B26 5 8 m = ix := (fr_FI hf26 f20_0 (hn _ (by omega) (by omega)) 5 8).trans q20_6
    have q27_7 : bm_FI B26 5 9 m = ga := (fr_FI hf26 f20_0 (hn _ (by omega) (by omega)) 5 9).trans q20_7
    have q27_8 : bm_FI B26 5 10 m = bz sl := (fr_FI hf26 f20_0 (hn _ (by omega) (by omega)) 5 10).trans q20_8
    have r27_0 : bm_FR B26 5 0 m = some (m + 1) := (fr_FR hf26 f20_0 (hn _ (by omega) (by omega)) 5 0).trans r20_0
    have r27_1 : bm_FR B26 5 1 m = some (m + 2) := (fr_FR hf26 f20_0 (hn _ (by omega) (by omega)) 5 1).trans r20_1
    have w27_0 : bm_AL B26 (m + 1) = 6 := (fr_AL hf26 f20_1).trans w20_0
    have w27_1 : bm_AL B26 (m + 2) = 12 := (fr_AL hf26 f20_2).trans w20_1
    have tv28_0 := tv_mono hx26.1 tv21_0
    have tv28_1 := tv_mono hx26.1 tv21_1
    have tv28_2 := tv_mono hx26.1 ht19
    have Z29 : fz (fun y => tcs a ca ba da y ∨ y = m) B B26 := fz_trans Z24 (fz_mono (fun _ q => Or.inl q) hz26)
    show bm_G _ _ _ 42 _ [.int r26, .ref m] B26 _
    refine g_putI (c := 5) (k := 7) (pc' := 45) cd_Me_renewChain rfl rfl rfl rfl (by simp [tm_okV, narrow, fits]) (Or.inl rfl) rfl (by decide) f27_0 g27_0 ?_
    have P30 : bm_FI (bm_putI B26 5 7 m r26) 5 7 m = r26 := if_pos ⟨rfl, rfl, rfl⟩
    have Z31 : fz (fun y => tcs a ca ba da y ∨ y = m) B (bm_putI B26 5 7 m r26) := fz_trans Z29 ⟨fr_mono (fun _ q => Or.inr q) (fr_putI _ 5 7 m _), rfl, rfl⟩
    refine g_ald (pc' := 46) cd_Me_renewChain rfl (Or.inr ⟨_, rfl, rfl, rfl⟩) l0 rfl rfl ?_
    refine g_k1 (v := 0) (pc' := 47) cd_Me_renewChain rfl (by decide) rfl ?_
    refine g_putI (c := 5) (k := 8) (pc' := 50) cd_Me_renewChain rfl rfl rfl rfl (by simp [tm_okV, narrow, fits]) (Or.inl rfl) rfl (by decide) f27_0 g27_0 ?_
    have P32 : bm_FI (bm_putI (bm_putI B26 5 7 m r26) 5 8 m 0) 5 8 m = 0 := if_pos ⟨rfl, rfl, rfl⟩
    have Z33 : fz (fun y => tcs a ca ba da y ∨ y = m) B (bm_putI (bm_putI B26 5 7 m r26) 5 8 m 0) := fz_trans Z31 ⟨fr_mono (fun _ q => Or.inr q) (fr_putI _ 5 8 m _), rfl, rfl⟩
    refine g_ald (pc' := 51) cd_Me_renewChain rfl (Or.inr ⟨_, rfl, rfl, rfl⟩) l0 rfl rfl ?_
    refine g_k1 (v := 0) (pc' := 52) cd_Me_renewChain rfl (by decide) rfl ?_
    refine g_putI (c := 5) (k := 9) (pc' := 55) cd_Me_renewChain rfl rfl rfl rfl (by simp [tm_okV, narrow, fits]) (Or.inl rfl) rfl (by decide) f27_0 g27_0 ?_
    have P34 : bm_FI (bm_putI (bm_putI (bm_putI B26 5 7 m r26) 5 8 m 0) 5 9 m 0) 5 9 m = 0 := if_pos ⟨rfl, rfl, rfl⟩
    have Z35 : fz (fun y => tcs a ca ba da y ∨ y = m) B (bm_putI (bm_putI (bm_putI B26 5 7 m r26) 5 8 m 0) 5 9 m 0) := fz_trans Z33 ⟨fr_mono (fun _ q => Or.inr q) (fr_putI _ 5 9 m _), rfl, rfl⟩
    refine g_ald (pc' := 56) cd_Me_renewChain rfl (Or.inr ⟨_, rfl, rfl, rfl⟩) l0 rfl rfl ?_
    refine g_k1 (v := 0) (pc' := 57) cd_Me_renewChain rfl (by decide) rfl ?_
    refine g_putI (c := 5) (k := 10) (pc' := 60) cd_Me_renewChain rfl rfl rfl rfl (by decide) (Or.inl rfl) rfl (by decide) f27_0 g27_0 ?_
    have P36 : bm_FI (bm_putI (bm_putI (bm_putI (bm_putI B26 5 7 m r26) 5 8 m 0) 5 9 m 0) 5 10 m 0) 5 10 m = 0 := if_pos ⟨rfl, rfl, rfl⟩
    have Z37 : fz (fun y => tcs a ca ba da y ∨ y = m) B (bm_putI (bm_putI (bm_putI (bm_putI B26 5 7 m r26) 5 8 m 0) 5 9 m 0) 5 10 m 0) := fz_trans Z35 ⟨fr_mono (fun _ q => Or.inr q) (fr_putI _ 5 10 m _), rfl, rfl⟩
    have hTz : TI (bm_putI (bm_putI (bm_putI (bm_putI B26 5 7 m r26) 5 8 m 0) 5 9 m 0) 5 10 m 0) a ca ba da rm (dr + 2) ((T ++ [Tsec (nI dr) v 0, Tpub (Tsec (nI dr) v 0)]) ++ [Tsec (nI (dr + 1)) v 0, Tpub (Tsec (nI (dr + 1)) v 0)]) := TI_fr (X := fun y => y = m) hT26 (fr_trans (fr_trans (fr_trans (fr_putI _ 5 7 m _) (fr_putI _ 5 8 m _)) (fr_putI _ 5 9 m _)) (fr_putI _ 5 10 m _)) (fun q => hn _ (by omega) (by omega) (Or.inl rfl)) (fun q => hn _ (by omega) (by omega) (Or.inr (Or.inl rfl))) (fun q => hn _ (by omega) (by omega) (Or.inr (Or.inr (Or.inl rfl))))
    exact g_retv cd_Me_renewChain rfl ⟨rfl, (kk _ _ (by unfold mm_fresh; rw [decide_eq_true c4]; rfl) (hx19.1.trans hx26.1) (by simp <;> omega) hTz ⟨MeS_fr hR.1 Z37.1, ⟨⟨q27_0, q27_1, q27_2, q27_3⟩, ⟨tvq q27_4 tv28_2, tvq P30 ht26⟩, P32, P34, P36⟩, fun q hq => RGs_fr hR.1 hq (hR.2.2 q hq) Z37.1 (fun q => q.elim (hn _ (by omega) (by omega)) (by omega)) (fun q => q.elim (hn _ (by omega) (by omega)) (by omega)) (fun k y hk a b q => by have := gA_in m w hq hk; exact q.elim (hn _ (by omega) (by omega)) (by omega)) (hx19.1.trans hx26.1)⟩ Z37)⟩
  · have c4 : ¬ ge = 0 := c4
    refine g_ald (pc' := 8) cd_Me_renewChain rfl (Or.inr ⟨_, rfl, rfl, rfl⟩) l0 rfl rfl ?_
    refine g_fI (c := 5) (k := 10) (x := bz sl) (pc' := 11) cd_Me_renewChain rfl rfl rfl rfl rfl (by decide) hR.1.1.1 hR.1.1.2 hR.2.1.2.2.2.2 ?_
    refine g_if1 (t := 15) (pc' := 14) cd_Me_renewChain rfl rfl rfl (fun c11 => ?_) (fun c11 => ?_)
    · have c11 : sl = true := bz_t c11
      refine g_ald (pc' := 16) cd_Me_renewChain rfl (Or.inr ⟨_, rfl, rfl, rfl⟩) l0 rfl rfl ?_
      refine g_pure (pc' := 17) (st' := [.ref m, .ref m]) cd_Me_renewChain rfl rfl (fun _ _ => rfl) ?_
      refine g_fI (c := 5) (k := 5) (x := ge) (pc' := 20) cd_Me_renewChain rfl rfl rfl rfl rfl (by decide) hR.1.1.1 hR.1.1.2 hR.2.1.1.2.2.2 ?_
      refine g_k1 (v := 1) (pc' := 21) cd_Me_renewChain rfl (by decide) rfl ?_
      refine g_pure (pc' := 22) (st' := [.int (ge + 1), .ref m]) cd_Me_renewChain rfl rfl (fun _ _ => rfl) ?_
      refine g_putI (c := 5) (k := 5) (pc' := 25) cd_Me_renewChain rfl rfl rfl rfl (by simp [tm_okV, narrow, fits]) (Or.inl rfl) rfl (by decide) hR.1.1.1 hR.1.1.2 ?_
      have P38 : bm_FI (bm_putI B 5 5 m (ge + 1)) 5 5 m = ge + 1 := if_pos ⟨rfl, rfl, rfl⟩
      have Z39 : fz (fun y => tcs a ca ba da y ∨ y = m) B (bm_putI B 5 5 m (ge + 1)) := fz_trans (fz_rfl _ B) ⟨fr_mono (fun _ q => Or.inr q) (fr_putI _ 5 5 m _), rfl, rfl⟩
      refine g_ald (pc' := 26) cd_Me_renewChain rfl (Or.inr ⟨_, rfl, rfl, rfl⟩) l0 rfl rfl ?_
      refine g_ald (pc' := 27) cd_Me_renewChain rfl (Or.inr ⟨_, rfl, rfl, rfl⟩) l1 rfl rfl ?_
      refine g_ild (pc' := 28) cd_Me_renewChain rfl (Or.inr ⟨_, rfl, rfl, rfl⟩) l2 rfl ?_
      refine g_k1 (v := 0) (pc' := 29) cd_Me_renewChain rfl (by decide) rfl ?_
      have hT40 : TI (bm_putI B 5 5 m (ge + 1)) a ca ba da rm dr T := TI_fr (X := fun y => y = m) hT (fr_putI _ 5 5 m _) (fun q => hn _ (by omega) (by omega) (Or.inl rfl)) (fun q => hn _ (by omega) (by omega) (Or.inr (Or.inl rfl))) (fun q => hn _ (by omega) (by omega) (Or.inr (Or.inr (Or.inl rfl))))
      refine g_calli (pc' := 32) cd_Me_renewChain rfl rfl rfl rfl rfl (tm_invV rfl rfl cd_Te_secret rfl (Nat.le_of_ble_eq_true rfl) (by decide) hT.1.1.1 hT.1.1.2) (t_secret (xd := v) (xp := 0) hT40 (by omega) (by omega) (fun B41 r41 hx41 ht41 => ?_))
      have hT41 := hx41.2.2.1
      have hl41 := hx41.2.1
      have hf41 := (fz_te hx41.2.2.2).1
      have hz41 := fz_te hx41.2.2.2
      have f42_0 := fr_lt hf41 hR.1.1.1
      have g42_0 := (fr_K hf41 hR.1.1.1).trans hR.1.1.2
      have f42_1 := fr_lt hf41 hR.1.2.2.1.1
      have g42_1 := (fr_K hf41 hR.1.2.2.1.1).trans hR.1.2.2.1.2.1
      have f42_2 := fr_lt hf41 hR.1.2.2.2.1
      have g42_2 := (fr_K hf41 hR.1.2.2.2.1).trans hR.1.2.2.2.2.1
      have f42_3 := fr_lt hf41 hT.1.1.1
      have g42_3 := (fr_K hf41 hT.1.1.1).trans hT.1.1.2
      have q42_0 : bm_FI B41 5 2 m = ve := (fr_FI hf41 hR.1.1.1 (hn _ (by omega) (by omega)) 5 2).trans hR.2.1.1.1
      have q42_1 : bm_FI B41 5 3 m = ma := (fr_FI hf41 hR.1.1.1 (hn _ (by omega) (by omega)) 5 3).trans hR.2.1.1.2.1
      have q42_2 : bm_FI B41 5 4 m = go := (fr_FI hf41 hR.1.1.1 (hn _ (by omega) (by omega)) 5 4).trans hR.2.1.1.2.2.1
      have q42_3 : bm_FI B41 5 5 m = ge + 1 := (fr_FI hf41 hR.1.1.1 (hn _ (by omega) (by omega)) 5 5).trans P38
      have q42_4 : bm_FI B41 5 6 m = (bm_FI B 5 6 m) := (fr_FI hf41 hR.1.1.1 (hn _ (by omega) (by omega)) 5 6).trans rfl
      have q42_5 : bm_FI B41 5 7 m = (bm_FI B 5 7 m) := (fr_FI hf41 hR.1.1.1 (hn _ (by omega) (by omega)) 5 7).trans rfl
      have q42_6 : bm_FI B41 5 8 m = ix := (fr_FI hf41 hR.1.1.1 (hn _ (by omega) (by omega)) 5 8).trans hR.2.1.2.2.1
      have q42_7 : bm_FI B41 5 9 m = ga := (fr_FI hf41 hR.1.1.1 (hn _ (by omega) (by omega)) 5 9).trans hR.2.1.2.2.2.1
      have q42_8 : bm_FI B41 5 10 m = bz sl := (fr_FI hf41 hR.1.1.1 (hn _ (by omega) (by omega)) 5 10).trans hR.2.1.2.2.2.2
      have r42_0 : bm_FR B41 5 0 m = some (m + 1) := (fr_FR hf41 hR.1.1.1 (hn _ (by omega) (by omega)) 5 0).trans hR.1.2.1.1
      have r42_1 : bm_FR B41 5 1 m = some (m + 2) := (fr_FR hf41 hR.1.1.1 (hn _ (by omega) (by omega)) 5 1).trans hR.1.2.1.2
      have w42_0 : bm_AL B41 (m + 1) = 6 := (fr_AL hf41 hR.1.2.2.1.1).trans hR.1.2.2.1.2.2
      have w42_1 : bm_AL B41 (m + 2) = 12 := (fr_AL hf41 hR.1.2.2.2.1).trans hR.1.2.2.2.2.2
      have tv43_0 := tv_mono hx41.1 hR.2.1.2.1.1
      have tv43_1 := tv_mono hx41.1 hR.2.1.2.1.2
      have Z44 : fz (fun y => tcs a ca ba da y ∨ y = m) B B41 := fz_trans Z39 (fz_mono (fun _ q => Or.inl q) hz41)
      show bm_G _ _ _ 32 _ [.int r41, .ref m] B41 _
      refine g_putI (c := 5) (k := 6) (pc' := 35) cd_Me_renewChain rfl rfl rfl rfl (by simp [tm_okV, narrow, fits]) (Or.inl rfl) rfl (by decide) f42_0 g42_0 ?_
      have P45 : bm_FI (bm_putI B41 5 6 m r41) 5 6 m = r41 := if_pos ⟨rfl, rfl, rfl⟩
      have Z46 : fz (fun y => tcs a ca ba da y ∨ y = m) B (bm_putI B41 5 6 m r41) := fz_trans Z44 ⟨fr_mono (fun _ q => Or.inr q) (fr_putI _ 5 6 m _), rfl, rfl⟩
      refine g_ald (pc' := 36) cd_Me_renewChain rfl (Or.inr ⟨_, rfl, rfl, rfl⟩) l0 rfl rfl ?_
      refine g_ald (pc' := 37) cd_Me_renewChain rfl (Or.inr ⟨_, rfl, rfl, rfl⟩) l1 rfl rfl ?_
      refine g_ild (pc' := 38) cd_Me_renewChain rfl (Or.inr ⟨_, rfl, rfl, rfl⟩) l2 rfl ?_
      refine g_k1 (v := 0) (pc' := 39) cd_Me_renewChain rfl (by decide) rfl ?_
      have hT47 : TI (bm_putI B41 5 6 m r41) a ca ba da rm (dr + 1) (T ++ [Tsec (nI dr) v 0, Tpub (Tsec (nI dr) v 0)]) := TI_fr (X := fun y => y = m) hT41 (fr_putI _ 5 6 m _) (fun q => hn _ (by omega) (by omega) (Or.inl rfl)) (fun q => hn _ (by omega) (by omega) (Or.inr (Or.inl rfl))) (fun q => hn _ (by omega) (by omega) (Or.inr (Or.inr (Or.inl rfl))))
      refine g_calli (pc' := 42) cd_Me_renewChain rfl rfl rfl rfl rfl (tm_invV rfl rfl cd_Te_secret rfl (Nat.le_of_ble_eq_true rfl) (by decide) f42_3 g42_3) (t_secret (xd := v) (xp := 0) hT47 (by omega) (by omega) (fun B48 r48 hx48 ht48 => ?_))
      have hT48 := hx48.2.2.1
      have hl48 := hx48.2.1
      have hf48 := (fz_te hx48.2.2.2).1
      have hz48 := fz_te hx48.2.2.2
      have f49_0 := fr_lt hf48 f42_0
      have g49_0 := (fr_K hf48 f42_0).trans g42_0
      have f49_1 := fr_lt hf48 f42_1
      have g49_1 := (fr_K hf48 f42_1).trans g42_1
      have f49_2 := fr_lt hf48 f42_2
      have g49_2 := (fr_K hf48 f42_2).trans g42_2
      have f49_3 := fr_lt hf48 f42_3
      have g49_3 := (fr_K hf48 f42_3).trans g42_3
      have q49_0 : bm_FI B48 5 2 m = ve := (fr_FI hf48 f42_0 (hn _ (by omega) (by omega)) 5 2).trans q42_0
      have q49_1 : bm_FI B48 5 3 m = ma := (fr_FI hf48 f42_0 (hn _ (by omega) (by omega)) 5 3).trans q42_1
      have q49_2 : bm_FI B48 5 4 m = go := (fr_FI hf48 f42_0 (hn _ (by omega) (by omega)) 5 4).trans q42_2
      have q49_3 : bm_FI B48 5 5 m = ge + 1 := (fr_FI hf48 f42_0 (hn _ (by omega) (by omega)) 5 5).trans q42_3
      have q49_4 : bm_FI B48 5 6 m = r41 := (fr_FI hf48 f42_0 (hn _ (by omega) (by omega)) 5 6).trans P45
      have q49_5 : bm_FI B48 5 7 m = (bm_FI B 5 7 m) := (fr_FI hf48 f42_0 (hn _ (by omega) (by omega)) 5 7).trans q42_5
      have q49_6 : bm_FI B48 5 8 m = ix := (fr_FI hf48 f42_0 (hn _ (by omega) (by omega)) 5 8).trans q42_6
      have q49_7 : bm_FI B48 5 9 m = ga := (fr_FI hf48 f42_0 (hn _ (by omega) (by omega)) 5 9).trans q42_7
      have q49_8 : bm_FI B48 5 10 m = bz sl := (fr_FI hf48 f42_0 (hn _ (by omega) (by omega)) 5 10).trans q42_8
      have r49_0 : bm_FR B48 5 0 m = some (m + 1) := (fr_FR hf48 f42_0 (hn _ (by omega) (by omega)) 5 0).trans r42_0
      have r49_1 : bm_FR B48 5 1 m = some (m + 2) := (fr_FR hf48 f42_0 (hn _ (by omega) (by omega)) 5 1).trans r42_1
      have w49_0 : bm_AL B48 (m + 1) = 6 := (fr_AL hf48 f42_1).trans w42_0
      have w49_1 : bm_AL B48 (m + 2) = 12 := (fr_AL hf48 f42_2).trans w42_1
      have tv50_0 := tv_mono hx48.1 tv43_0
      have tv50_1 := tv_mono hx48.1 tv43_1
      have tv50_2 := tv_mono hx48.1 ht41
      have Z51 : fz (fun y => tcs a ca ba da y ∨ y = m) B B48 := fz_trans Z46 (fz_mono (fun _ q => Or.inl q) hz48)
      show bm_G _ _ _ 42 _ [.int r48, .ref m] B48 _
      refine g_putI (c := 5) (k := 7) (pc' := 45) cd_Me_renewChain rfl rfl rfl rfl (by simp [tm_okV, narrow, fits]) (Or.inl rfl) rfl (by decide) f49_0 g49_0 ?_
      have P52 : bm_FI (bm_putI B48 5 7 m r48) 5 7 m = r48 := if_pos ⟨rfl, rfl, rfl⟩
      have Z53 : fz (fun y => tcs a ca ba da y ∨ y = m) B (bm_putI B48 5 7 m r48) := fz_trans Z51 ⟨fr_mono (fun _ q => Or.inr q) (fr_putI _ 5 7 m _), rfl, rfl⟩
      refine g_ald (pc' := 46) cd_Me_renewChain rfl (Or.inr ⟨_, rfl, rfl, rfl⟩) l0 rfl rfl ?_
      refine g_k1 (v := 0) (pc' := 47) cd_Me_renewChain rfl (by decide) rfl ?_
      refine g_putI (c := 5) (k := 8) (pc' := 50) cd_Me_renewChain rfl rfl rfl rfl (by simp [tm_okV, narrow, fits]) (Or.inl rfl) rfl (by decide) f49_0 g49_0 ?_
      have P54 : bm_FI (bm_putI (bm_putI B48 5 7 m r48) 5 8 m 0) 5 8 m = 0 := if_pos ⟨rfl, rfl, rfl⟩
      have Z55 : fz (fun y => tcs a ca ba da y ∨ y = m) B (bm_putI (bm_putI B48 5 7 m r48) 5 8 m 0) := fz_trans Z53 ⟨fr_mono (fun _ q => Or.inr q) (fr_putI _ 5 8 m _), rfl, rfl⟩
      refine g_ald (pc' := 51) cd_Me_renewChain rfl (Or.inr ⟨_, rfl, rfl, rfl⟩) l0 rfl rfl ?_
      refine g_k1 (v := 0) (pc' := 52) cd_Me_renewChain rfl (by decide) rfl ?_
      refine g_putI (c := 5) (k := 9) (pc' := 55) cd_Me_renewChain rfl rfl rfl rfl (by simp [tm_okV, narrow, fits]) (Or.inl rfl) rfl (by decide) f49_0 g49_0 ?_
      have P56 : bm_FI (bm_putI (bm_putI (bm_putI B48 5 7 m r48) 5 8 m 0) 5 9 m 0) 5 9 m = 0 := if_pos ⟨rfl, rfl, rfl⟩
      have Z57 : fz (fun y => tcs a ca ba da y ∨ y = m) B (bm_putI (bm_putI (bm_putI B48 5 7 m r48) 5 8 m 0) 5 9 m 0) := fz_trans Z55 ⟨fr_mono (fun _ q => Or.inr q) (fr_putI _ 5 9 m _), rfl, rfl⟩
      refine g_ald (pc' := 56) cd_Me_renewChain rfl (Or.inr ⟨_, rfl, rfl, rfl⟩) l0 rfl rfl ?_
      refine g_k1 (v := 0) (pc' := 57) cd_Me_renewChain rfl (by decide) rfl ?_
      refine g_putI (c := 5) (k := 10) (pc' := 60) cd_Me_renewChain rfl rfl rfl rfl (by decide) (Or.inl rfl) rfl (by decide) f49_0 g49_0 ?_
      have P58 : bm_FI (bm_putI (bm_putI (bm_putI (bm_putI B48 5 7 m r48) 5 8 m 0) 5 9 m 0) 5 10 m 0) 5 10 m = 0 := if_pos ⟨rfl, rfl, rfl⟩
      have Z59 : fz (fun y => tcs a ca ba da y ∨ y = m) B (bm_putI (bm_putI (bm_putI (bm_putI B48 5 7 m r48) 5 8 m 0) 5 9 m 0) 5 10 m 0) := fz_trans Z57 ⟨fr_mono (fun _ q => Or.inr q) (fr_putI _ 5 10 m _), rfl, rfl⟩
      have hTz : TI (bm_putI (bm_putI (bm_putI (bm_putI B48 5 7 m r48) 5 8 m 0) 5 9 m 0) 5 10 m 0) a ca ba da rm (dr + 2) ((T ++ [Tsec (nI dr) v 0, Tpub (Tsec (nI dr) v 0)]) ++ [Tsec (nI (dr + 1)) v 0, Tpub (Tsec (nI (dr + 1)) v 0)]) := TI_fr (X := fun y => y = m) hT48 (fr_trans (fr_trans (fr_trans (fr_putI _ 5 7 m _) (fr_putI _ 5 8 m _)) (fr_putI _ 5 9 m _)) (fr_putI _ 5 10 m _)) (fun q => hn _ (by omega) (by omega) (Or.inl rfl)) (fun q => hn _ (by omega) (by omega) (Or.inr (Or.inl rfl))) (fun q => hn _ (by omega) (by omega) (Or.inr (Or.inr (Or.inl rfl))))
      exact g_retv cd_Me_renewChain rfl ⟨rfl, (kk _ _ (by unfold mm_fresh; rw [show sl = true from c11]; simp) (hx41.1.trans hx48.1) (by simp <;> omega) hTz ⟨MeS_fr hR.1 Z59.1, ⟨⟨q49_0, q49_1, q49_2, q49_3⟩, ⟨tvq q49_4 tv50_2, tvq P52 ht48⟩, P54, P56, P58⟩, fun q hq => RGs_fr hR.1 hq (hR.2.2 q hq) Z59.1 (fun q => q.elim (hn _ (by omega) (by omega)) (by omega)) (fun q => q.elim (hn _ (by omega) (by omega)) (by omega)) (fun k y hk a b q => by have := gA_in m w hq hk; exact q.elim (hn _ (by omega) (by omega)) (by omega)) (hx41.1.trans hx48.1)⟩ Z59)⟩
    · have c11 : sl = false := bz_f (Classical.not_not.mp c11)
      exact g_retv cd_Me_renewChain rfl ⟨rfl, (kk0 (by unfold mm_fresh; rw [decide_eq_false c4, show sl = false from c11]; rfl))⟩
def mm_gift (M : MM) (g : Int32) : Tm := match M with
  | (_, _, _, ge, ch, si, ix, _, _, _) => Trw 5 g ge ix 0 ch (Tpub si) tz tz
def mm_post (M : MM) (g s : Int32) (body : Tm) : Tm := match M with
  | (_, _, _, ge, ch, si, ix, _, _, _) => Tsg si (Tsl (Tmx 6 ch tz) (Trw 7 g s ge ix tz tz tz tz) body)
def mm_posted (M : MM) : MM := match M with
  | (ve, ma, go, ge, ch, si, ix, ga, sl, gv) => (ve, ma, go, ge, Tmx 7 ch tz, si, ix + 1, ga, sl, gv)
theorem t_giftRow {sc : tm_X} {d a ca ba da rm dr m : Nat} {B : bm_H} {T : List Tm} {w : Nat → Bool} {ve ma go ge : Int32} {ch si : Tm} {ix ga : Int32} {sl : Bool} {gv : Nat → List GV} {v : Int32} {Q : Int32 → bm_H → Prop} (hn : ∀ y, m ≤ y → y < m + 39 → ¬ tcs a ca ba da y) (hT : TI B a ca ba da rm dr T) (hR : RMe B T m w (ve, ma, go, ge, ch, si, ix, ga, sl, gv)) (hrm : T.length + 1 < rm) (hk : kd si = 1) (kk : ∀ B' T' r, T <+: T' → T'.length ≤ T.length + 1 → TI B' a ca ba da rm dr T' → tv T' r (mm_gift (ve, ma, go, ge, ch, si, ix, ga, sl, gv) v) → fz (tcs a ca ba da) B B' → Q r B') : bm_Gi sc (d + 3) 100 [.ref m, .ref a, .int v] B Q := by
  show bm_G sc (d + 3) 100 0 [(0, .ref m), (1, .ref a), (2, .int v)] [] B _
  generalize elv : ([(0, .ref m), (1, .ref a), (2, .int v)] : tm_L) = lv
  have l0 : lv.lookup 0 = some (.ref m) := by rw [← elv]; rfl
  have l1 : lv.lookup 1 = some (.ref a) := by rw [← elv]; rfl
  have l2 : lv.lookup 2 = some (.int v) := by rw [← elv]; rfl
  clear elv
  refine g_ald (pc' := 1) cd_Me_giftRow rfl (Or.inr ⟨_, rfl, rfl, rfl⟩) l1 rfl rfl ?_
  refine g_k1 (v := 5) (pc' := 2) cd_Me_giftRow rfl (by decide) rfl ?_
  refine g_ild (pc' := 3) cd_Me_giftRow rfl (Or.inr ⟨_, rfl, rfl, rfl⟩) l2 rfl ?_
  refine g_ald (pc' := 4) cd_Me_giftRow rfl (Or.inr ⟨_, rfl, rfl, rfl⟩) l0 rfl rfl ?_
  refine g_fI (c := 5) (k := 5) (x := ge) (pc' := 7) cd_Me_giftRow rfl rfl rfl rfl rfl (by decide) hR.1.1.1 hR.1.1.2 hR.2.1.1.2.2.2 ?_
  refine g_ald (pc' := 8) cd_Me_giftRow rfl (Or.inr ⟨_, rfl, rfl, rfl⟩) l0 rfl rfl ?_
  refine g_fI (c := 5) (k := 8) (x := ix) (pc' := 11) cd_Me_giftRow rfl rfl rfl rfl rfl (by decide) hR.1.1.1 hR.1.1.2 hR.2.1.2.2.1 ?_
  refine g_k1 (v := 0) (pc' := 12) cd_Me_giftRow rfl (by decide) rfl ?_
  refine g_callv (pc' := 15) cd_Me_giftRow rfl rfl rfl rfl rfl (tm_invV rfl rfl cd_Te_startRow rfl (Nat.le_of_ble_eq_true rfl) (by decide) hT.1.1.1 hT.1.1.2) (t_startRow hT ?_)
  have f60_0 := fr_lt (fz_te (tt_draft_fr B a ca ba da 5 v ge ix 0)).1 hR.1.1.1
  have g60_0 := (fr_K (fz_te (tt_draft_fr B a ca ba da 5 v ge ix 0)).1 hR.1.1.1).trans hR.1.1.2
  have f60_1 := fr_lt (fz_te (tt_draft_fr B a ca ba da 5 v ge ix 0)).1 hR.1.2.2.1.1
  have g60_1 := (fr_K (fz_te (tt_draft_fr B a ca ba da 5 v ge ix 0)).1 hR.1.2.2.1.1).trans hR.1.2.2.1.2.1
  have f60_2 := fr_lt (fz_te (tt_draft_fr B a ca ba da 5 v ge ix 0)).1 hR.1.2.2.2.1
  have g60_2 := (fr_K (fz_te (tt_draft_fr B a ca ba da 5 v ge ix 0)).1 hR.1.2.2.2.1).trans hR.1.2.2.2.2.1
  have f60_3 := fr_lt (fz_te (tt_draft_fr B a ca ba da 5 v ge ix 0)).1 hT.1.1.1
  have g60_3 := (fr_K (fz_te (tt_draft_fr B a ca ba da 5 v ge ix 0)).1 hT.1.1.1).trans hT.1.1.2
  have q60_0 : bm_FI (tt_draft B da 5 v ge ix 0) 5 2 m = ve := (fr_FI (fz_te (tt_draft_fr B a ca ba da 5 v ge ix 0)).1 hR.1.1.1 (hn _ (by omega) (by omega)) 5 2).trans hR.2.1.1.1
  have q60_1 : bm_FI (tt_draft B da 5 v ge ix 0) 5 3 m = ma := (fr_FI (fz_te (tt_draft_fr B a ca ba da 5 v ge ix 0)).1 hR.1.1.1 (hn _ (by omega) (by omega)) 5 3).trans hR.2.1.1.2.1
  have q60_2 : bm_FI (tt_draft B da 5 v ge ix 0) 5 4 m = go := (fr_FI (fz_te (tt_draft_fr B a ca ba da 5 v ge ix 0)).1 hR.1.1.1 (hn _ (by omega) (by omega)) 5 4).trans hR.2.1.1.2.2.1
  have q60_3 : bm_FI (tt_draft B da 5 v ge ix 0) 5 5 m = ge := (fr_FI (fz_te (tt_draft_fr B a ca ba da 5 v ge ix 0)).1 hR.1.1.1 (hn _ (by omega) (by omega)) 5 5).trans hR.2.1.1.2.2.2
  have q60_4 : bm_FI (tt_draft B da 5 v ge ix 0) 5 6 m = (bm_FI B 5 6 m) := (fr_FI (fz_te (tt_draft_fr B a ca ba da 5 v ge ix 0)).1 hR.1.1.1 (hn _ (by omega) (by omega)) 5 6).trans rfl
  have q60_5 : bm_FI (tt_draft B da 5 v ge ix 0) 5 7 m = (bm_FI B 5 7 m) := (fr_FI (fz_te (tt_draft_fr B a ca ba da 5 v ge ix 0)).1 hR.1.1.1 (hn _ (by omega) (by omega)) 5 7).trans rfl
  have q60_6 : bm_FI (tt_draft B da 5 v ge ix 0) 5 8 m = ix := (fr_FI (fz_te (tt_draft_fr B a ca ba da 5 v ge ix 0)).1 hR.1.1.1 (hn _ (by omega) (by omega)) 5 8).trans hR.2.1.2.2.1
  have q60_7 : bm_FI (tt_draft B da 5 v ge ix 0) 5 9 m = ga := (fr_FI (fz_te (tt_draft_fr B a ca ba da 5 v ge ix 0)).1 hR.1.1.1 (hn _ (by omega) (by omega)) 5 9).trans hR.2.1.2.2.2.1
  have q60_8 : bm_FI (tt_draft B da 5 v ge ix 0) 5 10 m = bz sl := (fr_FI (fz_te (tt_draft_fr B a ca ba da 5 v ge ix 0)).1 hR.1.1.1 (hn _ (by omega) (by omega)) 5 10).trans hR.2.1.2.2.2.2
  have r60_0 : bm_FR (tt_draft B da 5 v ge ix 0) 5 0 m = some (m + 1) := (fr_FR (fz_te (tt_draft_fr B a ca ba da 5 v ge ix 0)).1 hR.1.1.1 (hn _ (by omega) (by omega)) 5 0).trans hR.1.2.1.1
  have r60_1 : bm_FR (tt_draft B da 5 v ge ix 0) 5 1 m = some (m + 2) := (fr_FR (fz_te (tt_draft_fr B a ca ba da 5 v ge ix 0)).1 hR.1.1.1 (hn _ (by omega) (by omega)) 5 1).trans hR.1.2.1.2
  have w60_0 : bm_AL (tt_draft B da 5 v ge ix 0) (m + 1) = 6 := (fr_AL (fz_te (tt_draft_fr B a ca ba da 5 v ge ix 0)).1 hR.1.2.2.1.1).trans hR.1.2.2.1.2.2
  have w60_1 : bm_AL (tt_draft B da 5 v ge ix 0) (m + 2) = 12 := (fr_AL (fz_te (tt_draft_fr B a ca ba da 5 v ge ix 0)).1 hR.1.2.2.2.1).trans hR.1.2.2.2.2.2
  show bm_G _ _ _ 15 _ [] (tt_draft B da 5 v ge ix 0) _
  refine g_ald (pc' := 16) cd_Me_giftRow rfl (Or.inr ⟨_, rfl, rfl, rfl⟩) l1 rfl rfl ?_
  refine g_ald (pc' := 17) cd_Me_giftRow rfl (Or.inr ⟨_, rfl, rfl, rfl⟩) l0 rfl rfl ?_
  refine g_fI (c := 5) (k := 6) (x := (bm_FI B 5 6 m)) (pc' := 20) cd_Me_giftRow rfl rfl rfl rfl rfl (by decide) f60_0 g60_0 q60_4 ?_
  refine g_ald (pc' := 21) cd_Me_giftRow rfl (Or.inr ⟨_, rfl, rfl, rfl⟩) l1 rfl rfl ?_
  refine g_ald (pc' := 22) cd_Me_giftRow rfl (Or.inr ⟨_, rfl, rfl, rfl⟩) l0 rfl rfl ?_
  refine g_fI (c := 5) (k := 7) (x := (bm_FI B 5 7 m)) (pc' := 25) cd_Me_giftRow rfl rfl rfl rfl rfl (by decide) f60_0 g60_0 q60_5 ?_
  refine g_calli (pc' := 28) cd_Me_giftRow rfl rfl rfl rfl rfl (tm_invV rfl rfl cd_Te_publicOf rfl (Nat.le_of_ble_eq_true rfl) (by decide) f60_3 g60_3) (t_publicOf (tt_draft_TI hT) hR.2.1.2.1.2 (fun r61 ht61 => ?_))
  rw [if_pos hk] at ht61
  show bm_G _ _ _ 28 _ [.int r61, .int ((bm_FI B 5 6 m)), .ref a] (tt_draft B da 5 v ge ix 0) _
  refine g_k1 (v := 0) (pc' := 29) cd_Me_giftRow rfl (by decide) rfl ?_
  refine g_k1 (v := 0) (pc' := 30) cd_Me_giftRow rfl (by decide) rfl ?_
  refine g_calli (pc' := 33) cd_Me_giftRow rfl rfl rfl rfl rfl (tm_invV rfl rfl cd_Te_endRow rfl (Nat.le_of_ble_eq_true rfl) (by decide) f60_3 g60_3) (t_endRow hT (by omega) hR.2.1.2.1.1 ht61 (TI_z hT) (TI_z hT) (fun B62 T62 r62 hx62 ht62 => ?_))
  have hT62 := hx62.2.2.1
  have hl62 := hx62.2.1
  have hf62 := (fz_te hx62.2.2.2).1
  have hz62 := fz_te hx62.2.2.2
  have f63_0 := fr_lt hf62 hR.1.1.1
  have g63_0 := (fr_K hf62 hR.1.1.1).trans hR.1.1.2
  have f63_1 := fr_lt hf62 hR.1.2.2.1.1
  have g63_1 := (fr_K hf62 hR.1.2.2.1.1).trans hR.1.2.2.1.2.1
  have f63_2 := fr_lt hf62 hR.1.2.2.2.1
  have g63_2 := (fr_K hf62 hR.1.2.2.2.1).trans hR.1.2.2.2.2.1
  have f63_3 := fr_lt hf62 hT.1.1.1
  have g63_3 := (fr_K hf62 hT.1.1.1).trans hT.1.1.2
  have q63_0 : bm_FI B62 5 2 m = ve := (fr_FI hf62 hR.1.1.1 (hn _ (by omega) (by omega)) 5 2).trans hR.2.1.1.1
  have q63_1 : bm_FI B62 5 3 m = ma := (fr_FI hf62 hR.1.1.1 (hn _ (by omega) (by omega)) 5 3).trans hR.2.1.1.2.1
  have q63_2 : bm_FI B62 5 4 m = go := (fr_FI hf62 hR.1.1.1 (hn _ (by omega) (by omega)) 5 4).trans hR.2.1.1.2.2.1
  have q63_3 : bm_FI B62 5 5 m = ge := (fr_FI hf62 hR.1.1.1 (hn _ (by omega) (by omega)) 5 5).trans hR.2.1.1.2.2.2
  have q63_4 : bm_FI B62 5 6 m = (bm_FI B 5 6 m) := (fr_FI hf62 hR.1.1.1 (hn _ (by omega) (by omega)) 5 6).trans rfl
  have q63_5 : bm_FI B62 5 7 m = (bm_FI B 5 7 m) := (fr_FI hf62 hR.1.1.1 (hn _ (by omega) (by omega)) 5 7).trans rfl
  have q63_6 : bm_FI B62 5 8 m = ix := (fr_FI hf62 hR.1.1.1 (hn _ (by omega) (by omega)) 5 8).trans hR.2.1.2.2.1
  have q63_7 : bm_FI B62 5 9 m = ga := (fr_FI hf62 hR.1.1.1 (hn _ (by omega) (by omega)) 5 9).trans hR.2.1.2.2.2.1
  have q63_8 : bm_FI B62 5 10 m = bz sl := (fr_FI hf62 hR.1.1.1 (hn _ (by omega) (by omega)) 5 10).trans hR.2.1.2.2.2.2
  have r63_0 : bm_FR B62 5 0 m = some (m + 1) := (fr_FR hf62 hR.1.1.1 (hn _ (by omega) (by omega)) 5 0).trans hR.1.2.1.1
  have r63_1 : bm_FR B62 5 1 m = some (m + 2) := (fr_FR hf62 hR.1.1.1 (hn _ (by omega) (by omega)) 5 1).trans hR.1.2.1.2
  have w63_0 : bm_AL B62 (m + 1) = 6 := (fr_AL hf62 hR.1.2.2.1.1).trans hR.1.2.2.1.2.2
  have w63_1 : bm_AL B62 (m + 2) = 12 := (fr_AL hf62 hR.1.2.2.2.1).trans hR.1.2.2.2.2.2
  have tv64_0 := tv_mono hx62.1 hR.2.1.2.1.1
  have tv64_1 := tv_mono hx62.1 hR.2.1.2.1.2
  have tv64_2 := tv_mono hx62.1 ht61
  have Z65 : fz (tcs a ca ba da) B B62 := fz_trans (fz_rfl _ B) (fz_mono (fun _ q => q) hz62)
  show bm_G _ _ _ 33 _ [.int r62] B62 _
  exact g_reti cd_Me_giftRow rfl ⟨_, rfl, (kk _ _ _ hx62.1 (by omega) hT62 ht62 Z65)⟩
set_option maxRecDepth 100000 in
theorem t_nextPost {sc : tm_X} {d a ca ba da rm dr m : Nat} {B : bm_H} {T : List Tm} {w : Nat → Bool} {ve ma go ge : Int32} {ch si : Tm} {ix ga : Int32} {sl : Bool} {gv : Nat → List GV} {v u y : Int32} {Y : Tm} {Q : Int32 → bm_H → Prop} (hn : ∀ y, m ≤ y → y < m + 39 → ¬ tcs a ca ba da y) (hT : TI B a ca ba da rm dr T) (hR : RMe B T m w (ve, ma, go, ge, ch, si, ix, ga, sl, gv)) (hrm : T.length + 5 < rm) (hy : tv T y Y) (kk : ∀ B' T' r, T <+: T' → T'.length ≤ T.length + 5 → TI B' a ca ba da rm dr T' → tv T' r (mm_post (ve, ma, go, ge, ch, si, ix, ga, sl, gv) v u Y) → RMe B' T' m w (mm_posted (ve, ma, go, ge, ch, si, ix, ga, sl, gv)) → fz (fun y => tcs a ca ba da y ∨ y = m) B B' → Q r B') : bm_Gi sc (d + 3) 101 [.ref m, .ref a, .int v, .int u, .int y] B Q := by
  show bm_G sc (d + 3) 101 0 [(0, .ref m), (1, .ref a), (2, .int v), (3, .int u), (4, .int y)] [] B _
  generalize elv : ([(0, .ref m), (1, .ref a), (2, .int v), (3, .int u), (4, .int y)] : tm_L) = lv
  have l0 : lv.lookup 0 = some (.ref m) := by rw [← elv]; rfl
  have l1 : lv.lookup 1 = some (.ref a) := by rw [← elv]; rfl
  have l2 : lv.lookup 2 = some (.int v) := by rw [← elv]; rfl
  have l3 : lv.lookup 3 = some (.int u) := by rw [← elv]; rfl
  have l4 : lv.lookup 4 = some (.int y) := by rw [← elv]; rfl
  clear elv
  refine g_ald (pc' := 1) cd_Me_nextPost rfl (Or.inr ⟨_, rfl, rfl, rfl⟩) l1 rfl rfl ?_
  refine g_k2 (v := 7) (pc' := 3) cd_Me_nextPost rfl (by decide) rfl ?_
  refine g_ild (pc' := 4) cd_Me_nextPost rfl (Or.inr ⟨_, rfl, rfl, rfl⟩) l2 rfl ?_
  refine g_ild (pc' := 5) cd_Me_nextPost rfl (Or.inr ⟨_, rfl, rfl, rfl⟩) l3 rfl ?_
  refine g_ald (pc' := 6) cd_Me_nextPost rfl (Or.inr ⟨_, rfl, rfl, rfl⟩) l0 rfl rfl ?_
  refine g_fI (c := 5) (k := 5) (x := ge) (pc' := 9) cd_Me_nextPost rfl rfl rfl rfl rfl (by decide) hR.1.1.1 hR.1.1.2 hR.2.1.1.2.2.2 ?_
  refine g_ald (pc' := 10) cd_Me_nextPost rfl (Or.inr ⟨_, rfl, rfl, rfl⟩) l0 rfl rfl ?_
  refine g_fI (c := 5) (k := 8) (x := ix) (pc' := 13) cd_Me_nextPost rfl rfl rfl rfl rfl (by decide) hR.1.1.1 hR.1.1.2 hR.2.1.2.2.1 ?_
  refine g_callv (pc' := 16) cd_Me_nextPost rfl rfl rfl rfl rfl (tm_invV rfl rfl cd_Te_startRow rfl (Nat.le_of_ble_eq_true rfl) (by decide) hT.1.1.1 hT.1.1.2) (t_startRow hT ?_)
  have f66_0 := fr_lt (fz_te (tt_draft_fr B a ca ba da 7 v u ge ix)).1 hR.1.1.1
  have g66_0 := (fr_K (fz_te (tt_draft_fr B a ca ba da 7 v u ge ix)).1 hR.1.1.1).trans hR.1.1.2
  have f66_1 := fr_lt (fz_te (tt_draft_fr B a ca ba da 7 v u ge ix)).1 hR.1.2.2.1.1
  have g66_1 := (fr_K (fz_te (tt_draft_fr B a ca ba da 7 v u ge ix)).1 hR.1.2.2.1.1).trans hR.1.2.2.1.2.1
  have f66_2 := fr_lt (fz_te (tt_draft_fr B a ca ba da 7 v u ge ix)).1 hR.1.2.2.2.1
  have g66_2 := (fr_K (fz_te (tt_draft_fr B a ca ba da 7 v u ge ix)).1 hR.1.2.2.2.1).trans hR.1.2.2.2.2.1
  have f66_3 := fr_lt (fz_te (tt_draft_fr B a ca ba da 7 v u ge ix)).1 hT.1.1.1
  have g66_3 := (fr_K (fz_te (tt_draft_fr B a ca ba da 7 v u ge ix)).1 hT.1.1.1).trans hT.1.1.2
  have q66_0 : bm_FI (tt_draft B da 7 v u ge ix) 5 2 m = ve := (fr_FI (fz_te (tt_draft_fr B a ca ba da 7 v u ge ix)).1 hR.1.1.1 (hn _ (by omega) (by omega)) 5 2).trans hR.2.1.1.1
  have q66_1 : bm_FI (tt_draft B da 7 v u ge ix) 5 3 m = ma := (fr_FI (fz_te (tt_draft_fr B a ca ba da 7 v u ge ix)).1 hR.1.1.1 (hn _ (by omega) (by omega)) 5 3).trans hR.2.1.1.2.1
  have q66_2 : bm_FI (tt_draft B da 7 v u ge ix) 5 4 m = go := (fr_FI (fz_te (tt_draft_fr B a ca ba da 7 v u ge ix)).1 hR.1.1.1 (hn _ (by omega) (by omega)) 5 4).trans hR.2.1.1.2.2.1
  have q66_3 : bm_FI (tt_draft B da 7 v u ge ix) 5 5 m = ge := (fr_FI (fz_te (tt_draft_fr B a ca ba da 7 v u ge ix)).1 hR.1.1.1 (hn _ (by omega) (by omega)) 5 5).trans hR.2.1.1.2.2.2
  have q66_4 : bm_FI (tt_draft B da 7 v u ge ix) 5 6 m = (bm_FI B 5 6 m) := (fr_FI (fz_te (tt_draft_fr B a ca ba da 7 v u ge ix)).1 hR.1.1.1 (hn _ (by omega) (by omega)) 5 6).trans rfl
  have q66_5 : bm_FI (tt_draft B da 7 v u ge ix) 5 7 m = (bm_FI B 5 7 m) := (fr_FI (fz_te (tt_draft_fr B a ca ba da 7 v u ge ix)).1 hR.1.1.1 (hn _ (by omega) (by omega)) 5 7).trans rfl
  have q66_6 : bm_FI (tt_draft B da 7 v u ge ix) 5 8 m = ix := (fr_FI (fz_te (tt_draft_fr B a ca ba da 7 v u ge ix)).1 hR.1.1.1 (hn _ (by omega) (by omega)) 5 8).trans hR.2.1.2.2.1
  have q66_7 : bm_FI (tt_draft B da 7 v u ge ix) 5 9 m = ga := (fr_FI (fz_te (tt_draft_fr B a ca ba da 7 v u ge ix)).1 hR.1.1.1 (hn _ (by omega) (by omega)) 5 9).trans hR.2.1.2.2.2.1
  have q66_8 : bm_FI (tt_draft B da 7 v u ge ix) 5 10 m = bz sl := (fr_FI (fz_te (tt_draft_fr B a ca ba da 7 v u ge ix)).1 hR.1.1.1 (hn _ (by omega) (by omega)) 5 10).trans hR.2.1.2.2.2.2
  have r66_0 : bm_FR (tt_draft B da 7 v u ge ix) 5 0 m = some (m + 1) := (fr_FR (fz_te (tt_draft_fr B a ca ba da 7 v u ge ix)).1 hR.1.1.1 (hn _ (by omega) (by omega)) 5 0).trans hR.1.2.1.1
  have r66_1 : bm_FR (tt_draft B da 7 v u ge ix) 5 1 m = some (m + 2) := (fr_FR (fz_te (tt_draft_fr B a ca ba da 7 v u ge ix)).1 hR.1.1.1 (hn _ (by omega) (by omega)) 5 1).trans hR.1.2.1.2
  have w66_0 : bm_AL (tt_draft B da 7 v u ge ix) (m + 1) = 6 := (fr_AL (fz_te (tt_draft_fr B a ca ba da 7 v u ge ix)).1 hR.1.2.2.1.1).trans hR.1.2.2.1.2.2
  have w66_1 : bm_AL (tt_draft B da 7 v u ge ix) (m + 2) = 12 := (fr_AL (fz_te (tt_draft_fr B a ca ba da 7 v u ge ix)).1 hR.1.2.2.2.1).trans hR.1.2.2.2.2.2
  show bm_G _ _ _ 16 _ [] (tt_draft B da 7 v u ge ix) _
  refine g_ald (pc' := 17) cd_Me_nextPost rfl (Or.inr ⟨_, rfl, rfl, rfl⟩) l1 rfl rfl ?_
  refine g_k1 (v := 0) (pc' := 18) cd_Me_nextPost rfl (by decide) rfl ?_
  refine g_k1 (v := 0) (pc' := 19) cd_Me_nextPost rfl (by decide) rfl ?_
  refine g_k1 (v := 0) (pc' := 20) cd_Me_nextPost rfl (by decide) rfl ?_
  refine g_k1 (v := 0) (pc' := 21) cd_Me_nextPost rfl (by decide) rfl ?_
  refine g_calli (pc' := 24) cd_Me_nextPost rfl rfl rfl rfl rfl (tm_invV rfl rfl cd_Te_endRow rfl (Nat.le_of_ble_eq_true rfl) (by decide) f66_3 g66_3) (t_endRow hT (by omega) (TI_z hT) (TI_z hT) (TI_z hT) (TI_z hT) (fun B67 T67 r67 hx67 ht67 => ?_))
  have hT67 := hx67.2.2.1
  have hl67 := hx67.2.1
  have hf67 := (fz_te hx67.2.2.2).1
  have hz67 := fz_te hx67.2.2.2
  have f68_0 := fr_lt hf67 hR.1.1.1
  have g68_0 := (fr_K hf67 hR.1.1.1).trans hR.1.1.2
  have f68_1 := fr_lt hf67 hR.1.2.2.1.1
  have g68_1 := (fr_K hf67 hR.1.2.2.1.1).trans hR.1.2.2.1.2.1
  have f68_2 := fr_lt hf67 hR.1.2.2.2.1
  have g68_2 := (fr_K hf67 hR.1.2.2.2.1).trans hR.1.2.2.2.2.1
  have f68_3 := fr_lt hf67 hT.1.1.1
  have g68_3 := (fr_K hf67 hT.1.1.1).trans hT.1.1.2
  have q68_0 : bm_FI B67 5 2 m = ve := (fr_FI hf67 hR.1.1.1 (hn _ (by omega) (by omega)) 5 2).trans hR.2.1.1.1
  have q68_1 : bm_FI B67 5 3 m = ma := (fr_FI hf67 hR.1.1.1 (hn _ (by omega) (by omega)) 5 3).trans hR.2.1.1.2.1
  have q68_2 : bm_FI B67 5 4 m = go := (fr_FI hf67 hR.1.1.1 (hn _ (by omega) (by omega)) 5 4).trans hR.2.1.1.2.2.1
  have q68_3 : bm_FI B67 5 5 m = ge := (fr_FI hf67 hR.1.1.1 (hn _ (by omega) (by omega)) 5 5).trans hR.2.1.1.2.2.2
  have q68_4 : bm_FI B67 5 6 m = (bm_FI B 5 6 m) := (fr_FI hf67 hR.1.1.1 (hn _ (by omega) (by omega)) 5 6).trans rfl
  have q68_5 : bm_FI B67 5 7 m = (bm_FI B 5 7 m) := (fr_FI hf67 hR.1.1.1 (hn _ (by omega) (by omega)) 5 7).trans rfl
  have q68_6 : bm_FI B67 5 8 m = ix := (fr_FI hf67 hR.1.1.1 (hn _ (by omega) (by omega)) 5 8).trans hR.2.1.2.2.1
  have q68_7 : bm_FI B67 5 9 m = ga := (fr_FI hf67 hR.1.1.1 (hn _ (by omega) (by omega)) 5 9).trans hR.2.1.2.2.2.1
  have q68_8 : bm_FI B67 5 10 m = bz sl := (fr_FI hf67 hR.1.1.1 (hn _ (by omega) (by omega)) 5 10).trans hR.2.1.2.2.2.2
  have r68_0 : bm_FR B67 5 0 m = some (m + 1) := (fr_FR hf67 hR.1.1.1 (hn _ (by omega) (by omega)) 5 0).trans hR.1.2.1.1
  have r68_1 : bm_FR B67 5 1 m = some (m + 2) := (fr_FR hf67 hR.1.1.1 (hn _ (by omega) (by omega)) 5 1).trans hR.1.2.1.2
  have w68_0 : bm_AL B67 (m + 1) = 6 := (fr_AL hf67 hR.1.2.2.1.1).trans hR.1.2.2.1.2.2
  have w68_1 : bm_AL B67 (m + 2) = 12 := (fr_AL hf67 hR.1.2.2.2.1).trans hR.1.2.2.2.2.2
  have tv69_0 := tv_mono hx67.1 hR.2.1.2.1.1
  have tv69_1 := tv_mono hx67.1 hR.2.1.2.1.2
  have tv69_2 := tv_mono hx67.1 hy
  have Z70 : fz (fun y => tcs a ca ba da y ∨ y = m) B B67 := fz_trans (fz_rfl _ B) (fz_mono (fun _ q => Or.inl q) hz67)
  show bm_G _ _ _ 24 _ [.int r67] B67 _
  refine g_ist (pc' := 26) cd_Me_nextPost rfl (Or.inl ⟨rfl, rfl⟩) (by decide) rfl (fun lv el => ?_)
  have l0 := tm_lk el l0 rfl (by decide)
  have l1 := tm_lk el l1 rfl (by decide)
  have l2 := tm_lk el l2 rfl (by decide)
  have l3 := tm_lk el l3 rfl (by decide)
  have l4 := tm_lk el l4 rfl (by decide)
  have l5 : lv.lookup 5 = some (.int r67) := tm_lks el
  clear el
  refine g_ald (pc' := 27) cd_Me_nextPost rfl (Or.inr ⟨_, rfl, rfl, rfl⟩) l1 rfl rfl ?_
  refine g_k2 (v := 6) (pc' := 29) cd_Me_nextPost rfl (by decide) rfl ?_
  refine g_ald (pc' := 30) cd_Me_nextPost rfl (Or.inr ⟨_, rfl, rfl, rfl⟩) l0 rfl rfl ?_
  refine g_fI (c := 5) (k := 6) (x := (bm_FI B 5 6 m)) (pc' := 33) cd_Me_nextPost rfl rfl rfl rfl rfl (by decide) f68_0 g68_0 q68_4 ?_
  refine g_k1 (v := 0) (pc' := 34) cd_Me_nextPost rfl (by decide) rfl ?_
  refine g_calli (pc' := 37) cd_Me_nextPost rfl rfl rfl rfl rfl (tm_invV rfl rfl cd_Te_mix rfl (Nat.le_of_ble_eq_true rfl) (by decide) f68_3 g68_3) (t_mix (n := 6) hT67 (by omega) tv69_0 (TI_z hT67) (fun B71 T71 r71 hx71 ht71 => ?_))
  have hT71 := hx71.2.2.1
  have hl71 := hx71.2.1
  have hf71 := (fz_te hx71.2.2.2).1
  have hz71 := fz_te hx71.2.2.2
  have f72_0 := fr_lt hf71 f68_0
  have g72_0 := (fr_K hf71 f68_0).trans g68_0
  have f72_1 := fr_lt hf71 f68_1
  have g72_1 := (fr_K hf71 f68_1).trans g68_1
  have f72_2 := fr_lt hf71 f68_2
  have g72_2 := (fr_K hf71 f68_2).trans g68_2
  have f72_3 := fr_lt hf71 f68_3
  have g72_3 := (fr_K hf71 f68_3).trans g68_3
  have q72_0 : bm_FI B71 5 2 m = ve := (fr_FI hf71 f68_0 (hn _ (by omega) (by omega)) 5 2).trans q68_0
  have q72_1 : bm_FI B71 5 3 m = ma := (fr_FI hf71 f68_0 (hn _ (by omega) (by omega)) 5 3).trans q68_1
  have q72_2 : bm_FI B71 5 4 m = go := (fr_FI hf71 f68_0 (hn _ (by omega) (by omega)) 5 4).trans q68_2
  have q72_3 : bm_FI B71 5 5 m = ge := (fr_FI hf71 f68_0 (hn _ (by omega) (by omega)) 5 5).trans q68_3
  have q72_4 : bm_FI B71 5 6 m = (bm_FI B 5 6 m) := (fr_FI hf71 f68_0 (hn _ (by omega) (by omega)) 5 6).trans q68_4
  have q72_5 : bm_FI B71 5 7 m = (bm_FI B 5 7 m) := (fr_FI hf71 f68_0 (hn _ (by omega) (by omega)) 5 7).trans q68_5
  have q72_6 : bm_FI B71 5 8 m = ix := (fr_FI hf71 f68_0 (hn _ (by omega) (by omega)) 5 8).trans q68_6
  have q72_7 : bm_FI B71 5 9 m = ga := (fr_FI hf71 f68_0 (hn _ (by omega) (by omega)) 5 9).trans q68_7
  have q72_8 : bm_FI B71 5 10 m = bz sl := (fr_FI hf71 f68_0 (hn _ (by omega) (by omega)) 5 10).trans q68_8
  have r72_0 : bm_FR B71 5 0 m = some (m + 1) := (fr_FR hf71 f68_0 (hn _ (by omega) (by omega)) 5 0).trans r68_0
  have r72_1 : bm_FR B71 5 1 m = some (m + 2) := (fr_FR hf71 f68_0 (hn _ (by omega) (by omega)) 5 1).trans r68_1
  have w72_0 : bm_AL B71 (m + 1) = 6 := (fr_AL hf71 f68_1).trans w68_0
  have w72_1 : bm_AL B71 (m + 2) = 12 := (fr_AL hf71 f68_2).trans w68_1
  have tv73_0 := tv_mono hx71.1 tv69_0
  have tv73_1 := tv_mono hx71.1 tv69_1
  have tv73_2 := tv_mono hx71.1 tv69_2
  have tv73_3 := tv_mono hx71.1 ht67
  have Z74 : fz (fun y => tcs a ca ba da y ∨ y = m) B B71 := fz_trans Z70 (fz_mono (fun _ q => Or.inl q) hz71)
  show bm_G _ _ _ 37 _ [.int r71] B71 _
  refine g_ist (pc' := 39) cd_Me_nextPost rfl (Or.inl ⟨rfl, rfl⟩) (by decide) rfl (fun lv el => ?_)
  have l0 := tm_lk el l0 rfl (by decide)
  have l1 := tm_lk el l1 rfl (by decide)
  have l2 := tm_lk el l2 rfl (by decide)
  have l3 := tm_lk el l3 rfl (by decide)
  have l4 := tm_lk el l4 rfl (by decide)
  have l5 := tm_lk el l5 rfl (by decide)
  have l6 : lv.lookup 6 = some (.int r71) := tm_lks el
  clear el
  refine g_ald (pc' := 40) cd_Me_nextPost rfl (Or.inr ⟨_, rfl, rfl, rfl⟩) l0 rfl rfl ?_
  refine g_ald (pc' := 41) cd_Me_nextPost rfl (Or.inr ⟨_, rfl, rfl, rfl⟩) l1 rfl rfl ?_
  refine g_k2 (v := 7) (pc' := 43) cd_Me_nextPost rfl (by decide) rfl ?_
  refine g_ald (pc' := 44) cd_Me_nextPost rfl (Or.inr ⟨_, rfl, rfl, rfl⟩) l0 rfl rfl ?_
  refine g_fI (c := 5) (k := 6) (x := (bm_FI B 5 6 m)) (pc' := 47) cd_Me_nextPost rfl rfl rfl rfl rfl (by decide) f72_0 g72_0 q72_4 ?_
  refine g_k1 (v := 0) (pc' := 48) cd_Me_nextPost rfl (by decide) rfl ?_
  refine g_calli (pc' := 51) cd_Me_nextPost rfl rfl rfl rfl rfl (tm_invV rfl rfl cd_Te_mix rfl (Nat.le_of_ble_eq_true rfl) (by decide) f72_3 g72_3) (t_mix (n := 7) hT71 (by omega) tv73_0 (TI_z hT71) (fun B75 T75 r75 hx75 ht75 => ?_))
  have hT75 := hx75.2.2.1
  have hl75 := hx75.2.1
  have hf75 := (fz_te hx75.2.2.2).1
  have hz75 := fz_te hx75.2.2.2
  have f76_0 := fr_lt hf75 f72_0
  have g76_0 := (fr_K hf75 f72_0).trans g72_0
  have f76_1 := fr_lt hf75 f72_1
  have g76_1 := (fr_K hf75 f72_1).trans g72_1
  have f76_2 := fr_lt hf75 f72_2
  have g76_2 := (fr_K hf75 f72_2).trans g72_2
  have f76_3 := fr_lt hf75 f72_3
  have g76_3 := (fr_K hf75 f72_3).trans g72_3
  have q76_0 : bm_FI B75 5 2 m = ve := (fr_FI hf75 f72_0 (hn _ (by omega) (by omega)) 5 2).trans q72_0
  have q76_1 : bm_FI B75 5 3 m = ma := (fr_FI hf75 f72_0 (hn _ (by omega) (by omega)) 5 3).trans q72_1
  have q76_2 : bm_FI B75 5 4 m = go := (fr_FI hf75 f72_0 (hn _ (by omega) (by omega)) 5 4).trans q72_2
  have q76_3 : bm_FI B75 5 5 m = ge := (fr_FI hf75 f72_0 (hn _ (by omega) (by omega)) 5 5).trans q72_3
  have q76_4 : bm_FI B75 5 6 m = (bm_FI B 5 6 m) := (fr_FI hf75 f72_0 (hn _ (by omega) (by omega)) 5 6).trans q72_4
  have q76_5 : bm_FI B75 5 7 m = (bm_FI B 5 7 m) := (fr_FI hf75 f72_0 (hn _ (by omega) (by omega)) 5 7).trans q72_5
  have q76_6 : bm_FI B75 5 8 m = ix := (fr_FI hf75 f72_0 (hn _ (by omega) (by omega)) 5 8).trans q72_6
  have q76_7 : bm_FI B75 5 9 m = ga := (fr_FI hf75 f72_0 (hn _ (by omega) (by omega)) 5 9).trans q72_7
  have q76_8 : bm_FI B75 5 10 m = bz sl := (fr_FI hf75 f72_0 (hn _ (by omega) (by omega)) 5 10).trans q72_8
  have r76_0 : bm_FR B75 5 0 m = some (m + 1) := (fr_FR hf75 f72_0 (hn _ (by omega) (by omega)) 5 0).trans r72_0
  have r76_1 : bm_FR B75 5 1 m = some (m + 2) := (fr_FR hf75 f72_0 (hn _ (by omega) (by omega)) 5 1).trans r72_1
  have w76_0 : bm_AL B75 (m + 1) = 6 := (fr_AL hf75 f72_1).trans w72_0
  have w76_1 : bm_AL B75 (m + 2) = 12 := (fr_AL hf75 f72_2).trans w72_1
  have tv77_0 := tv_mono hx75.1 tv73_0
  have tv77_1 := tv_mono hx75.1 tv73_1
  have tv77_2 := tv_mono hx75.1 tv73_2
  have tv77_3 := tv_mono hx75.1 tv73_3
  have tv77_4 := tv_mono hx75.1 ht71
  have Z78 : fz (fun y => tcs a ca ba da y ∨ y = m) B B75 := fz_trans Z74 (fz_mono (fun _ q => Or.inl q) hz75)
  show bm_G _ _ _ 51 _ [.int r75, .ref m] B75 _
  refine g_putI (c := 5) (k := 6) (pc' := 54) cd_Me_nextPost rfl rfl rfl rfl (by simp [tm_okV, narrow, fits]) (Or.inl rfl) rfl (by decide) f76_0 g76_0 ?_
  have P79 : bm_FI (bm_putI B75 5 6 m r75) 5 6 m = r75 := if_pos ⟨rfl, rfl, rfl⟩
  have Z80 : fz (fun y => tcs a ca ba da y ∨ y = m) B (bm_putI B75 5 6 m r75) := fz_trans Z78 ⟨fr_mono (fun _ q => Or.inr q) (fr_putI _ 5 6 m _), rfl, rfl⟩
  refine g_ald (pc' := 55) cd_Me_nextPost rfl (Or.inr ⟨_, rfl, rfl, rfl⟩) l0 rfl rfl ?_
  refine g_pure (pc' := 56) (st' := [.ref m, .ref m]) cd_Me_nextPost rfl rfl (fun _ _ => rfl) ?_
  refine g_fI (c := 5) (k := 8) (x := ix) (pc' := 59) cd_Me_nextPost rfl rfl rfl rfl rfl (by decide) f76_0 g76_0 q76_6 ?_
  refine g_k1 (v := 1) (pc' := 60) cd_Me_nextPost rfl (by decide) rfl ?_
  refine g_pure (pc' := 61) (st' := [.int (ix + 1), .ref m]) cd_Me_nextPost rfl rfl (fun _ _ => rfl) ?_
  refine g_putI (c := 5) (k := 8) (pc' := 64) cd_Me_nextPost rfl rfl rfl rfl (by simp [tm_okV, narrow, fits]) (Or.inl rfl) rfl (by decide) f76_0 g76_0 ?_
  have P81 : bm_FI (bm_putI (bm_putI B75 5 6 m r75) 5 8 m (ix + 1)) 5 8 m = ix + 1 := if_pos ⟨rfl, rfl, rfl⟩
  have Z82 : fz (fun y => tcs a ca ba da y ∨ y = m) B (bm_putI (bm_putI B75 5 6 m r75) 5 8 m (ix + 1)) := fz_trans Z80 ⟨fr_mono (fun _ q => Or.inr q) (fr_putI _ 5 8 m _), rfl, rfl⟩
  refine g_ald (pc' := 65) cd_Me_nextPost rfl (Or.inr ⟨_, rfl, rfl, rfl⟩) l1 rfl rfl ?_
  refine g_ald (pc' := 66) cd_Me_nextPost rfl (Or.inr ⟨_, rfl, rfl, rfl⟩) l0 rfl rfl ?_
  refine g_fI (c := 5) (k := 7) (x := (bm_FI B 5 7 m)) (pc' := 69) cd_Me_nextPost rfl rfl rfl rfl rfl (by decide) f76_0 g76_0 q76_5 ?_
  refine g_ald (pc' := 70) cd_Me_nextPost rfl (Or.inr ⟨_, rfl, rfl, rfl⟩) l1 rfl rfl ?_
  refine g_ild (pc' := 72) cd_Me_nextPost rfl (Or.inl ⟨rfl, rfl⟩) l6 rfl ?_
  refine g_ild (pc' := 74) cd_Me_nextPost rfl (Or.inl ⟨rfl, rfl⟩) l5 rfl ?_
  refine g_ild (pc' := 76) cd_Me_nextPost rfl (Or.inl ⟨rfl, rfl⟩) l4 rfl ?_
  have hT83 : TI (bm_putI (bm_putI B75 5 6 m r75) 5 8 m (ix + 1)) a ca ba da rm dr T75 := TI_fr (X := fun y => y = m) hT75 (fr_trans (fr_putI _ 5 6 m _) (fr_putI _ 5 8 m _)) (fun q => hn _ (by omega) (by omega) (Or.inl rfl)) (fun q => hn _ (by omega) (by omega) (Or.inr (Or.inl rfl))) (fun q => hn _ (by omega) (by omega) (Or.inr (Or.inr (Or.inl rfl))))
  refine g_calli (pc' := 79) cd_Me_nextPost rfl rfl rfl rfl rfl (tm_invV rfl rfl cd_Te_sealed rfl (Nat.le_of_ble_eq_true rfl) (by decide) f76_3 g76_3) (t_sealed hT83 (by omega) tv77_4 tv77_3 tv77_2 (fun B84 T84 r84 hx84 ht84 => ?_))
  have hT84 := hx84.2.2.1
  have hl84 := hx84.2.1
  have hf84 := (fz_te hx84.2.2.2).1
  have hz84 := fz_te hx84.2.2.2
  have f85_0 := fr_lt hf84 f76_0
  have g85_0 := (fr_K hf84 f76_0).trans g76_0
  have f85_1 := fr_lt hf84 f76_1
  have g85_1 := (fr_K hf84 f76_1).trans g76_1
  have f85_2 := fr_lt hf84 f76_2
  have g85_2 := (fr_K hf84 f76_2).trans g76_2
  have f85_3 := fr_lt hf84 f76_3
  have g85_3 := (fr_K hf84 f76_3).trans g76_3
  have q85_0 : bm_FI B84 5 2 m = ve := (fr_FI hf84 f76_0 (hn _ (by omega) (by omega)) 5 2).trans q76_0
  have q85_1 : bm_FI B84 5 3 m = ma := (fr_FI hf84 f76_0 (hn _ (by omega) (by omega)) 5 3).trans q76_1
  have q85_2 : bm_FI B84 5 4 m = go := (fr_FI hf84 f76_0 (hn _ (by omega) (by omega)) 5 4).trans q76_2
  have q85_3 : bm_FI B84 5 5 m = ge := (fr_FI hf84 f76_0 (hn _ (by omega) (by omega)) 5 5).trans q76_3
  have q85_4 : bm_FI B84 5 6 m = r75 := (fr_FI hf84 f76_0 (hn _ (by omega) (by omega)) 5 6).trans P79
  have q85_5 : bm_FI B84 5 7 m = (bm_FI B 5 7 m) := (fr_FI hf84 f76_0 (hn _ (by omega) (by omega)) 5 7).trans q76_5
  have q85_6 : bm_FI B84 5 8 m = ix + 1 := (fr_FI hf84 f76_0 (hn _ (by omega) (by omega)) 5 8).trans P81
  have q85_7 : bm_FI B84 5 9 m = ga := (fr_FI hf84 f76_0 (hn _ (by omega) (by omega)) 5 9).trans q76_7
  have q85_8 : bm_FI B84 5 10 m = bz sl := (fr_FI hf84 f76_0 (hn _ (by omega) (by omega)) 5 10).trans q76_8
  have r85_0 : bm_FR B84 5 0 m = some (m + 1) := (fr_FR hf84 f76_0 (hn _ (by omega) (by omega)) 5 0).trans r76_0
  have r85_1 : bm_FR B84 5 1 m = some (m + 2) := (fr_FR hf84 f76_0 (hn _ (by omega) (by omega)) 5 1).trans r76_1
  have w85_0 : bm_AL B84 (m + 1) = 6 := (fr_AL hf84 f76_1).trans w76_0
  have w85_1 : bm_AL B84 (m + 2) = 12 := (fr_AL hf84 f76_2).trans w76_1
  have tv86_0 := tv_mono hx84.1 tv77_0
  have tv86_1 := tv_mono hx84.1 tv77_1
  have tv86_2 := tv_mono hx84.1 tv77_2
  have tv86_3 := tv_mono hx84.1 tv77_3
  have tv86_4 := tv_mono hx84.1 tv77_4
  have tv86_5 := tv_mono hx84.1 ht75
  have Z87 : fz (fun y => tcs a ca ba da y ∨ y = m) B B84 := fz_trans Z82 (fz_mono (fun _ q => Or.inl q) hz84)
  show bm_G _ _ _ 79 _ [.int r84, .int ((bm_FI B 5 7 m)), .ref a] B84 _
  refine g_calli (pc' := 82) cd_Me_nextPost rfl rfl rfl rfl rfl (tm_invV rfl rfl cd_Te_signed rfl (Nat.le_of_ble_eq_true rfl) (by decide) f85_3 g85_3) (t_signed hT84 (by omega) tv86_1 ht84 (fun B88 T88 r88 hx88 ht88 => ?_))
  have hT88 := hx88.2.2.1
  have hl88 := hx88.2.1
  have hf88 := (fz_te hx88.2.2.2).1
  have hz88 := fz_te hx88.2.2.2
  have f89_0 := fr_lt hf88 f85_0
  have g89_0 := (fr_K hf88 f85_0).trans g85_0
  have f89_1 := fr_lt hf88 f85_1
  have g89_1 := (fr_K hf88 f85_1).trans g85_1
  have f89_2 := fr_lt hf88 f85_2
  have g89_2 := (fr_K hf88 f85_2).trans g85_2
  have f89_3 := fr_lt hf88 f85_3
  have g89_3 := (fr_K hf88 f85_3).trans g85_3
  have q89_0 : bm_FI B88 5 2 m = ve := (fr_FI hf88 f85_0 (hn _ (by omega) (by omega)) 5 2).trans q85_0
  have q89_1 : bm_FI B88 5 3 m = ma := (fr_FI hf88 f85_0 (hn _ (by omega) (by omega)) 5 3).trans q85_1
  have q89_2 : bm_FI B88 5 4 m = go := (fr_FI hf88 f85_0 (hn _ (by omega) (by omega)) 5 4).trans q85_2
  have q89_3 : bm_FI B88 5 5 m = ge := (fr_FI hf88 f85_0 (hn _ (by omega) (by omega)) 5 5).trans q85_3
  have q89_4 : bm_FI B88 5 6 m = r75 := (fr_FI hf88 f85_0 (hn _ (by omega) (by omega)) 5 6).trans q85_4
  have q89_5 : bm_FI B88 5 7 m = (bm_FI B 5 7 m) := (fr_FI hf88 f85_0 (hn _ (by omega) (by omega)) 5 7).trans q85_5
  have q89_6 : bm_FI B88 5 8 m = ix + 1 := (fr_FI hf88 f85_0 (hn _ (by omega) (by omega)) 5 8).trans q85_6
  have q89_7 : bm_FI B88 5 9 m = ga := (fr_FI hf88 f85_0 (hn _ (by omega) (by omega)) 5 9).trans q85_7
  have q89_8 : bm_FI B88 5 10 m = bz sl := (fr_FI hf88 f85_0 (hn _ (by omega) (by omega)) 5 10).trans q85_8
  have r89_0 : bm_FR B88 5 0 m = some (m + 1) := (fr_FR hf88 f85_0 (hn _ (by omega) (by omega)) 5 0).trans r85_0
  have r89_1 : bm_FR B88 5 1 m = some (m + 2) := (fr_FR hf88 f85_0 (hn _ (by omega) (by omega)) 5 1).trans r85_1
  have w89_0 : bm_AL B88 (m + 1) = 6 := (fr_AL hf88 f85_1).trans w85_0
  have w89_1 : bm_AL B88 (m + 2) = 12 := (fr_AL hf88 f85_2).trans w85_1
  have tv90_0 := tv_mono hx88.1 tv86_0
  have tv90_1 := tv_mono hx88.1 tv86_1
  have tv90_2 := tv_mono hx88.1 tv86_2
  have tv90_3 := tv_mono hx88.1 tv86_3
  have tv90_4 := tv_mono hx88.1 tv86_4
  have tv90_5 := tv_mono hx88.1 tv86_5
  have tv90_6 := tv_mono hx88.1 ht84
  have Z91 : fz (fun y => tcs a ca ba da y ∨ y = m) B B88 := fz_trans Z87 (fz_mono (fun _ q => Or.inl q) hz88)
  show bm_G _ _ _ 82 _ [.int r88] B88 _
  exact g_reti cd_Me_nextPost rfl ⟨_, rfl, (kk _ _ _ ((((hx67.1.trans hx71.1).trans hx75.1).trans hx84.1).trans hx88.1) (by omega) hT88 ht88 ⟨MeS_fr hR.1 Z91.1, ⟨⟨q89_0, q89_1, q89_2, q89_3⟩, ⟨tvq q89_4 tv90_5, tvq q89_5 tv90_1⟩, q89_6, q89_7, q89_8⟩, fun q hq => RGs_fr hR.1 hq (hR.2.2 q hq) Z91.1 (fun q => q.elim (hn _ (by omega) (by omega)) (by omega)) (fun q => q.elim (hn _ (by omega) (by omega)) (by omega)) (fun k y hk a b q => by have := gA_in m w hq hk; exact q.elim (hn _ (by omega) (by omega)) (by omega)) ((((hx67.1.trans hx71.1).trans hx75.1).trans hx84.1).trans hx88.1)⟩ Z91)⟩
