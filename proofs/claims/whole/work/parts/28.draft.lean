/-! Arrays.fill; Terms.startDraft -/
theorem bm_allI_id (B : bm_H) (a : Nat) (f : Nat → Int32) (h : ∀ q, f q = bm_AI B a q) : bm_allI B a f = B := by
  have e : bm_row (bm_AI B) a f = bm_AI B := by
    funext x q
    unfold bm_row
    by_cases hx : x = a
    · subst hx; rw [if_pos rfl, h]
    · rw [if_neg hx]
  unfold bm_allI
  rw [e]
theorem bm_setI_allI (B : bm_H) (a k : Nat) (x : Int32) (f g : Nat → Int32) (h : ∀ q, g q = if q = k then x else f q) : bm_setI (bm_allI B a f) a k x = bm_allI B a g := by
  have e : bm_up2 (bm_row (bm_AI B) a f) a k x = bm_row (bm_AI B) a g := by
    funext y q
    unfold bm_up2 bm_row
    by_cases hy : y = a
    · subst hy
      rw [if_pos rfl, if_pos rfl, h]
      by_cases hq : q = k
      · rw [if_pos ⟨rfl, hq⟩, if_pos hq]
      · rw [if_neg (fun w => hq w.2), if_neg hq]
    · rw [if_neg hy, if_neg hy, if_neg (fun w => hy w.1)]
  unfold bm_setI bm_allI
  exact congrArg (fun z => (bm_n B, bm_sl B, bm_K B, bm_FI B, bm_FR B, bm_AL B, z, bm_AR B)) e
theorem bm_setI_one (B : bm_H) (a k : Nat) (x : Int32) : bm_setI B a k x = bm_allI B a (fun q => if q = k then x else bm_AI B a q) := by
  have := bm_setI_allI B a k x (bm_AI B a) (fun q => if q = k then x else bm_AI B a q) (fun q => rfl)
  rw [bm_allI_id B a (bm_AI B a) (fun _ => rfl)] at this
  exact this
theorem bm_allI_allI (B : bm_H) (a : Nat) (f g : Nat → Int32) : bm_allI (bm_allI B a f) a g = bm_allI B a g := by
  have e : bm_row (bm_row (bm_AI B) a f) a g = bm_row (bm_AI B) a g := by
    funext y q
    unfold bm_row
    by_cases hy : y = a
    · rw [if_pos hy, if_pos hy]
    · rw [if_neg hy, if_neg hy, if_neg hy]
  unfold bm_allI
  exact congrArg (fun z => (bm_n B, bm_sl B, bm_K B, bm_FI B, bm_FR B, bm_AL B, z, bm_AR B)) e

set_option maxRecDepth 100000 in
theorem l_Ar_fill {sc : tm_X} {d : Nat} {B : bm_H} {a : Nat} {v : Int32} {Q : Option Value → bm_H → Prop} (ha : a < bm_n B) (hK : bm_K B a = 13) (hL : bm_AL B a < 2 ^ 31) (kk : Q none (bm_allI B a (fun q => if q < bm_AL B a then v else bm_AI B a q))) : ∀ (m k : Nat), k + m = bm_AL B a → ∀ lv : tm_L, lv.lookup 0 = some (.ref a) → lv.lookup 1 = some (.int v) → lv.lookup 2 = some (.int (nI k)) → lv.lookup 3 = some (.int (nI (bm_AL B a))) → bm_G sc d 6 5 lv [] (bm_allI B a (fun q => if q < k then v else bm_AI B a q)) Q := by
  intro m
  induction m with
  | zero =>
    intro k hk lv l0 l1 l2 l3
    have hk : k = bm_AL B a := by omega
    refine g_ild (pc' := 6) cd_Ar_fill rfl (Or.inr ⟨_, rfl, rfl, rfl⟩) l2 rfl ?_
    refine g_ild (pc' := 7) cd_Ar_fill rfl (Or.inr ⟨_, rfl, rfl, rfl⟩) l3 rfl ?_
    refine g_if2 (t := 20) (pc' := 10) cd_Ar_fill rfl rfl rfl (fun c7 => ?_) (fun c7 => ?_)
    · have c7 : (nI (bm_AL B a)) ≤ (nI k) := c7
      exact g_retv cd_Ar_fill rfl (by rw [hk]; exact kk)
    · have c7 : ¬ (nI (bm_AL B a)) ≤ (nI k) := c7
      exact absurd (by rw [hk]; exact Int32.le_refl _) c7
  | succ m ih =>
    intro k hk lv l0 l1 l2 l3
    refine g_ild (pc' := 6) cd_Ar_fill rfl (Or.inr ⟨_, rfl, rfl, rfl⟩) l2 rfl ?_
    refine g_ild (pc' := 7) cd_Ar_fill rfl (Or.inr ⟨_, rfl, rfl, rfl⟩) l3 rfl ?_
    refine g_if2 (t := 20) (pc' := 10) cd_Ar_fill rfl rfl rfl (fun c7 => ?_) (fun c7 => ?_)
    · have c7 : (nI (bm_AL B a)) ≤ (nI k) := c7
      exact absurd c7 (fun q => Nat.not_le_of_lt (show k < bm_AL B a by omega) ((nI_leI hL (by omega)).mp q))
    · have c7 : ¬ (nI (bm_AL B a)) ≤ (nI k) := c7
      refine g_ald (pc' := 11) cd_Ar_fill rfl (Or.inr ⟨_, rfl, rfl, rfl⟩) l0 rfl rfl ?_
      refine g_ild (pc' := 12) cd_Ar_fill rfl (Or.inr ⟨_, rfl, rfl, rfl⟩) l2 rfl ?_
      refine g_ild (pc' := 13) cd_Ar_fill rfl (Or.inr ⟨_, rfl, rfl, rfl⟩) l1 rfl ?_
      refine g_iast (pc' := 14) cd_Ar_fill rfl rfl ha hK (by show vp_in (nI k) (bm_AL B a); exact vp_in_nI (by omega) hL) ?_
      rw [nI_clamp (by omega), bm_setI_allI B a k v _ (fun q => if q < k + 1 then v else bm_AI B a q) (fun q => by by_cases h1 : q = k <;> by_cases h2 : q < k <;> simp [h1, h2] <;> omega)]
      refine g_inc (y := nI (k + 1)) (pc' := 17) cd_Ar_fill rfl l2 (by decide) (nI_1 k) rfl (fun lv el => ?_)
      have l0 := tm_lk el l0 rfl (by decide)
      have l1 := tm_lk el l1 rfl (by decide)
      have l3 := tm_lk el l3 rfl (by decide)
      have l2 := tm_lks el
      clear el
      refine g_pure (pc' := 5) (st' := []) cd_Ar_fill rfl rfl (fun _ _ => rfl) ?_
      exact ih (k + 1) (by omega) lv l0 l1 l2 l3
set_option maxRecDepth 100000 in
theorem k_Ar_fill {sc : tm_X} {d : Nat} {B : bm_H} {a : Nat} {v : Int32} {Q : bm_H → Prop} (ha : a < bm_n B) (hK : bm_K B a = 13) (hL : bm_AL B a < 2 ^ 31) (kk : Q (bm_allI B a (fun q => if q < bm_AL B a then v else bm_AI B a q))) : bm_Gv sc d 6 [.ref a, .int v] B Q := by
  show bm_G sc d 6 0 [(0, .ref a), (1, .int v)] [] B _
  generalize elv : ([(0, .ref a), (1, .int v)] : tm_L) = lv
  have l0 : lv.lookup 0 = some (.ref a) := by rw [← elv]; rfl
  have l1 : lv.lookup 1 = some (.int v) := by rw [← elv]; rfl
  clear elv
  refine g_k1 (v := 0) (pc' := 1) cd_Ar_fill rfl (by decide) rfl ?_
  refine g_ist (pc' := 2) cd_Ar_fill rfl (Or.inr ⟨_, rfl, rfl, rfl⟩) (by decide) rfl (fun lv el => ?_)
  have l0 := tm_lk el l0 rfl (by decide)
  have l1 := tm_lk el l1 rfl (by decide)
  have l2 := tm_lks el
  clear el
  refine g_ald (pc' := 3) cd_Ar_fill rfl (Or.inr ⟨_, rfl, rfl, rfl⟩) l0 rfl rfl ?_
  refine g_alen (pc' := 4) cd_Ar_fill rfl rfl ha (Nat.le_of_eq (Eq.symm hK)) (by rw [show bm_K B a = 13 from hK]; decide) ?_
  refine g_ist (pc' := 5) cd_Ar_fill rfl (Or.inr ⟨_, rfl, rfl, rfl⟩) (by decide) rfl (fun lv el => ?_)
  have l0 := tm_lk el l0 rfl (by decide)
  have l1 := tm_lk el l1 rfl (by decide)
  have l2 := tm_lk el l2 rfl (by decide)
  have l3 := tm_lks el
  clear el
  have e0 := bm_allI_id B a (fun q => if q < 0 then v else bm_AI B a q) (fun q => by simp)
  have key := l_Ar_fill (sc := sc) (d := d) (Q := fun r B' => r = none ∧ Q B') ha hK hL ⟨rfl, kk⟩ (bm_AL B a) 0 (by omega) lv l0 l1 l2 l3
  rw [e0] at key
  exact key
/-- the draft's row -/
def te_dr (k m : Int32) : Nat → Int32 := fun q => if q = 0 then k else if q = 1 then m else 0
/-- Terms with another draft -/
def te_dset (B : bm_H) (da : Nat) (f : Nat → Int32) : bm_H := bm_allI B da (fun q => if q < 10 then f q else bm_AI B da q)
theorem te_dset_set {B : bm_H} {da k : Nat} {f : Nat → Int32} {x : Int32} (hk : k < 10) : bm_setI (te_dset B da f) da k x = te_dset B da (upd f k x) := by
  unfold te_dset
  refine bm_setI_allI B da k x _ _ (fun q => ?_)
  by_cases h1 : q = k
  · subst h1; simp [hk, upd]
  · simp [h1, upd]
theorem te_dset_dset {B : bm_H} {da : Nat} {f g : Nat → Int32} : te_dset (te_dset B da f) da g = te_dset B da g := by
  unfold te_dset
  rw [bm_allI_allI]
  congr 1
  funext q
  by_cases h1 : q < 10
  · simp [h1]
  · simp [h1, bm_allI, bm_row, bm_AI]
theorem te_dset_congr {B : bm_H} {da : Nat} {f g : Nat → Int32} (h : ∀ q, q < 10 → f q = g q) : te_dset B da f = te_dset B da g := by
  unfold te_dset
  congr 1
  funext q
  by_cases h1 : q < 10
  · simp [h1, h q h1]
  · simp [h1]

set_option maxRecDepth 100000 in
theorem k_Te_startDraft {sc : tm_X} {d : Nat} {B : bm_H} {a ca ba da rm sz dr : Nat} {k m : Int32} {Q : bm_H → Prop} (hT : te_ok B a ca ba da rm sz dr) (kk : Q (te_dset B da (te_dr k m))) : bm_Gv sc (d + 1) 14 [.ref a, .int k, .int m] B Q := by
  show bm_G sc (d + 1) 14 0 [(0, .ref a), (1, .int k), (2, .int m)] [] B _
  generalize elv : ([(0, .ref a), (1, .int k), (2, .int m)] : tm_L) = lv
  have l0 : lv.lookup 0 = some (.ref a) := by rw [← elv]; rfl
  have l1 : lv.lookup 1 = some (.int k) := by rw [← elv]; rfl
  have l2 : lv.lookup 2 = some (.int m) := by rw [← elv]; rfl
  clear elv
  refine g_ald (pc' := 1) cd_Te_startDraft rfl (Or.inr ⟨_, rfl, rfl, rfl⟩) l0 rfl rfl ?_
  refine g_fR (c := 9) (k := 2) (x := da) (pc' := 4) cd_Te_startDraft rfl rfl rfl rfl rfl (by decide) hT.1.1 hT.1.2 hT.2.1.2.2 ?_
  refine g_k1 (v := 0) (pc' := 5) cd_Te_startDraft rfl (by decide) rfl ?_
  refine g_callv (pc' := 8) cd_Te_startDraft rfl rfl rfl rfl rfl (tm_invS rfl rfl cd_Ar_fill rfl (Nat.le_of_ble_eq_true rfl)) (k_Ar_fill hT.2.2.1.2.2.1 hT.2.2.1.2.2.2.1 (by rw [hT.2.2.1.2.2.2.2]; decide) ?_)
  rw [show bm_AL B da = 10 from hT.2.2.1.2.2.2.2]
  show bm_G _ _ _ 8 _ [] (te_dset B da (fun _ => 0)) _
  refine g_ald (pc' := 9) cd_Te_startDraft rfl (Or.inr ⟨_, rfl, rfl, rfl⟩) l0 rfl rfl ?_
  refine g_fR (c := 9) (k := 2) (x := da) (pc' := 12) cd_Te_startDraft rfl rfl rfl rfl rfl (by decide) hT.1.1 hT.1.2 hT.2.1.2.2 ?_
  refine g_k1 (v := 0) (pc' := 13) cd_Te_startDraft rfl (by decide) rfl ?_
  refine g_ild (pc' := 14) cd_Te_startDraft rfl (Or.inr ⟨_, rfl, rfl, rfl⟩) l1 rfl ?_
  refine g_iast (pc' := 15) cd_Te_startDraft rfl rfl hT.2.2.1.2.2.1 hT.2.2.1.2.2.2.1 (by show vp_in (nI 0) (bm_AL B da); rw [hT.2.2.1.2.2.2.2]; exact vp_in_nI (by decide) (by decide)) ?_
  rw [show (0 : Int32).toNatClampNeg = 0 from rfl, te_dset_set (by decide)]
  refine g_ald (pc' := 16) cd_Te_startDraft rfl (Or.inr ⟨_, rfl, rfl, rfl⟩) l0 rfl rfl ?_
  refine g_fR (c := 9) (k := 2) (x := da) (pc' := 19) cd_Te_startDraft rfl rfl rfl rfl rfl (by decide) hT.1.1 hT.1.2 hT.2.1.2.2 ?_
  refine g_k1 (v := 1) (pc' := 20) cd_Te_startDraft rfl (by decide) rfl ?_
  refine g_ild (pc' := 21) cd_Te_startDraft rfl (Or.inr ⟨_, rfl, rfl, rfl⟩) l2 rfl ?_
  refine g_iast (pc' := 22) cd_Te_startDraft rfl rfl hT.2.2.1.2.2.1 hT.2.2.1.2.2.2.1 (by show vp_in (nI 1) (bm_AL B da); rw [hT.2.2.1.2.2.2.2]; exact vp_in_nI (by decide) (by decide)) ?_
  rw [show (1 : Int32).toNatClampNeg = 1 from rfl, te_dset_set (by decide)]
  exact g_retv cd_Te_startDraft rfl ⟨rfl, (by rw [te_dset_congr (g := te_dr k m) (fun q _ => by by_cases h0 : q = 0 <;> by_cases h1 : q = 1 <;> simp [upd, te_dr, h0, h1])]; exact kk)⟩
