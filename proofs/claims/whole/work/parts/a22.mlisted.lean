/-! The reference: listed -/
theorem and1 (x : Int32) : x &&& 1 = 0 ∨ x &&& 1 = 1 := by
  have e : (x.toBitVec &&& 1#32).toNat = x.toBitVec.toNat % 2 := by rw [BitVec.toNat_and]; exact Nat.and_one_is_mod _
  rcases Nat.mod_two_eq_zero_or_one x.toBitVec.toNat with h | h
  · left; apply Int32.toBitVec_inj.mp; apply BitVec.eq_of_toNat_eq; show (x.toBitVec &&& 1#32).toNat = 0; rw [e, h]
  · right; apply Int32.toBitVec_inj.mp; apply BitVec.eq_of_toNat_eq; show (x.toBitVec &&& 1#32).toNat = 1; rw [e, h]
theorem hbit_1 {m i : Int32} (h : (m >>> (i &&& 31)) &&& 1 = 1) : hbit m i = true := hbit_t (fun q => absurd (q.symm.trans h) (by decide))
theorem hbit_0 {m i : Int32} (h : ¬ (m >>> (i &&& 31)) &&& 1 = 1) : hbit m i = false := hbit_f ((and1 _).elim (fun z => z) (fun q => absurd q h))
def gcl (w : Nat → Int32) (a : Nat) (L : Int32) (q : Nat) : Nat → Int32 := fun j => if (a + 9 ≤ j ∧ j < a + 9 + q) ∧ hbit L (nI (j - (a + 9))) = true then 0 else w j
theorem gcl_0 (w : Nat → Int32) (a : Nat) (L : Int32) : gcl w a L 0 = w := funext fun j => if_neg (by omega)
theorem gcl_t {w : Nat → Int32} {a : Nat} {L : Int32} {q : Nat} (h : hbit L (nI q) = true) : upd (gcl w a L q) (a + 9 + q) 0 = gcl w a L (q + 1) := funext fun j => by
  by_cases c : j = a + 9 + q
  · rw [c, upd_same]; unfold gcl; rw [if_pos ⟨by omega, by rw [Nat.add_sub_cancel_left]; exact h⟩]
  · rw [upd_ne c]; unfold gcl
    by_cases c2 : (a + 9 ≤ j ∧ j < a + 9 + q) ∧ hbit L (nI (j - (a + 9))) = true
    · rw [if_pos c2, if_pos ⟨by omega, c2.2⟩]
    · rw [if_neg c2, if_neg (fun k => c2 ⟨by omega, k.2⟩)]
theorem gcl_f {w : Nat → Int32} {a : Nat} {L : Int32} {q : Nat} (h : hbit L (nI q) = false) : gcl w a L q = gcl w a L (q + 1) := funext fun j => by
  unfold gcl
  by_cases c2 : (a + 9 ≤ j ∧ j < a + 9 + q) ∧ hbit L (nI (j - (a + 9))) = true
  · rw [if_pos c2, if_pos ⟨by omega, c2.2⟩]
  · rw [if_neg c2, if_neg (fun k => ?_)]
    by_cases e : j = a + 9 + q
    · rw [e, Nat.add_sub_cancel_left] at k; exact absurd (h.symm.trans k.2) (by decide)
    · exact c2 ⟨by omega, k.2⟩
set_option maxRecDepth 100000 in
theorem l_mlisted {sc : tm_X} {d : Nat} {f : Nat → Int32} {A : Nat → Nat → Int32} {q : Nat} {v k L : Int32} {w : Nat → Int32} {Q : Option Value → MS → Prop} (hq : q < 4) (kk : ∀ lv : tm_L, lv.lookup 0 = some (.ref 1482) → lv.lookup 1 = some (.int (nI q)) → lv.lookup 2 = some (.int v) → lv.lookup 3 = some (.int k) → lv.lookup 4 = some (.int (nI (486 + q * 279))) → lv.lookup 5 = some (.int L) →  mg sc (d + 1) 227 92 lv [] (f, fset A 15 (gcl w (486 + q * 279) L 6)) Q) : ∀ (r i : Nat), i + r = 6 → ∀ lv : tm_L, lv.lookup 0 = some (.ref 1482) → lv.lookup 1 = some (.int (nI q)) → lv.lookup 2 = some (.int v) → lv.lookup 3 = some (.int k) → lv.lookup 4 = some (.int (nI (486 + q * 279))) → lv.lookup 5 = some (.int L) →  lv.lookup 6 = some (.int (nI i)) → mg sc (d + 1) 227 54 lv [] (f, fset A 15 (gcl w (486 + q * 279) L i)) Q := by
  intro r
  induction r with
  | zero =>
    intro i hi lv l0 l1 l2 l3 l4 l5 l6
    have hi6 : i = 6 := by omega
    subst hi6
    refine m_ild (pc' := 56) cd_Mo_listed rfl (Or.inl ⟨rfl, rfl⟩) l6 rfl ?_
    refine m_k2 (v := 6) (pc' := 58) cd_Mo_listed rfl (by decide) rfl ?_
    refine m_if2 (t := 92) (pc' := 61) cd_Mo_listed rfl rfl rfl (fun c58 => ?_) (fun c58 => ?_)
    · have c58 : (6 : Int32) ≤ (nI 6) := c58
      exact kk lv l0 l1 l2 l3 l4 l5
    · have c58 : ¬ (6 : Int32) ≤ (nI 6) := c58
      exact absurd (show (6 : Int32) ≤ nI 6 from by decide) c58
  | succ r ih =>
    intro i hi lv l0 l1 l2 l3 l4 l5 l6
    refine m_ild (pc' := 56) cd_Mo_listed rfl (Or.inl ⟨rfl, rfl⟩) l6 rfl ?_
    refine m_k2 (v := 6) (pc' := 58) cd_Mo_listed rfl (by decide) rfl ?_
    refine m_if2 (t := 92) (pc' := 61) cd_Mo_listed rfl rfl rfl (fun c58 => ?_) (fun c58 => ?_)
    · have c58 : (6 : Int32) ≤ (nI i) := c58
      exact absurd c58 (nI_ge (b := 6) (by omega) (by decide))
    · have c58 : ¬ (6 : Int32) ≤ (nI i) := c58
      refine m_ild (pc' := 63) cd_Mo_listed rfl (Or.inl ⟨rfl, rfl⟩) l5 rfl ?_
      refine m_ild (pc' := 65) cd_Mo_listed rfl (Or.inl ⟨rfl, rfl⟩) l6 rfl ?_
      refine m_pure (pc' := 66) (st' := [.int (L >>> ((nI i) &&& 31))]) cd_Mo_listed rfl rfl (fun _ _ => rfl) ?_
      refine m_k1 (v := 1) (pc' := 67) cd_Mo_listed rfl (by decide) rfl ?_
      refine m_pure (pc' := 68) (st' := [.int ((L >>> ((nI i) &&& 31)) &&& 1)]) cd_Mo_listed rfl rfl (fun _ _ => rfl) ?_
      refine m_k1 (v := 1) (pc' := 69) cd_Mo_listed rfl (by decide) rfl ?_
      refine m_if2 (t := 86) (pc' := 72) cd_Mo_listed rfl rfl rfl (fun c69 => ?_) (fun c69 => ?_)
      · have c69 : ¬ ((L >>> ((nI i) &&& 31)) &&& 1) = 1 := c69
        refine m_inc (y := nI (i + 1)) (pc' := 89) cd_Mo_listed rfl l6 (by decide) (nI_add i 1) rfl (fun lv el => ?_)
        have l0 := tm_lk el l0 rfl (by decide)
        have l1 := tm_lk el l1 rfl (by decide)
        have l2 := tm_lk el l2 rfl (by decide)
        have l3 := tm_lk el l3 rfl (by decide)
        have l4 := tm_lk el l4 rfl (by decide)
        have l5 := tm_lk el l5 rfl (by decide)
        have l6 : lv.lookup 6 = some (.int (nI (i + 1))) := tm_lks el
        clear el
        refine m_pure (pc' := 54) (st' := []) cd_Mo_listed rfl rfl (fun _ _ => rfl) ?_
        rw [gcl_f (hbit_0 c69)]
        exact ih (i + 1) (by omega) lv l0 l1 l2 l3 l4 l5 l6
      · have c69 : ((L >>> ((nI i) &&& 31)) &&& 1) = 1 := Classical.not_not.mp c69
        refine m_ald (pc' := 73) cd_Mo_listed rfl (Or.inr ⟨_, rfl, rfl, rfl⟩) l0 rfl rfl ?_
        refine m_fR (r := 14) (a := 15) (ad := 1497) (pc' := 76) rfl rfl cd_Mo_listed rfl rfl rfl rfl rfl ?_
        refine m_ild (pc' := 78) cd_Mo_listed rfl (Or.inl ⟨rfl, rfl⟩) l4 rfl ?_
        refine m_k2 (v := 9) (pc' := 80) cd_Mo_listed rfl (by decide) rfl ?_
        refine m_pure (pc' := 81) (st' := [.int ((nI (486 + q * 279)) + 9), .ref 1497]) cd_Mo_listed rfl rfl (fun _ _ => rfl) ?_
        refine m_eq (show ((nI (486 + q * 279)) + 9 : Int32) = nI ((486 + q * 279) + 9) from nI_add (486 + q * 279) 9) ?_
        refine m_ild (pc' := 83) cd_Mo_listed rfl (Or.inl ⟨rfl, rfl⟩) l6 rfl ?_
        refine m_pure (pc' := 84) (st' := [.int ((nI ((486 + q * 279) + 9)) + (nI i)), .ref 1497]) cd_Mo_listed rfl rfl (fun _ _ => rfl) ?_
        refine m_eq (show ((nI ((486 + q * 279) + 9)) + (nI i) : Int32) = nI (((486 + q * 279) + 9) + i) from nI_add ((486 + q * 279) + 9) i) ?_
        refine m_k1 (v := 0) (pc' := 85) cd_Mo_listed rfl (by decide) rfl ?_
        refine m_aS (r := 14) (a := 15) (g := (gcl w (486 + q * 279) L i)) (p := (((486 + q * 279) + 9) + i)) (pc' := 86) rfl rfl cd_Mo_listed rfl rfl rfl (vp_in_nI (by omega) (by decide)) (nI_clamp (by omega)) ?_
        rw [fset_fset]
        refine m_inc (y := nI (i + 1)) (pc' := 89) cd_Mo_listed rfl l6 (by decide) (nI_add i 1) rfl (fun lv el => ?_)
        have l0 := tm_lk el l0 rfl (by decide)
        have l1 := tm_lk el l1 rfl (by decide)
        have l2 := tm_lk el l2 rfl (by decide)
        have l3 := tm_lk el l3 rfl (by decide)
        have l4 := tm_lk el l4 rfl (by decide)
        have l5 := tm_lk el l5 rfl (by decide)
        have l6 : lv.lookup 6 = some (.int (nI (i + 1))) := tm_lks el
        clear el
        refine m_pure (pc' := 54) (st' := []) cd_Mo_listed rfl rfl (fun _ _ => rfl) ?_
        rw [gcl_t (hbit_1 c69)]
        exact ih (i + 1) (by omega) lv l0 l1 l2 l3 l4 l5 l6
