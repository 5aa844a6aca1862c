/-! The reference: listed -/
theorem and1 (x : Int32) : x &&& 1 = 0 ∨ x &&& 1 = 1 := by
  have e : (x.toBitVec &&& 1#32).toNat = x.toBitVec.toNat % 2 := by rw [BitVec.toNat_and]; exact Nat.and_one_is_mod _
  rcases Nat.mod_two_eq_zero_or_one x.toBitVec.toNat with h | h
  · left; apply Int32.toBitVec_inj.mp; apply BitVec.eq_of_toNat_eq; show (x.toBitVec &&& 1#32).toNat = 0; rw [e, h]
  · right; apply Int32.toBitVec_inj.mp; apply BitVec.eq_of_toNat_eq; show (x.toBitVec &&& 1#32).toNat = 1; rw [e, h]
theorem hbit_1 {m i : Int32} (h : (m >>> (i &&& 31)) &&& 1 = 1) : hbit m i = true := hbit_t (fun q => absurd (q.symm.trans h) (by decide))
theorem hbit_0 {m i : Int32} (h : ¬ (m >>> (i &&& 31)) &&& 1 = 1) : hbit m i = false := hbit_f ((and1 _).elim (fun z => z) (fun q => absurd q h))
def gcl (w : Nat → Int32) (a : Nat) (L : Int32) (q : Nat) : Nat → Int32 := fun j => if (a + 9 ≤ j ∧ j < a + 9 + q) ∧ hbit L (nI (j - (a + 9))) = true then 0 else w j
theorem gcl_0 (w : Nat → Int32) (a : Nat) (L : Int32) : gcl w a L 0 = w := funext fun j => if_neg (by omega)
theorem gcl_t {w : Nat → Int32} {a : Nat} {L : Int32} {q : Nat} (h : hbit L (nI q) = true) : upd (gcl w a L q) (a + 9 + q) 0 = gcl w a L (q + 1) := funext fun j => by
  by_cases c : j = a + 9 + q
  · rw [c, upd_same]; unfold gcl; rw [if_pos ⟨by omega, by rw [Nat.add_sub_cancel_left]; exact h⟩]
  · rw [upd_ne c]; unfold gcl
    by_cases c2 : (a + 9 ≤ j ∧ j < a + 9 + q) ∧ hbit L (nI (j - (a + 9))) = true
    · rw [if_pos c2, if_pos ⟨by omega, c2.2⟩]
    · rw [if_neg c2, if_neg (fun k => c2 ⟨by omega, k.2⟩)]
theorem gcl_f {w : Nat → Int32} {a : Nat} {L : Int32} {q : Nat} (h : hbit L (nI q) = false) : gcl w a L q = gcl w a L (q + 1) := funext fun j => by
  unfold gcl
  by_cases c2 : (a + 9 ≤ j ∧ j < a + 9 + q) ∧ hbit L (nI (j - (a + 9))) = true
  · rw [if_pos c2, if_pos ⟨by omega, c2.2⟩]
  · rw [if_neg c2, if_neg (fun k => ?_)]
    by_cases e : j = a + 9 + q
    · rw [e, Nat.add_sub_cancel_left] at k; exact absurd (h.symm.trans k.2) (by decide)
    · exact c2 ⟨by omega, k.2⟩
set_option maxRecDepth 100000 in
theorem l_mlisted {sc : tm_X} {d : Nat} {f : Nat → Int32} {A : Nat → Nat → Int32} {q : Nat} {v k L : Int32} {w : Nat → Int32} {Q : Option Value → MS → Prop} (hq : q < 4) (kk : ∀ lv : tm_L, lv.lookup 0 = some (.ref 1482) → lv.lookup 1 = some (.int (nI q)) → lv.lookup 2 = some (.int v) → lv.lookup 3 = some (.int k) → lv.lookup 4 = some (.int (nI (486 + q * 279))) → lv.lookup 5 = some (.int L) →  mg sc (d + 1) 227 92 lv [] (f, fset A 15 (gcl w (486 + q * 279) L 6)) Q) : ∀ (r i : Nat), i + r = 6 → ∀ lv : tm_L, lv.lookup 0 = some (.ref 1482) → lv.lookup 1 = some (.int (nI q)) → lv.lookup 2 = some (.int v) → lv.lookup 3 = some (.int k) → lv.lookup 4 = some (.int (nI (486 + q * 279))) → lv.lookup 5 = some (.int L) →  lv.lookup 6 = some (.int (nI i)) → mg sc (d + 1) 227 54 lv [] (f, fset A 15 (gcl w (486 + q * 279) L i)) Q := by
  intro r
  induction r with
  | zero =>
    intro i hi lv l0 l1 l2 l3 l4 l5 l6
    have hi6 : i = 6 := by omega
    subst hi6
    refine m_ild (pc' := 56) cd_Mo_listed rfl (Or.inl ⟨rfl, rfl⟩) l6 rfl ?_
    refine m_k2 (v := 6) (pc' := 58) cd_Mo_listed rfl (by decide) rfl ?_
    refine m_if2 (t := 92) (pc' := 61) cd_Mo_listed rfl rfl rfl (fun c58 => ?_) (fun c58 => ?_)
    · have c58 : (6 : Int32) ≤ (nI 6) := c58
      exact kk lv l0 l1 l2 l3 l4 l5
    · have c58 : ¬ (6 : Int32) ≤ (nI 6) := c58
      exact absurd (show (6 : Int32) ≤ nI 6 from by decide) c58
  | succ r ih =>
    intro i hi lv l0 l1 l2 l3 l4 l5 l6
    refine m_ild (pc' := 56) cd_Mo_listed rfl (Or.inl ⟨rfl, rfl⟩) l6 rfl ?_
    refine m_k2 (v := 6) (pc' := 58) cd_Mo_listed rfl (by decide) rfl ?_
    refine m_if2 (t := 92) (pc' := 61) cd_Mo_listed rfl rfl rfl (fun c58 => ?_) (fun c58 => ?_)
    · have c58 : (6 : Int32) ≤ (nI i) := c58
      exact absurd c58 (nI_ge (b := 6) (by omega) (by decide))
    · have c58 : ¬ (6 : Int32) ≤ (nI i) := c58
      refine m_ild (pc' := 63) cd_Mo_listed rfl (Or.inl ⟨rfl, rfl⟩) l5 rfl ?_
      refine m_ild (pc' := 65) cd_Mo_listed rfl (Or.inl ⟨rfl, rfl⟩) l6 rfl ?_
      refine m_pure (pc' := 66) (st' := [.int (L >>> ((nI i) &&& 31))]) cd_Mo_listed rfl rfl (fun _ _ => rfl) ?_
      refine m_k1 (v := 1) (pc' := 67) cd_Mo_listed rfl (by decide) rfl ?_
      refine m_pure (pc' := 68) (st' := [.int ((L >>> ((nI i) &&& 31)) &&& 1)]) cd_Mo_listed rfl rfl (fun _ _ => rfl) ?_
      refine m_k1 (v := 1) (pc' := 69) cd_Mo_listed rfl (by decide) rfl ?_
      refine m_if2 (t := 86) (pc' := 72) cd_Mo_listed rfl rfl rfl (fun c69 => ?_) (fun c69 => ?_)
      · have c69 : ¬ ((L >>> ((nI i) &&& 31)) &&& 1) = 1 := c69
        refine m_inc (y := nI (i + 1)) (pc' := 89) cd_Mo_listed rfl l6 (by decide) (nI_add i 1) rfl (fun lv el => ?_)
        have l0 := tm_lk el l0 rfl (by decide)
        have l1 := tm_lk el l1 rfl (by decide)
        have l2 := tm_lk el l2 rfl (by decide)
        have l3 := tm_lk el l3 rfl (by decide)
        have l4 := tm_lk el l4 rfl (by decide)
        have l5 := tm_lk el l5 rfl (by decide)
        have l6 : lv.lookup 6 = some (.int (nI (i + 1))) := tm_lks el
        clear el
        refine m_pure (pc' := 54) (st' := []) cd_Mo_listed rfl rfl (fun _ _ => rfl) ?_
        rw [gcl_f (hbit_0 c69)]
        exact ih (i + 1) (by omega) lv l0 l1 l2 l3 l4 l5 l6
      · have c69 : ((L >>> ((nI i) &&& 31)) &&& 1) = 1 := Classical.not_not.mp c69
        refine m_ald (pc' := 73) cd_Mo_listed rfl (Or.inr ⟨_, rfl, rfl, rfl⟩) l0 rfl rfl ?_
        refine m_fR (r := 14) (a := 15) (ad := 1497) (pc' := 76) rfl rfl cd_Mo_listed rfl rfl rfl rfl rfl ?_
        refine m_ild (pc' := 78) cd_Mo_listed rfl (Or.inl ⟨rfl, rfl⟩) l4 rfl ?_
        refine m_k2 (v := 9) (pc' := 80) cd_Mo_listed rfl (by decide) rfl ?_
        refine m_pure (pc' := 81) (st' := [.int ((nI (486 + q * 279)) + 9), .ref 1497]) cd_Mo_listed rfl rfl (fun _ _ => rfl) ?_
        refine m_eq (show ((nI (486 + q * 279)) + 9 : Int32) = nI ((486 + q * 279) + 9) from nI_add (486 + q * 279) 9) ?_
        refine m_ild (pc' := 83) cd_Mo_listed rfl (Or.inl ⟨rfl, rfl⟩) l6 rfl ?_
        refine m_pure (pc' := 84) (st' := [.int ((nI ((486 + q * 279) + 9)) + (nI i)), .ref 1497]) cd_Mo_listed rfl rfl (fun _ _ => rfl) ?_
        refine m_eq (show ((nI ((486 + q * 279) + 9)) + (nI i) : Int32) = nI (((486 + q * 279) + 9) + i) from nI_add ((486 + q * 279) + 9) i) ?_
        refine m_k1 (v := 0) (pc' := 85) cd_Mo_listed rfl (by decide) rfl ?_
        refine m_aS (r := 14) (a := 15) (g := (gcl w (486 + q * 279) L i)) (p := (((486 + q * 279) + 9) + i)) (pc' := 86) rfl rfl cd_Mo_listed rfl rfl rfl (vp_in_nI (by omega) (by decide)) (nI_clamp (by omega)) ?_
        rw [fset_fset]
        refine m_inc (y := nI (i + 1)) (pc' := 89) cd_Mo_listed rfl l6 (by decide) (nI_add i 1) rfl (fun lv el => ?_)
        have l0 := tm_lk el l0 rfl (by decide)
        have l1 := tm_lk el l1 rfl (by decide)
        have l2 := tm_lk el l2 rfl (by decide)
        have l3 := tm_lk el l3 rfl (by decide)
        have l4 := tm_lk el l4 rfl (by decide)
        have l5 := tm_lk el l5 rfl (by decide)
        have l6 : lv.lookup 6 = some (.int (nI (i + 1))) := tm_lks el
        clear el
        refine m_pure (pc' := 54) (st' := []) cd_Mo_listed rfl rfl (fun _ _ => rfl) ?_
        rw [gcl_t (hbit_1 c69)]
        exact ih (i + 1) (by omega) lv l0 l1 l2 l3 l4 l5 l6
theorem adopt_q {w g : Nat → Int32} {T : List Tm} {a : Nat} {ve ma go ge ix ga v k : Int32} {ch si : Tm} {sl : Bool} {gv : Nat → List GV} (h : qMm w T a (ve, ma, go, ge, ch, si, ix, ga, sl, gv)) (e0 : g (a + 0) = v) (e1 : g (a + 1) = k) (e2 : g (a + 2) = go ||| (ma &&& (k ^^^ (-1)))) (e8 : g (a + 8) = bz (if ma &&& (k ^^^ (-1)) = 0 then sl else true)) (e9 : ∀ p, p < 6 → g (a + 9 + p) = if hbit (ma &&& (k ^^^ (-1))) (nI p) = true then 0 else w (a + 9 + p)) (er : ∀ j, j < 279 → j ≠ 0 → j ≠ 1 → j ≠ 2 → (j < 8 ∨ 15 ≤ j) → g (a + j) = w (a + j)) : qMm g T a (mm_adopt (ve, ma, go, ge, ch, si, ix, ga, sl, gv) v k) := by
  obtain ⟨⟨h1, h2, h3, h4⟩, ⟨h5, h6⟩, ⟨h7, h8, h9⟩, h10⟩ := h
  refine ⟨⟨e0, e1, e2, by rw [er 3 (by decide) (by decide) (by decide) (by decide) (by decide)]; exact h4⟩, ⟨by rw [er 4 (by decide) (by decide) (by decide) (by decide) (by decide)]; exact h5, by rw [er 5 (by decide) (by decide) (by decide) (by decide) (by decide)]; exact h6⟩, ⟨by rw [er 6 (by decide) (by decide) (by decide) (by decide) (by decide)]; exact h7, by rw [er 7 (by decide) (by decide) (by decide) (by decide) (by decide)]; exact h8, e8⟩, fun p hp => ?_⟩
  obtain ⟨⟨q1, q2⟩, q3⟩ := h10 p hp
  show qGs g T a p (if hbit (ma &&& (k ^^^ (-1))) (nI p) = true then [] else gv p)
  by_cases c : hbit (ma &&& (k ^^^ (-1))) (nI p) = true
  · rw [if_pos c]
    exact ⟨⟨by rw [e9 p hp, if_pos c]; rfl, by decide⟩, fun i G he => by simp at he⟩
  · rw [if_neg c]
    refine ⟨⟨by rw [e9 p hp, if_neg c]; exact q1, q2⟩, fun i G he => ?_⟩
    have hi : i < (gv p).length := (List.getElem?_eq_some_iff.mp he).1
    refine qGv_c (List.prefix_refl T) (fun j hj => ?_) (q3 i G he)
    have z : a + 15 + (2 * p + i) * 22 + j = a + (15 + (2 * p + i) * 22 + j) := by omega
    rw [z]
    exact er _ (by omega) (by omega) (by omega) (by omega) (by omega)
set_option maxRecDepth 100000 in
theorem m_listed {sc : tm_X} {d : Nat} {f : Nat → Int32} {A : Nat → Nat → Int32} {T : List Tm} {q : Nat} {v k : Int32} {ve ma go ge ix ga : Int32} {ch si : Tm} {sl : Bool} {gv : Nat → List GV} {Q : MS → Prop} (hq : q < 4) (hG : qMm (A 15) T (486 + q * 279) (ve, ma, go, ge, ch, si, ix, ga, sl, gv)) (kk : ∀ g, qMm g T (486 + q * 279) (mm_adopt (ve, ma, go, ge, ch, si, ix, ga, sl, gv) v k) → (∀ j, ¬ ((486 + q * 279) ≤ j ∧ j < (486 + q * 279) + 279) → g j = A 15 j) → Q (f, fset A 15 g)) : mGv sc (d + 1) 227 [.ref 1482, .int (nI q), .int v, .int k] (f, A) Q := by
  have hG0 := hG
  obtain ⟨⟨h1, h2, h3, h4⟩, ⟨h5, h6⟩, ⟨h7, h8, h9⟩, h10⟩ := hG
  show mg sc (d + 1) 227 0 [(0, .ref 1482), (1, .int (nI q)), (2, .int v), (3, .int k)] [] (f, A) _
  generalize elv : ([(0, .ref 1482), (1, .int (nI q)), (2, .int v), (3, .int k)] : tm_L) = lv
  have l0 : lv.lookup 0 = some (.ref 1482) := by rw [← elv]; rfl
  have l1 : lv.lookup 1 = some (.int (nI q)) := by rw [← elv]; rfl
  have l2 : lv.lookup 2 = some (.int v) := by rw [← elv]; rfl
  have l3 : lv.lookup 3 = some (.int k) := by rw [← elv]; rfl
  clear elv
  refine m_ild (pc' := 1) cd_Mo_listed rfl (Or.inr ⟨_, rfl, rfl, rfl⟩) l1 rfl ?_
  refine m_si (pc' := 4) cd_Mo_listed rfl rfl rfl rfl rfl cd_Mo_groupAt rfl (Nat.le_of_ble_eq_true rfl) (m_groupAt ?_)
  show mg _ _ _ 4 _ [.int (nI (486 + q * 279))] _ _
  refine m_ist (pc' := 6) cd_Mo_listed rfl (Or.inl ⟨rfl, rfl⟩) (by decide) rfl (fun lv el => ?_)
  have l0 := tm_lk el l0 rfl (by decide)
  have l1 := tm_lk el l1 rfl (by decide)
  have l2 := tm_lk el l2 rfl (by decide)
  have l3 := tm_lk el l3 rfl (by decide)
  have l4 : lv.lookup 4 = some (.int (nI (486 + q * 279))) := tm_lks el
  clear el
  refine m_ald (pc' := 7) cd_Mo_listed rfl (Or.inr ⟨_, rfl, rfl, rfl⟩) l0 rfl rfl ?_
  refine m_fR (r := 14) (a := 15) (ad := 1497) (pc' := 10) rfl rfl cd_Mo_listed rfl rfl rfl rfl rfl ?_
  refine m_ild (pc' := 12) cd_Mo_listed rfl (Or.inl ⟨rfl, rfl⟩) l4 rfl ?_
  refine m_k1 (v := 1) (pc' := 13) cd_Mo_listed rfl (by decide) rfl ?_
  refine m_pure (pc' := 14) (st' := [.int ((nI (486 + q * 279)) + 1), .ref 1497]) cd_Mo_listed rfl rfl (fun _ _ => rfl) ?_
  refine m_eq (show ((nI (486 + q * 279)) + 1 : Int32) = nI ((486 + q * 279) + 1) from nI_add (486 + q * 279) 1) ?_
  refine m_aI (r := 14) (a := 15) (g := (A 15)) (x := ma) (pc' := 15) rfl rfl cd_Mo_listed rfl rfl rfl (vp_in_nI (by omega) (by decide)) ((congrArg (A 15) (nI_clamp (by omega))).trans h2) ?_
  refine m_ild (pc' := 16) cd_Mo_listed rfl (Or.inr ⟨_, rfl, rfl, rfl⟩) l3 rfl ?_
  refine m_k1 (v := (-1)) (pc' := 17) cd_Mo_listed rfl (by decide) rfl ?_
  refine m_pure (pc' := 18) (st' := [.int (k ^^^ (-1)), .int ma]) cd_Mo_listed rfl rfl (fun _ _ => rfl) ?_
  refine m_pure (pc' := 19) (st' := [.int (ma &&& (k ^^^ (-1)))]) cd_Mo_listed rfl rfl (fun _ _ => rfl) ?_
  refine m_ist (pc' := 21) cd_Mo_listed rfl (Or.inl ⟨rfl, rfl⟩) (by decide) rfl (fun lv el => ?_)
  have l0 := tm_lk el l0 rfl (by decide)
  have l1 := tm_lk el l1 rfl (by decide)
  have l2 := tm_lk el l2 rfl (by decide)
  have l3 := tm_lk el l3 rfl (by decide)
  have l4 := tm_lk el l4 rfl (by decide)
  have l5 : lv.lookup 5 = some (.int (ma &&& (k ^^^ (-1)))) := tm_lks el
  clear el
  refine m_ald (pc' := 22) cd_Mo_listed rfl (Or.inr ⟨_, rfl, rfl, rfl⟩) l0 rfl rfl ?_
  refine m_fR (r := 14) (a := 15) (ad := 1497) (pc' := 25) rfl rfl cd_Mo_listed rfl rfl rfl rfl rfl ?_
  refine m_ild (pc' := 27) cd_Mo_listed rfl (Or.inl ⟨rfl, rfl⟩) l4 rfl ?_
  refine m_k1 (v := 2) (pc' := 28) cd_Mo_listed rfl (by decide) rfl ?_
  refine m_pure (pc' := 29) (st' := [.int ((nI (486 + q * 279)) + 2), .ref 1497]) cd_Mo_listed rfl rfl (fun _ _ => rfl) ?_
  refine m_eq (show ((nI (486 + q * 279)) + 2 : Int32) = nI ((486 + q * 279) + 2) from nI_add (486 + q * 279) 2) ?_
  refine m_pure (pc' := 30) (st' := [.int (nI ((486 + q * 279) + 2)), .ref 1497, .int (nI ((486 + q * 279) + 2)), .ref 1497]) cd_Mo_listed rfl rfl (fun _ _ => rfl) ?_
  refine m_aI (r := 14) (a := 15) (g := (A 15)) (x := go) (pc' := 31) rfl rfl cd_Mo_listed rfl rfl rfl (vp_in_nI (by omega) (by decide)) ((congrArg (A 15) (nI_clamp (by omega))).trans h3) ?_
  refine m_ild (pc' := 33) cd_Mo_listed rfl (Or.inl ⟨rfl, rfl⟩) l5 rfl ?_
  refine m_pure (pc' := 34) (st' := [.int (go ||| (ma &&& (k ^^^ (-1)))), .int (nI ((486 + q * 279) + 2)), .ref 1497]) cd_Mo_listed rfl rfl (fun _ _ => rfl) ?_
  refine m_aS (r := 14) (a := 15) (g := (A 15)) (p := ((486 + q * 279) + 2)) (pc' := 35) rfl rfl cd_Mo_listed rfl rfl rfl (vp_in_nI (by omega) (by decide)) (nI_clamp (by omega)) ?_
  refine m_ild (pc' := 37) cd_Mo_listed rfl (Or.inl ⟨rfl, rfl⟩) l5 rfl ?_
  refine m_if1 (t := 51) (pc' := 40) cd_Mo_listed rfl rfl rfl (fun c37 => ?_) (fun c37 => ?_)
  · have c37 : (ma &&& (k ^^^ (-1))) = 0 := c37
    refine m_k1 (v := 0) (pc' := 52) cd_Mo_listed rfl (by decide) rfl ?_
    refine m_ist (pc' := 54) cd_Mo_listed rfl (Or.inl ⟨rfl, rfl⟩) (by decide) rfl (fun lv el => ?_)
    have l0 := tm_lk el l0 rfl (by decide)
    have l1 := tm_lk el l1 rfl (by decide)
    have l2 := tm_lk el l2 rfl (by decide)
    have l3 := tm_lk el l3 rfl (by decide)
    have l4 := tm_lk el l4 rfl (by decide)
    have l5 := tm_lk el l5 rfl (by decide)
    have l6 : lv.lookup 6 = some (.int 0) := tm_lks el
    clear el
    rw [show fset A 15 (upd (A 15) ((486 + q * 279) + 2) (go ||| (ma &&& (k ^^^ (-1))))) = fset A 15 (gcl (upd (A 15) ((486 + q * 279) + 2) (go ||| (ma &&& (k ^^^ (-1))))) (486 + q * 279) (ma &&& (k ^^^ (-1))) 0) by rw [gcl_0]]
    refine l_mlisted (w := (upd (A 15) ((486 + q * 279) + 2) (go ||| (ma &&& (k ^^^ (-1)))))) (L := ma &&& (k ^^^ (-1))) hq (fun lv l0 l1 l2 l3 l4 l5 => ?_) 6 0 rfl lv l0 l1 l2 l3 l4 l5 l6
    refine m_ald (pc' := 93) cd_Mo_listed rfl (Or.inr ⟨_, rfl, rfl, rfl⟩) l0 rfl rfl ?_
    refine m_fR (r := 14) (a := 15) (ad := 1497) (pc' := 96) rfl rfl cd_Mo_listed rfl rfl rfl rfl rfl ?_
    refine m_ild (pc' := 98) cd_Mo_listed rfl (Or.inl ⟨rfl, rfl⟩) l4 rfl ?_
    refine m_k1 (v := 0) (pc' := 99) cd_Mo_listed rfl (by decide) rfl ?_
    refine m_pure (pc' := 100) (st' := [.int ((nI (486 + q * 279)) + 0), .ref 1497]) cd_Mo_listed rfl rfl (fun _ _ => rfl) ?_
    refine m_eq (show ((nI (486 + q * 279)) + 0 : Int32) = nI ((486 + q * 279) + 0) from nI_add (486 + q * 279) 0) ?_
    refine m_ild (pc' := 101) cd_Mo_listed rfl (Or.inr ⟨_, rfl, rfl, rfl⟩) l2 rfl ?_
    refine m_aS (r := 14) (a := 15) (g := (gcl (upd (A 15) ((486 + q * 279) + 2) (go ||| (ma &&& (k ^^^ (-1))))) (486 + q * 279) (ma &&& (k ^^^ (-1))) 6)) (p := ((486 + q * 279) + 0)) (pc' := 102) rfl rfl cd_Mo_listed rfl rfl rfl (vp_in_nI (by omega) (by decide)) (nI_clamp (by omega)) ?_
    rw [fset_fset]
    refine m_ald (pc' := 103) cd_Mo_listed rfl (Or.inr ⟨_, rfl, rfl, rfl⟩) l0 rfl rfl ?_
    refine m_fR (r := 14) (a := 15) (ad := 1497) (pc' := 106) rfl rfl cd_Mo_listed rfl rfl rfl rfl rfl ?_
    refine m_ild (pc' := 108) cd_Mo_listed rfl (Or.inl ⟨rfl, rfl⟩) l4 rfl ?_
    refine m_k1 (v := 1) (pc' := 109) cd_Mo_listed rfl (by decide) rfl ?_
    refine m_pure (pc' := 110) (st' := [.int ((nI (486 + q * 279)) + 1), .ref 1497]) cd_Mo_listed rfl rfl (fun _ _ => rfl) ?_
    refine m_eq (show ((nI (486 + q * 279)) + 1 : Int32) = nI ((486 + q * 279) + 1) from nI_add (486 + q * 279) 1) ?_
    refine m_ild (pc' := 111) cd_Mo_listed rfl (Or.inr ⟨_, rfl, rfl, rfl⟩) l3 rfl ?_
    refine m_aS (r := 14) (a := 15) (g := (upd (gcl (upd (A 15) ((486 + q * 279) + 2) (go ||| (ma &&& (k ^^^ (-1))))) (486 + q * 279) (ma &&& (k ^^^ (-1))) 6) ((486 + q * 279) + 0) v)) (p := ((486 + q * 279) + 1)) (pc' := 112) rfl rfl cd_Mo_listed rfl rfl rfl (vp_in_nI (by omega) (by decide)) (nI_clamp (by omega)) ?_
    rw [fset_fset]
    have gN : ∀ j, ¬ ((486 + q * 279) + 9 ≤ j ∧ j < (486 + q * 279) + 9 + 6) → (gcl (upd (A 15) ((486 + q * 279) + 2) (go ||| (ma &&& (k ^^^ (-1))))) (486 + q * 279) (ma &&& (k ^^^ (-1))) 6) j = (upd (A 15) ((486 + q * 279) + 2) (go ||| (ma &&& (k ^^^ (-1))))) j := fun j hj => if_neg (fun z => hj z.1)
    refine m_retv cd_Mo_listed rfl ⟨rfl, kk _ (adopt_q hG0 ?_ ?_ ?_ ?_ (fun p hp => ?_) (fun j j1 j2 j3 j4 j5 => ?_)) (fun j hj => ?_)⟩
    · rw [upd_ne (by omega), upd_same]
    · rw [upd_same]
    · rw [upd_ne (by omega), upd_ne (by omega), gN _ (by omega), upd_same]
    · rw [upd_ne (by omega), upd_ne (by omega), gN _ (by omega), upd_ne (by omega), if_pos c37]; exact h9
    · rw [upd_ne (by omega), upd_ne (by omega)]
      unfold gcl
      by_cases z : hbit (ma &&& (k ^^^ (-1))) (nI p) = true
      · rw [if_pos ⟨by omega, by rw [Nat.add_sub_cancel_left]; exact z⟩, if_pos z]
      · rw [if_neg (fun y => z (by have y2 := y.2; rw [Nat.add_sub_cancel_left] at y2; exact y2)), if_neg z, upd_ne (by omega)]
    · rw [upd_ne (by omega), upd_ne (by omega), gN _ (by omega), upd_ne (by omega)]
    · rw [upd_ne (by omega), upd_ne (by omega), gN _ (by omega), upd_ne (by omega)]
  · have c37 : ¬ (ma &&& (k ^^^ (-1))) = 0 := c37
    refine m_ald (pc' := 41) cd_Mo_listed rfl (Or.inr ⟨_, rfl, rfl, rfl⟩) l0 rfl rfl ?_
    refine m_fR (r := 14) (a := 15) (ad := 1497) (pc' := 44) rfl rfl cd_Mo_listed rfl rfl rfl rfl rfl ?_
    refine m_ild (pc' := 46) cd_Mo_listed rfl (Or.inl ⟨rfl, rfl⟩) l4 rfl ?_
    refine m_k2 (v := 8) (pc' := 48) cd_Mo_listed rfl (by decide) rfl ?_
    refine m_pure (pc' := 49) (st' := [.int ((nI (486 + q * 279)) + 8), .ref 1497]) cd_Mo_listed rfl rfl (fun _ _ => rfl) ?_
    refine m_eq (show ((nI (486 + q * 279)) + 8 : Int32) = nI ((486 + q * 279) + 8) from nI_add (486 + q * 279) 8) ?_
    refine m_k1 (v := 1) (pc' := 50) cd_Mo_listed rfl (by decide) rfl ?_
    refine m_aS (r := 14) (a := 15) (g := (upd (A 15) ((486 + q * 279) + 2) (go ||| (ma &&& (k ^^^ (-1)))))) (p := ((486 + q * 279) + 8)) (pc' := 51) rfl rfl cd_Mo_listed rfl rfl rfl (vp_in_nI (by omega) (by decide)) (nI_clamp (by omega)) ?_
    rw [fset_fset]
    refine m_k1 (v := 0) (pc' := 52) cd_Mo_listed rfl (by decide) rfl ?_
    refine m_ist (pc' := 54) cd_Mo_listed rfl (Or.inl ⟨rfl, rfl⟩) (by decide) rfl (fun lv el => ?_)
    have l0 := tm_lk el l0 rfl (by decide)
    have l1 := tm_lk el l1 rfl (by decide)
    have l2 := tm_lk el l2 rfl (by decide)
    have l3 := tm_lk el l3 rfl (by decide)
    have l4 := tm_lk el l4 rfl (by decide)
    have l5 := tm_lk el l5 rfl (by decide)
    have l6 : lv.lookup 6 = some (.int 0) := tm_lks el
    clear el
    rw [show fset A 15 (upd (upd (A 15) ((486 + q * 279) + 2) (go ||| (ma &&& (k ^^^ (-1))))) ((486 + q * 279) + 8) 1) = fset A 15 (gcl (upd (upd (A 15) ((486 + q * 279) + 2) (go ||| (ma &&& (k ^^^ (-1))))) ((486 + q * 279) + 8) 1) (486 + q * 279) (ma &&& (k ^^^ (-1))) 0) by rw [gcl_0]]
    refine l_mlisted (w := (upd (upd (A 15) ((486 + q * 279) + 2) (go ||| (ma &&& (k ^^^ (-1))))) ((486 + q * 279) + 8) 1)) (L := ma &&& (k ^^^ (-1))) hq (fun lv l0 l1 l2 l3 l4 l5 => ?_) 6 0 rfl lv l0 l1 l2 l3 l4 l5 l6
    refine m_ald (pc' := 93) cd_Mo_listed rfl (Or.inr ⟨_, rfl, rfl, rfl⟩) l0 rfl rfl ?_
    refine m_fR (r := 14) (a := 15) (ad := 1497) (pc' := 96) rfl rfl cd_Mo_listed rfl rfl rfl rfl rfl ?_
    refine m_ild (pc' := 98) cd_Mo_listed rfl (Or.inl ⟨rfl, rfl⟩) l4 rfl ?_
    refine m_k1 (v := 0) (pc' := 99) cd_Mo_listed rfl (by decide) rfl ?_
    refine m_pure (pc' := 100) (st' := [.int ((nI (486 + q * 279)) + 0), .ref 1497]) cd_Mo_listed rfl rfl (fun _ _ => rfl) ?_
    refine m_eq (show ((nI (486 + q * 279)) + 0 : Int32) = nI ((486 + q * 279) + 0) from nI_add (486 + q * 279) 0) ?_
    refine m_ild (pc' := 101) cd_Mo_listed rfl (Or.inr ⟨_, rfl, rfl, rfl⟩) l2 rfl ?_
    refine m_aS (r := 14) (a := 15) (g := (gcl (upd (upd (A 15) ((486 + q * 279) + 2) (go ||| (ma &&& (k ^^^ (-1))))) ((486 + q * 279) + 8) 1) (486 + q * 279) (ma &&& (k ^^^ (-1))) 6)) (p := ((486 + q * 279) + 0)) (pc' := 102) rfl rfl cd_Mo_listed rfl rfl rfl (vp_in_nI (by omega) (by decide)) (nI_clamp (by omega)) ?_
    rw [fset_fset]
    refine m_ald (pc' := 103) cd_Mo_listed rfl (Or.inr ⟨_, rfl, rfl, rfl⟩) l0 rfl rfl ?_
    refine m_fR (r := 14) (a := 15) (ad := 1497) (pc' := 106) rfl rfl cd_Mo_listed rfl rfl rfl rfl rfl ?_
    refine m_ild (pc' := 108) cd_Mo_listed rfl (Or.inl ⟨rfl, rfl⟩) l4 rfl ?_
    refine m_k1 (v := 1) (pc' := 109) cd_Mo_listed rfl (by decide) rfl ?_
    refine m_pure (pc' := 110) (st' := [.int ((nI (486 + q * 279)) + 1), .ref 1497]) cd_Mo_listed rfl rfl (fun _ _ => rfl) ?_
    refine m_eq (show ((nI (486 + q * 279)) + 1 : Int32) = nI ((486 + q * 279) + 1) from nI_add (486 + q * 279) 1) ?_
    refine m_ild (pc' := 111) cd_Mo_listed rfl (Or.inr ⟨_, rfl, rfl, rfl⟩) l3 rfl ?_
    refine m_aS (r := 14) (a := 15) (g := (upd (gcl (upd (upd (A 15) ((486 + q * 279) + 2) (go ||| (ma &&& (k ^^^ (-1))))) ((486 + q * 279) + 8) 1) (486 + q * 279) (ma &&& (k ^^^ (-1))) 6) ((486 + q * 279) + 0) v)) (p := ((486 + q * 279) + 1)) (pc' := 112) rfl rfl cd_Mo_listed rfl rfl rfl (vp_in_nI (by omega) (by decide)) (nI_clamp (by omega)) ?_
    rw [fset_fset]
    have gN : ∀ j, ¬ ((486 + q * 279) + 9 ≤ j ∧ j < (486 + q * 279) + 9 + 6) → (gcl (upd (upd (A 15) ((486 + q * 279) + 2) (go ||| (ma &&& (k ^^^ (-1))))) ((486 + q * 279) + 8) 1) (486 + q * 279) (ma &&& (k ^^^ (-1))) 6) j = (upd (upd (A 15) ((486 + q * 279) + 2) (go ||| (ma &&& (k ^^^ (-1))))) ((486 + q * 279) + 8) 1) j := fun j hj => if_neg (fun z => hj z.1)
    refine m_retv cd_Mo_listed rfl ⟨rfl, kk _ (adopt_q hG0 ?_ ?_ ?_ ?_ (fun p hp => ?_) (fun j j1 j2 j3 j4 j5 => ?_)) (fun j hj => ?_)⟩
    · rw [upd_ne (by omega), upd_same]
    · rw [upd_same]
    · rw [upd_ne (by omega), upd_ne (by omega), gN _ (by omega), upd_ne (by omega), upd_same]
    · rw [upd_ne (by omega), upd_ne (by omega), gN _ (by omega), upd_same, if_neg c37]; rfl
    · rw [upd_ne (by omega), upd_ne (by omega)]
      unfold gcl
      by_cases z : hbit (ma &&& (k ^^^ (-1))) (nI p) = true
      · rw [if_pos ⟨by omega, by rw [Nat.add_sub_cancel_left]; exact z⟩, if_pos z]
      · rw [if_neg (fun y => z (by have y2 := y.2; rw [Nat.add_sub_cancel_left] at y2; exact y2)), if_neg z, upd_ne (by omega), upd_ne (by omega)]
    · rw [upd_ne (by omega), upd_ne (by omega), gN _ (by omega), upd_ne (by omega), upd_ne (by omega)]
    · rw [upd_ne (by omega), upd_ne (by omega), gN _ (by omega), upd_ne (by omega), upd_ne (by omega)]
