/-! The reference: swap -/
theorem row_P {k n0 n1 n2 n3 : Int32} {a b c d C : Tm} {g : Nat → Int32} {i : Nat} {v : Int32} (e0 : g 0 = n0) (e1 : g 1 = n1) (e2 : g 2 = n2) (e3 : g 3 = n3) : Trw k (upd g (4 + i) v 0) (upd g (4 + i) v 1) (upd g (4 + i) v 2) (upd g (4 + i) v 3) (if i = 0 then C else a) (if i = 1 then C else b) (if i = 2 then C else c) (if i = 3 then C else d) = TwP (Trw k n0 n1 n2 n3 a b c d) i C := by
  rw [upd_ne (by omega), upd_ne (by omega), upd_ne (by omega), upd_ne (by omega), e0, e1, e2, e3]
  rfl
theorem row_h {T : List Tm} {g : Nat → Int32} {i j : Nat} {v : Int32} {C P : Tm} (hv : tv T v C) (h : tv T (g (4 + j)) P) : tv T (upd g (4 + i) v (4 + j)) (if i = j then C else P) := by
  by_cases c : i = j
  · rw [if_pos c, c, upd_same]; exact hv
  · rw [if_neg c, upd_ne (by omega)]; exact h
set_option maxRecDepth 100000 in
theorem mo_swap {sc : tm_X} {d : Nat} {f : Nat → Int32} {A : Nat → Nat → Int32} {T : List Tm} {DL : List (Int32 × Int32)} {G Kw : Tm → Prop} {reg : Nat → Tm} {r x k y : Int32} {Q : Int32 → MS → Prop} (hM : MT f A T DL G Kw) (hR : ∀ i, i < 32 → tv T (A 45 i) (reg i)) (hl0 : T.length < 4000) (hr0 : rc (A 1) T.length < 1000) (kk : ∀ f1 A1 T', T <+: T' → T'.length ≤ T.length + 1 → rc (A1 1) T'.length ≤ rc (A 1) T.length + 1 → MT f1 A1 T' DL G Kw → (∀ k, ¬ (k = 0 ∨ k = 7) → f1 k = f k) → (∀ j, ¬ (1 ≤ j ∧ j ≤ 9) → j ≠ 45 → A1 j = A j) → (∀ i, i < 32 → tv T' (A1 45 i) ((sp_spec reg r x k y).2 i)) → Q (sp_spec reg r x k y).1 (f1, A1)) : mGi sc (d + 3) 263 [.ref 1482, .int r, .int x, .int k, .int y] (f, A) Q := by
  show mg sc (d + 3) 263 0 [(0, .ref 1482), (1, .int r), (2, .int x), (3, .int k), (4, .int y)] [] (f, A) _
  generalize elv : ([(0, .ref 1482), (1, .int r), (2, .int x), (3, .int k), (4, .int y)] : tm_L) = lv
  have l0 : lv.lookup 0 = some (.ref 1482) := by rw [← elv]; rfl
  have l1 : lv.lookup 1 = some (.int r) := by rw [← elv]; rfl
  have l2 : lv.lookup 2 = some (.int x) := by rw [← elv]; rfl
  have l3 : lv.lookup 3 = some (.int k) := by rw [← elv]; rfl
  have l4 : lv.lookup 4 = some (.int y) := by rw [← elv]; rfl
  clear elv
  refine m_ild (pc' := 2) cd_Mo_swap rfl (Or.inl ⟨rfl, rfl⟩) l4 rfl ?_
  refine m_k1 (v := (-1)) (pc' := 3) cd_Mo_swap rfl (by decide) rfl ?_
  refine m_if2 (t := 15) (pc' := 6) cd_Mo_swap rfl rfl rfl (fun c3 => ?_) (fun c3 => ?_)
  · have c3 : y = (-1) := c3
    refine m_ald (pc' := 16) cd_Mo_swap rfl (Or.inr ⟨_, rfl, rfl, rfl⟩) l0 rfl rfl ?_
    refine m_ild (pc' := 17) cd_Mo_swap rfl (Or.inr ⟨_, rfl, rfl, rfl⟩) l1 rfl ?_
    refine m_ild (pc' := 18) cd_Mo_swap rfl (Or.inr ⟨_, rfl, rfl, rfl⟩) l2 rfl ?_
    refine m_ild (pc' := 19) cd_Mo_swap rfl (Or.inr ⟨_, rfl, rfl, rfl⟩) l3 rfl ?_
    refine m_k1 (v := 3) (pc' := 20) cd_Mo_swap rfl (by decide) rfl ?_
    refine m_ci (pc' := 23) cd_Mo_swap rfl rfl rfl rfl rfl cd_Mo_copies rfl (Nat.le_of_ble_eq_true rfl) (m_copies3 hM hR (fun hno => ?_) (fun hr32 i1 t1 ex hi1 et1 ht1 k7 hk5 g hg1 hg2 => ?_))
    · skip
      show mg _ _ _ 23 _ [.int 0] _ _
      refine m_if1 (t := 28) (pc' := 26) cd_Mo_swap rfl rfl rfl (fun c23 => ?_) (fun c23 => ?_)
      · exact absurd (show ¬ (0 : Int32) = 0 from c23) (by decide)
      · have c23 : (0 : Int32) = 0 := Classical.not_not.mp c23
        refine m_k1 (v := (-1)) (pc' := 27) cd_Mo_swap rfl (by decide) rfl ?_
        exact m_reti cd_Mo_swap rfl ⟨_, rfl, (by rw [show sp_spec reg r x k y = (-1, reg) from if_neg (fun q => hno ⟨q.1, q.2.1, q.2.2.1⟩)] at kk; exact kk f A T (List.prefix_refl T) (by omega) (by omega) hM (fun _ _ => rfl) (fun _ _ _ => rfl) hR)⟩
    · skip
      subst ex
      have htl1 := tv_lt ht1
      have hTl := MT_len hM
      have hmk := MT_mk hM ht1 (Or.inr (Or.inr k7))
      have hrow := row_of hM ht1 k7
      show mg _ _ _ 23 _ [.int 1] _ _
      refine m_if1 (t := 28) (pc' := 26) cd_Mo_swap rfl rfl rfl (fun c23 => ?_) (fun c23 => ?_)
      · have c23 : ¬ (1 : Int32) = 0 := c23
        obtain ⟨i, hi, ek⟩ := inR_of (n := 4) (by decide) hk5
        subst ek
        refine m_ald (pc' := 29) cd_Mo_swap rfl (Or.inr ⟨_, rfl, rfl, rfl⟩) l0 rfl rfl ?_
        refine m_fR (r := 8) (a := 9) (ad := 1491) (pc' := 32) rfl rfl cd_Mo_swap rfl rfl rfl rfl rfl ?_
        refine m_k1 (v := 4) (pc' := 33) cd_Mo_swap rfl (by decide) rfl ?_
        refine m_ild (pc' := 34) cd_Mo_swap rfl (Or.inr ⟨_, rfl, rfl, rfl⟩) l3 rfl ?_
        refine m_pure (pc' := 35) (st' := [.int ((4 : Int32) + (nI i)), .ref 1491]) cd_Mo_swap rfl rfl (fun _ _ => rfl) ?_
        refine m_eq (show ((4 : Int32) + (nI i) : Int32) = nI (4 + i) from nI_add 4 i) ?_
        refine m_ild (pc' := 37) cd_Mo_swap rfl (Or.inl ⟨rfl, rfl⟩) l4 rfl ?_
        refine m_k1 (v := (-1)) (pc' := 38) cd_Mo_swap rfl (by decide) rfl ?_
        refine m_if2 (t := 45) (pc' := 41) cd_Mo_swap rfl rfl rfl (fun c38 => ?_) (fun c38 => ?_)
        · have c38 : ¬ y = (-1) := c38
          exact absurd c3 c38
        · have c38 : y = (-1) := Classical.not_not.mp c38
          refine m_k1 (v := 0) (pc' := 42) cd_Mo_swap rfl (by decide) rfl ?_
          refine m_pure (pc' := 52) (st' := [.int 0, .int (nI (4 + i)), .ref 1491]) cd_Mo_swap rfl rfl (fun _ _ => rfl) ?_
          refine m_aS (r := 8) (a := 9) (g := g) (p := (4 + i)) (pc' := 53) rfl rfl cd_Mo_swap rfl rfl rfl (vp_in_nI (by omega) (by decide)) (nI_clamp (by omega)) ?_
          refine m_ald (pc' := 54) cd_Mo_swap rfl (Or.inr ⟨_, rfl, rfl, rfl⟩) l0 rfl rfl ?_
          refine m_ild (pc' := 55) cd_Mo_swap rfl (Or.inr ⟨_, rfl, rfl, rfl⟩) l1 rfl ?_
          refine m_ald (pc' := 56) cd_Mo_swap rfl (Or.inr ⟨_, rfl, rfl, rfl⟩) l0 rfl rfl ?_
          refine m_k2 (v := 7) (pc' := 58) cd_Mo_swap rfl (by decide) rfl ?_
          refine m_ald (pc' := 59) cd_Mo_swap rfl (Or.inr ⟨_, rfl, rfl, rfl⟩) l0 rfl rfl ?_
          refine m_fR (r := 1) (a := 2) (ad := 1484) (pc' := 62) rfl rfl cd_Mo_swap rfl rfl rfl rfl rfl ?_
          refine m_ald (pc' := 63) cd_Mo_swap rfl (Or.inr ⟨_, rfl, rfl, rfl⟩) l0 rfl rfl ?_
          refine m_fR (r := 44) (a := 45) (ad := 1527) (pc' := 66) rfl rfl cd_Mo_swap rfl rfl rfl rfl rfl ?_
          refine m_ild (pc' := 67) cd_Mo_swap rfl (Or.inr ⟨_, rfl, rfl, rfl⟩) l2 rfl ?_
          refine m_aI (r := 44) (a := 45) (g := (A 45)) (x := (nI t1)) (pc' := 68) rfl rfl cd_Mo_swap rfl rfl rfl (vp_in_nI (by omega) (by decide)) (by rw [(nI_clamp (by omega))]; exact et1) ?_
          refine m_aI (r := 1) (a := 2) (g := (A 2)) (x := (mk (reg i1))) (pc' := 69) rfl rfl cd_Mo_swap rfl rfl rfl (vp_in_nI (by omega) (by decide)) ((congrArg (A 2) (nI_clamp (by omega))).trans hmk) ?_
          refine m_k1 (v := 0) (pc' := 70) cd_Mo_swap rfl (by decide) rfl ?_
          refine m_k1 (v := 0) (pc' := 71) cd_Mo_swap rfl (by decide) rfl ?_
          refine m_ci (pc' := 74) cd_Mo_swap rfl rfl rfl rfl rfl cd_Mo_term rfl (Nat.le_of_ble_eq_true rfl) (m_row (P0 := if i = 0 then tz else pt (reg i1) 0) (P1 := if i = 1 then tz else pt (reg i1) 1) (P2 := if i = 2 then tz else pt (reg i1) 2) (P3 := if i = 3 then tz else pt (reg i1) 3) (by exact MT_i hM rfl rfl rfl rfl rfl rfl rfl rfl rfl rfl) hl0 (by exact hr0) (by exact row_h (i := i) (MT_z hM) (hg2 0 (by decide))) (by exact row_h (i := i) (MT_z hM) (hg2 1 (by decide))) (by exact row_h (i := i) (MT_z hM) (hg2 2 (by decide))) (by exact row_h (i := i) (MT_z hM) (hg2 3 (by decide))) (fun f1 A1 T1 r1 hx1 hr1 => ?_))
          have hM1 := hx1.2.2.2
          have hR1 : ∀ i, i < 32 → tv T1 (A 45 i) (reg i) := fun i hi => tv_mono hx1.1 (hR i hi)
          show mg _ _ _ 74 _ [.int r1, .int r, .ref 1482] _ _
          have hX : tv T1 r1 (Trw (mk (reg i1)) (upd g (4 + i) (0 : Int32) 0) (upd g (4 + i) (0 : Int32) 1) (upd g (4 + i) (0 : Int32) 2) (upd g (4 + i) (0 : Int32) 3) (if i = 0 then tz else pt (reg i1) 0) (if i = 1 then tz else pt (reg i1) 1) (if i = 2 then tz else pt (reg i1) 2) (if i = 3 then tz else pt (reg i1) 3)) := hr1
          rw [row_P (hg1 0 (by decide)) (hg1 1 (by decide)) (hg1 2 (by decide)) (hg1 3 (by decide)), ← hrow] at hX
          refine m_ci (pc' := 77) cd_Mo_swap rfl rfl rfl rfl rfl cd_Mo_set rfl (Nat.le_of_ble_eq_true rfl) (m_set (X := (TwP (reg i1) i tz)) (reg := reg) (by exact MT_i hM1 rfl rfl rfl rfl rfl rfl rfl rfl rfl rfl) hR1 hX (fun g45 hg45 => ?_))
          show mg _ _ _ 77 _ [.int ((kp reg r (TwP (reg i1) i tz)).1)] _ _
          have es : sp_spec reg r (nI i1) (nI i) y = kp reg r (TwP (reg i1) i tz) := (if_pos ⟨hr32, by rw [hl_in hi1]; exact k7, hk5, Or.inr c3⟩).trans (by rw [hl_in hi1, hl_out (show inR y 32 = false by rw [c3]; decide), nI_clamp (by omega)])
          rw [es] at kk
          exact m_reti cd_Mo_swap rfl ⟨_, rfl, (kk _ _ T1 hx1.1 hx1.2.1 hx1.2.2.1 (by exact MT_i hM1 rfl rfl rfl rfl rfl rfl rfl rfl rfl rfl) (fun k q => by have e0 : ¬ k = 0 := (by omega); have e7 : ¬ k = 7 := (by omega); simp only [mjF, e0, e7, or_self, if_false]) (fun j q q2 => by have e0 : ¬ (1 ≤ j ∧ j ≤ 8) := (by omega); have e9 : ¬ j = 9 := (by omega); simp only [fset, mjA, e0, e9, q2, if_false]) hg45)⟩
      · exact absurd (show ¬ (¬ (1 : Int32) = 0) from c23) (by decide)
  · have c3 : ¬ y = (-1) := c3
    refine m_ald (pc' := 7) cd_Mo_swap rfl (Or.inr ⟨_, rfl, rfl, rfl⟩) l0 rfl rfl ?_
    refine m_ild (pc' := 9) cd_Mo_swap rfl (Or.inl ⟨rfl, rfl⟩) l4 rfl ?_
    refine m_ci (pc' := 12) cd_Mo_swap rfl rfl rfl rfl rfl cd_Mo_isHeld rfl (Nat.le_of_ble_eq_true rfl) (m_held hM hR ?_)
    show mg _ _ _ 12 _ [.int (bz (!tnil (hl reg y)))] _ _
    refine m_if1 (t := 26) (pc' := 15) cd_Mo_swap rfl rfl rfl (fun c12 => ?_) (fun c12 => ?_)
    · have c12 : (!tnil (hl reg y)) = false := bz_f c12
      refine m_k1 (v := (-1)) (pc' := 27) cd_Mo_swap rfl (by decide) rfl ?_
      exact m_reti cd_Mo_swap rfl ⟨_, rfl, (by rw [show sp_spec reg r x k y = (-1, reg) from if_neg (fun q => q.2.2.2.elim (fun q => Bool.noConfusion ((tnil_iff.mpr (held_no c12)).symm.trans q)) c3)] at kk; exact kk f A T (List.prefix_refl T) (by omega) (by omega) hM (fun _ _ => rfl) (fun _ _ _ => rfl) hR)⟩
    · have c12 : (!tnil (hl reg y)) = true := bz_t c12
      obtain ⟨i2, hi2, ex2, nz2⟩ := held_in c12
      subst ex2
      obtain ⟨t2, et2, ht2⟩ := hR i2 hi2
      have htl2 := tv_lt ht2
      have hTl0 := MT_len hM
      refine m_ald (pc' := 16) cd_Mo_swap rfl (Or.inr ⟨_, rfl, rfl, rfl⟩) l0 rfl rfl ?_
      refine m_ild (pc' := 17) cd_Mo_swap rfl (Or.inr ⟨_, rfl, rfl, rfl⟩) l1 rfl ?_
      refine m_ild (pc' := 18) cd_Mo_swap rfl (Or.inr ⟨_, rfl, rfl, rfl⟩) l2 rfl ?_
      refine m_ild (pc' := 19) cd_Mo_swap rfl (Or.inr ⟨_, rfl, rfl, rfl⟩) l3 rfl ?_
      refine m_k1 (v := 3) (pc' := 20) cd_Mo_swap rfl (by decide) rfl ?_
      refine m_ci (pc' := 23) cd_Mo_swap rfl rfl rfl rfl rfl cd_Mo_copies rfl (Nat.le_of_ble_eq_true rfl) (m_copies3 hM hR (fun hno => ?_) (fun hr32 i1 t1 ex hi1 et1 ht1 k7 hk5 g hg1 hg2 => ?_))
      · skip
        show mg _ _ _ 23 _ [.int 0] _ _
        refine m_if1 (t := 28) (pc' := 26) cd_Mo_swap rfl rfl rfl (fun c23 => ?_) (fun c23 => ?_)
        · exact absurd (show ¬ (0 : Int32) = 0 from c23) (by decide)
        · have c23 : (0 : Int32) = 0 := Classical.not_not.mp c23
          refine m_k1 (v := (-1)) (pc' := 27) cd_Mo_swap rfl (by decide) rfl ?_
          exact m_reti cd_Mo_swap rfl ⟨_, rfl, (by rw [show sp_spec reg r x k (nI i2) = (-1, reg) from if_neg (fun q => hno ⟨q.1, q.2.1, q.2.2.1⟩)] at kk; exact kk f A T (List.prefix_refl T) (by omega) (by omega) hM (fun _ _ => rfl) (fun _ _ _ => rfl) hR)⟩
      · skip
        subst ex
        have htl1 := tv_lt ht1
        have hTl := MT_len hM
        have hmk := MT_mk hM ht1 (Or.inr (Or.inr k7))
        have hrow := row_of hM ht1 k7
        show mg _ _ _ 23 _ [.int 1] _ _
        refine m_if1 (t := 28) (pc' := 26) cd_Mo_swap rfl rfl rfl (fun c23 => ?_) (fun c23 => ?_)
        · have c23 : ¬ (1 : Int32) = 0 := c23
          obtain ⟨i, hi, ek⟩ := inR_of (n := 4) (by decide) hk5
          subst ek
          refine m_ald (pc' := 29) cd_Mo_swap rfl (Or.inr ⟨_, rfl, rfl, rfl⟩) l0 rfl rfl ?_
          refine m_fR (r := 8) (a := 9) (ad := 1491) (pc' := 32) rfl rfl cd_Mo_swap rfl rfl rfl rfl rfl ?_
          refine m_k1 (v := 4) (pc' := 33) cd_Mo_swap rfl (by decide) rfl ?_
          refine m_ild (pc' := 34) cd_Mo_swap rfl (Or.inr ⟨_, rfl, rfl, rfl⟩) l3 rfl ?_
          refine m_pure (pc' := 35) (st' := [.int ((4 : Int32) + (nI i)), .ref 1491]) cd_Mo_swap rfl rfl (fun _ _ => rfl) ?_
          refine m_eq (show ((4 : Int32) + (nI i) : Int32) = nI (4 + i) from nI_add 4 i) ?_
          refine m_ild (pc' := 37) cd_Mo_swap rfl (Or.inl ⟨rfl, rfl⟩) l4 rfl ?_
          refine m_k1 (v := (-1)) (pc' := 38) cd_Mo_swap rfl (by decide) rfl ?_
          refine m_if2 (t := 45) (pc' := 41) cd_Mo_swap rfl rfl rfl (fun c38 => ?_) (fun c38 => ?_)
          · have c38 : ¬ (nI i2) = (-1) := c38
            refine m_ald (pc' := 46) cd_Mo_swap rfl (Or.inr ⟨_, rfl, rfl, rfl⟩) l0 rfl rfl ?_
            refine m_fR (r := 44) (a := 45) (ad := 1527) (pc' := 49) rfl rfl cd_Mo_swap rfl rfl rfl rfl rfl ?_
            refine m_ild (pc' := 51) cd_Mo_swap rfl (Or.inl ⟨rfl, rfl⟩) l4 rfl ?_
            refine m_aI (r := 44) (a := 45) (g := (A 45)) (x := (nI t2)) (pc' := 52) rfl rfl cd_Mo_swap rfl rfl rfl (vp_in_nI (by omega) (by decide)) (by rw [(nI_clamp (by omega))]; exact et2) ?_
            refine m_aS (r := 8) (a := 9) (g := g) (p := (4 + i)) (pc' := 53) rfl rfl cd_Mo_swap rfl rfl rfl (vp_in_nI (by omega) (by decide)) (nI_clamp (by omega)) ?_
            refine m_ald (pc' := 54) cd_Mo_swap rfl (Or.inr ⟨_, rfl, rfl, rfl⟩) l0 rfl rfl ?_
            refine m_ild (pc' := 55) cd_Mo_swap rfl (Or.inr ⟨_, rfl, rfl, rfl⟩) l1 rfl ?_
            refine m_ald (pc' := 56) cd_Mo_swap rfl (Or.inr ⟨_, rfl, rfl, rfl⟩) l0 rfl rfl ?_
            refine m_k2 (v := 7) (pc' := 58) cd_Mo_swap rfl (by decide) rfl ?_
            refine m_ald (pc' := 59) cd_Mo_swap rfl (Or.inr ⟨_, rfl, rfl, rfl⟩) l0 rfl rfl ?_
            refine m_fR (r := 1) (a := 2) (ad := 1484) (pc' := 62) rfl rfl cd_Mo_swap rfl rfl rfl rfl rfl ?_
            refine m_ald (pc' := 63) cd_Mo_swap rfl (Or.inr ⟨_, rfl, rfl, rfl⟩) l0 rfl rfl ?_
            refine m_fR (r := 44) (a := 45) (ad := 1527) (pc' := 66) rfl rfl cd_Mo_swap rfl rfl rfl rfl rfl ?_
            refine m_ild (pc' := 67) cd_Mo_swap rfl (Or.inr ⟨_, rfl, rfl, rfl⟩) l2 rfl ?_
            refine m_aI (r := 44) (a := 45) (g := (A 45)) (x := (nI t1)) (pc' := 68) rfl rfl cd_Mo_swap rfl rfl rfl (vp_in_nI (by omega) (by decide)) (by rw [(nI_clamp (by omega))]; exact et1) ?_
            refine m_aI (r := 1) (a := 2) (g := (A 2)) (x := (mk (reg i1))) (pc' := 69) rfl rfl cd_Mo_swap rfl rfl rfl (vp_in_nI (by omega) (by decide)) ((congrArg (A 2) (nI_clamp (by omega))).trans hmk) ?_
            refine m_k1 (v := 0) (pc' := 70) cd_Mo_swap rfl (by decide) rfl ?_
            refine m_k1 (v := 0) (pc' := 71) cd_Mo_swap rfl (by decide) rfl ?_
            refine m_ci (pc' := 74) cd_Mo_swap rfl rfl rfl rfl rfl cd_Mo_term rfl (Nat.le_of_ble_eq_true rfl) (m_row (P0 := if i = 0 then (reg i2) else pt (reg i1) 0) (P1 := if i = 1 then (reg i2) else pt (reg i1) 1) (P2 := if i = 2 then (reg i2) else pt (reg i1) 2) (P3 := if i = 3 then (reg i2) else pt (reg i1) 3) (by exact MT_i hM rfl rfl rfl rfl rfl rfl rfl rfl rfl rfl) hl0 (by exact hr0) (by exact row_h (i := i) (⟨t2, rfl, ht2⟩ : tv T (nI t2) (reg i2)) (hg2 0 (by decide))) (by exact row_h (i := i) (⟨t2, rfl, ht2⟩ : tv T (nI t2) (reg i2)) (hg2 1 (by decide))) (by exact row_h (i := i) (⟨t2, rfl, ht2⟩ : tv T (nI t2) (reg i2)) (hg2 2 (by decide))) (by exact row_h (i := i) (⟨t2, rfl, ht2⟩ : tv T (nI t2) (reg i2)) (hg2 3 (by decide))) (fun f1 A1 T1 r1 hx1 hr1 => ?_))
            have hM1 := hx1.2.2.2
            have hR1 : ∀ i, i < 32 → tv T1 (A 45 i) (reg i) := fun i hi => tv_mono hx1.1 (hR i hi)
            show mg _ _ _ 74 _ [.int r1, .int r, .ref 1482] _ _
            have hX : tv T1 r1 (Trw (mk (reg i1)) (upd g (4 + i) (nI t2) 0) (upd g (4 + i) (nI t2) 1) (upd g (4 + i) (nI t2) 2) (upd g (4 + i) (nI t2) 3) (if i = 0 then (reg i2) else pt (reg i1) 0) (if i = 1 then (reg i2) else pt (reg i1) 1) (if i = 2 then (reg i2) else pt (reg i1) 2) (if i = 3 then (reg i2) else pt (reg i1) 3)) := hr1
            rw [row_P (hg1 0 (by decide)) (hg1 1 (by decide)) (hg1 2 (by decide)) (hg1 3 (by decide)), ← hrow] at hX
            refine m_ci (pc' := 77) cd_Mo_swap rfl rfl rfl rfl rfl cd_Mo_set rfl (Nat.le_of_ble_eq_true rfl) (m_set (X := (TwP (reg i1) i (reg i2))) (reg := reg) (by exact MT_i hM1 rfl rfl rfl rfl rfl rfl rfl rfl rfl rfl) hR1 hX (fun g45 hg45 => ?_))
            show mg _ _ _ 77 _ [.int ((kp reg r (TwP (reg i1) i (reg i2))).1)] _ _
            have es : sp_spec reg r (nI i1) (nI i) (nI i2) = kp reg r (TwP (reg i1) i (reg i2)) := (if_pos ⟨hr32, by rw [hl_in hi1]; exact k7, hk5, Or.inl (by rw [hl_in hi2]; exact tnil_f nz2)⟩).trans (by rw [hl_in hi1, hl_in hi2, nI_clamp (by omega)])
            rw [es] at kk
            exact m_reti cd_Mo_swap rfl ⟨_, rfl, (kk _ _ T1 hx1.1 hx1.2.1 hx1.2.2.1 (by exact MT_i hM1 rfl rfl rfl rfl rfl rfl rfl rfl rfl rfl) (fun k q => by have e0 : ¬ k = 0 := (by omega); have e7 : ¬ k = 7 := (by omega); simp only [mjF, e0, e7, or_self, if_false]) (fun j q q2 => by have e0 : ¬ (1 ≤ j ∧ j ≤ 8) := (by omega); have e9 : ¬ j = 9 := (by omega); simp only [fset, mjA, e0, e9, q2, if_false]) hg45)⟩
          · have c38 : (nI i2) = (-1) := Classical.not_not.mp c38
            exact absurd c38 (nI_nm1 (by omega))
        · exact absurd (show ¬ (¬ (1 : Int32) = 0) from c23) (by decide)
