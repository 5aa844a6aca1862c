/-! The reference: plant, draw, crash, up -/
set_option maxRecDepth 100000 in
theorem mo_plant {sc : tm_X} {d : Nat} {f : Nat → Int32} {A : Nat → Nat → Int32} {T : List Tm} {DL : List (Int32 × Int32)} {G Kw : Tm → Prop} {reg : Nat → Tm} {dir : Nat → Tm} {p a r : Int32} {Q : Int32 → MS → Prop} (hM : MT f A T DL G Kw) (hR : ∀ i, i < 32 → tv T (A 45 i) (reg i)) (hdir : ∀ i, i < 30 → tv T (A 17 i) (dir i)) (kN : pl_spec reg dir p a r = (-1, dir) → Q (-1) (f, A)) (kk : (pl_spec reg dir p a r).1 = 1 → ∀ v g g5, (∀ i, i < 30 → tv T (g i) ((pl_spec reg dir p a r).2 i)) → (v = 1 ∨ (v = f 16 ∧ (hl reg r = tz ∨ G (hl reg r)))) → MT (fset f 16 v) (fset (fset A 17 g) 5 g5) T DL (fun y => G y ∨ (y = hl reg r ∧ hl reg r ≠ tz)) Kw → Q 1 (fset f 16 v, fset (fset A 17 g) 5 g5)) : mGi sc (d + 2) 264 [.ref 1482, .int p, .int a, .int r] (f, A) Q := by
  show mg sc (d + 2) 264 0 [(0, .ref 1482), (1, .int p), (2, .int a), (3, .int r)] [] (f, A) _
  generalize elv : ([(0, .ref 1482), (1, .int p), (2, .int a), (3, .int r)] : tm_L) = lv
  have l0 : lv.lookup 0 = some (.ref 1482) := by rw [← elv]; rfl
  have l1 : lv.lookup 1 = some (.int p) := by rw [← elv]; rfl
  have l2 : lv.lookup 2 = some (.int a) := by rw [← elv]; rfl
  have l3 : lv.lookup 3 = some (.int r) := by rw [← elv]; rfl
  clear elv
  refine m_ild (pc' := 1) cd_Mo_plant rfl (Or.inr ⟨_, rfl, rfl, rfl⟩) l1 rfl ?_
  refine m_si (pc' := 4) cd_Mo_plant rfl rfl rfl rfl rfl cd_Mo_isDevice rfl (Nat.le_of_ble_eq_true rfl) (m_isDevice ?_)
  show mg _ _ _ 4 _ [.int (bz (inR p 6))] _ _
  refine m_if1 (t := 29) (pc' := 7) cd_Mo_plant rfl rfl rfl (fun c4 => ?_) (fun c4 => ?_)
  · have c4 : (inR p 6) = false := bz_f c4
    refine m_k1 (v := (-1)) (pc' := 30) cd_Mo_plant rfl (by decide) rfl ?_
    exact m_reti cd_Mo_plant rfl ⟨_, rfl, kN (if_neg (fun q => Bool.noConfusion (c4.symm.trans q.1)))⟩
  · have c4 : (inR p 6) = true := bz_t c4
    refine m_ild (pc' := 8) cd_Mo_plant rfl (Or.inr ⟨_, rfl, rfl, rfl⟩) l2 rfl ?_
    refine m_if1 (t := 29) (pc' := 11) cd_Mo_plant rfl rfl rfl (fun c8 => ?_) (fun c8 => ?_)
    · have c8 : a < 0 := c8
      refine m_k1 (v := (-1)) (pc' := 30) cd_Mo_plant rfl (by decide) rfl ?_
      exact m_reti cd_Mo_plant rfl ⟨_, rfl, kN (if_neg (fun q => Bool.noConfusion ((inR_lo c8).symm.trans q.2.1)))⟩
    · have c8 : ¬ a < 0 := c8
      refine m_ild (pc' := 12) cd_Mo_plant rfl (Or.inr ⟨_, rfl, rfl, rfl⟩) l2 rfl ?_
      refine m_k1 (v := 4) (pc' := 13) cd_Mo_plant rfl (by decide) rfl ?_
      refine m_if2 (t := 29) (pc' := 16) cd_Mo_plant rfl rfl rfl (fun c13 => ?_) (fun c13 => ?_)
      · have c13 : (4 : Int32) < a := c13
        refine m_k1 (v := (-1)) (pc' := 30) cd_Mo_plant rfl (by decide) rfl ?_
        exact m_reti cd_Mo_plant rfl ⟨_, rfl, kN (if_neg (fun q => Bool.noConfusion ((inR_gt (m := 4) (by decide) (fun z => absurd c13 (Int32.not_lt.mpr z))).symm.trans q.2.1)))⟩
      · have c13 : ¬ (4 : Int32) < a := c13
        obtain ⟨p1, hp1, ep⟩ := inR_of (n := 6) (by decide) c4
        subst ep
        have ha5 : inR a 5 = true := inR_le (m := 4) (by decide) c8 (Int32.not_lt.mp c13)
        obtain ⟨j, hj, ea⟩ := inR_of (n := 5) (by decide) ha5
        subst ea
        refine m_ild (pc' := 17) cd_Mo_plant rfl (Or.inr ⟨_, rfl, rfl, rfl⟩) l3 rfl ?_
        refine m_k1 (v := (-1)) (pc' := 18) cd_Mo_plant rfl (by decide) rfl ?_
        refine m_if2 (t := 31) (pc' := 21) cd_Mo_plant rfl rfl rfl (fun c18 => ?_) (fun c18 => ?_)
        · have c18 : r = (-1) := c18
          refine m_ald (pc' := 32) cd_Mo_plant rfl (Or.inr ⟨_, rfl, rfl, rfl⟩) l0 rfl rfl ?_
          refine m_k1 (v := 5) (pc' := 33) cd_Mo_plant rfl (by decide) rfl ?_
          refine m_ild (pc' := 34) cd_Mo_plant rfl (Or.inr ⟨_, rfl, rfl, rfl⟩) l1 rfl ?_
          refine m_pure (pc' := 35) (st' := [.int ((5 : Int32) * (nI p1)), .ref 1482]) cd_Mo_plant rfl rfl (fun _ _ => rfl) ?_
          refine m_eq (show ((5 : Int32) * (nI p1) : Int32) = nI (5 * p1) from pk_mul 5 p1) ?_
          refine m_ild (pc' := 36) cd_Mo_plant rfl (Or.inr ⟨_, rfl, rfl, rfl⟩) l2 rfl ?_
          refine m_pure (pc' := 37) (st' := [.int ((nI (5 * p1)) + (nI j)), .ref 1482]) cd_Mo_plant rfl rfl (fun _ _ => rfl) ?_
          refine m_eq (show ((nI (5 * p1)) + (nI j) : Int32) = nI ((5 * p1) + j) from nI_add (5 * p1) j) ?_
          refine m_ild (pc' := 38) cd_Mo_plant rfl (Or.inr ⟨_, rfl, rfl, rfl⟩) l3 rfl ?_
          refine m_k1 (v := (-1)) (pc' := 39) cd_Mo_plant rfl (by decide) rfl ?_
          refine m_if2 (t := 46) (pc' := 42) cd_Mo_plant rfl rfl rfl (fun c39 => ?_) (fun c39 => ?_)
          · have c39 : ¬ r = (-1) := c39
            exact absurd c18 c39
          · have c39 : r = (-1) := Classical.not_not.mp c39
            refine m_k1 (v := 0) (pc' := 43) cd_Mo_plant rfl (by decide) rfl ?_
            refine m_pure (pc' := 52) (st' := [.int 0, .int (nI ((5 * p1) + j)), .ref 1482]) cd_Mo_plant rfl rfl (fun _ _ => rfl) ?_
            refine m_cv (pc' := 55) cd_Mo_plant rfl rfl rfl rfl rfl cd_Mo_put rfl (Nat.le_of_ble_eq_true rfl) (m_put (X := tz) hM (q := 5 * p1 + j) (by omega) (MT_z hM) (fun v g5 hv hM2 => ?_))
            show mg _ _ _ 55 _ [] _ _
            refine m_k1 (v := 1) (pc' := 56) cd_Mo_plant rfl (by decide) rfl ?_
            have hhl : hl reg r = tz := hl_out (by rw [c18]; decide)
            have esp : pl_spec reg dir (nI p1) (nI j) r = (1, fset dir (p1 * 5 + j) tz) := (if_pos ⟨c4, ha5, Or.inr c18⟩).trans (by rw [nI_clamp (by omega), nI_clamp (by omega), hhl])
            rw [hhl, esp] at kk
            have hgd : ∀ i, i < 30 → tv T (upd (A 17) (5 * p1 + j) 0 i) (fset dir (p1 * 5 + j) tz i) := fun i hi => by
              rw [Nat.mul_comm p1 5]
              by_cases z : i = 5 * p1 + j
              · rw [z, upd_same, fset_same]; exact (MT_z hM)
              · rw [upd_ne z, fset_ne z]; exact hdir i hi
            exact m_reti cd_Mo_plant rfl ⟨_, rfl, kk rfl v _ g5 hgd hv hM2⟩
        · have c18 : ¬ r = (-1) := c18
          refine m_ald (pc' := 22) cd_Mo_plant rfl (Or.inr ⟨_, rfl, rfl, rfl⟩) l0 rfl rfl ?_
          refine m_ild (pc' := 23) cd_Mo_plant rfl (Or.inr ⟨_, rfl, rfl, rfl⟩) l3 rfl ?_
          refine m_ci (pc' := 26) cd_Mo_plant rfl rfl rfl rfl rfl cd_Mo_isHeld rfl (Nat.le_of_ble_eq_true rfl) (m_held hM hR ?_)
          show mg _ _ _ 26 _ [.int (bz (!tnil (hl reg r)))] _ _
          refine m_if1 (t := 31) (pc' := 29) cd_Mo_plant rfl rfl rfl (fun c26 => ?_) (fun c26 => ?_)
          · have c26 : (!tnil (hl reg r)) = true := bz_t c26
            obtain ⟨i2, hi2, ex2, nz2⟩ := held_in c26
            subst ex2
            obtain ⟨t2, et2, ht2⟩ := hR i2 hi2
            have htl2 := tv_lt ht2
            have hTl0 := MT_len hM
            refine m_ald (pc' := 32) cd_Mo_plant rfl (Or.inr ⟨_, rfl, rfl, rfl⟩) l0 rfl rfl ?_
            refine m_k1 (v := 5) (pc' := 33) cd_Mo_plant rfl (by decide) rfl ?_
            refine m_ild (pc' := 34) cd_Mo_plant rfl (Or.inr ⟨_, rfl, rfl, rfl⟩) l1 rfl ?_
            refine m_pure (pc' := 35) (st' := [.int ((5 : Int32) * (nI p1)), .ref 1482]) cd_Mo_plant rfl rfl (fun _ _ => rfl) ?_
            refine m_eq (show ((5 : Int32) * (nI p1) : Int32) = nI (5 * p1) from pk_mul 5 p1) ?_
            refine m_ild (pc' := 36) cd_Mo_plant rfl (Or.inr ⟨_, rfl, rfl, rfl⟩) l2 rfl ?_
            refine m_pure (pc' := 37) (st' := [.int ((nI (5 * p1)) + (nI j)), .ref 1482]) cd_Mo_plant rfl rfl (fun _ _ => rfl) ?_
            refine m_eq (show ((nI (5 * p1)) + (nI j) : Int32) = nI ((5 * p1) + j) from nI_add (5 * p1) j) ?_
            refine m_ild (pc' := 38) cd_Mo_plant rfl (Or.inr ⟨_, rfl, rfl, rfl⟩) l3 rfl ?_
            refine m_k1 (v := (-1)) (pc' := 39) cd_Mo_plant rfl (by decide) rfl ?_
            refine m_if2 (t := 46) (pc' := 42) cd_Mo_plant rfl rfl rfl (fun c39 => ?_) (fun c39 => ?_)
            · have c39 : ¬ (nI i2) = (-1) := c39
              refine m_ald (pc' := 47) cd_Mo_plant rfl (Or.inr ⟨_, rfl, rfl, rfl⟩) l0 rfl rfl ?_
              refine m_fR (r := 44) (a := 45) (ad := 1527) (pc' := 50) rfl rfl cd_Mo_plant rfl rfl rfl rfl rfl ?_
              refine m_ild (pc' := 51) cd_Mo_plant rfl (Or.inr ⟨_, rfl, rfl, rfl⟩) l3 rfl ?_
              refine m_aI (r := 44) (a := 45) (g := (A 45)) (x := (nI t2)) (pc' := 52) rfl rfl cd_Mo_plant rfl rfl rfl (vp_in_nI (by omega) (by decide)) (by rw [(nI_clamp (by omega))]; exact et2) ?_
              refine m_cv (pc' := 55) cd_Mo_plant rfl rfl rfl rfl rfl cd_Mo_put rfl (Nat.le_of_ble_eq_true rfl) (m_put (X := (reg i2)) hM (q := 5 * p1 + j) (by omega) ⟨t2, rfl, ht2⟩ (fun v g5 hv hM2 => ?_))
              show mg _ _ _ 55 _ [] _ _
              refine m_k1 (v := 1) (pc' := 56) cd_Mo_plant rfl (by decide) rfl ?_
              have hhl : hl reg (nI i2) = (reg i2) := hl_in hi2
              have esp : pl_spec reg dir (nI p1) (nI j) (nI i2) = (1, fset dir (p1 * 5 + j) (reg i2)) := (if_pos ⟨c4, ha5, Or.inl (by rw [hhl]; exact tnil_f nz2)⟩).trans (by rw [nI_clamp (by omega), nI_clamp (by omega), hhl])
              rw [hhl, esp] at kk
              have hgd : ∀ i, i < 30 → tv T (upd (A 17) (5 * p1 + j) (nI t2) i) (fset dir (p1 * 5 + j) (reg i2) i) := fun i hi => by
                rw [Nat.mul_comm p1 5]
                by_cases z : i = 5 * p1 + j
                · rw [z, upd_same, fset_same]; exact (⟨t2, rfl, ht2⟩ : tv T (nI t2) (reg i2))
                · rw [upd_ne z, fset_ne z]; exact hdir i hi
              exact m_reti cd_Mo_plant rfl ⟨_, rfl, kk rfl v _ g5 hgd hv hM2⟩
            · have c39 : (nI i2) = (-1) := Classical.not_not.mp c39
              exact absurd c39 (nI_nm1 (by omega))
          · have c26 : (!tnil (hl reg r)) = false := bz_f (Classical.not_not.mp c26)
            refine m_k1 (v := (-1)) (pc' := 30) cd_Mo_plant rfl (by decide) rfl ?_
            exact m_reti cd_Mo_plant rfl ⟨_, rfl, kN (if_neg (fun q => q.2.2.elim (fun z => by rw [held_no c26] at z; exact absurd z (by decide)) c18))⟩
