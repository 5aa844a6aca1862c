/-! The reference: about, put, plant -/
theorem inR_le {x : Int32} {n m : Int32} (hm : m.toInt + 1 = n.toInt) (h : ¬ x < 0) (h2 : x ≤ m) : inR x n = true := inR_t h (fun q => by have g1 := Int32.le_iff_toInt_le.mp q; have g2 := Int32.le_iff_toInt_le.mp h2; omega)
theorem inR_gt {x : Int32} {n m : Int32} (hm : m.toInt + 1 = n.toInt) (h2 : ¬ x ≤ m) : inR x n = false := inR_hi (Int32.le_iff_toInt_le.mpr (by have g2 := Int32.lt_iff_toInt_lt.mp (Int32.not_le.mp h2); omega))
set_option maxRecDepth 100000 in
theorem mo_about {sc : tm_X} {d : Nat} {f : Nat → Int32} {A : Nat → Nat → Int32} {T : List Tm} {DL : List (Int32 × Int32)} {G Kw : Tm → Prop} {reg : Nat → Tm} {x a : Int32} {Q : Int32 → MS → Prop} (hM : MT f A T DL G Kw) (hR : ∀ i, i < 32 → tv T (A 45 i) (reg i)) (kk : Q (ab_spec reg x a) (f, A)) : mGi sc (d + 2) 268 [.ref 1482, .int x, .int a] (f, A) Q := by
  show mg sc (d + 2) 268 0 [(0, .ref 1482), (1, .int x), (2, .int a)] [] (f, A) _
  generalize elv : ([(0, .ref 1482), (1, .int x), (2, .int a)] : tm_L) = lv
  have l0 : lv.lookup 0 = some (.ref 1482) := by rw [← elv]; rfl
  have l1 : lv.lookup 1 = some (.int x) := by rw [← elv]; rfl
  have l2 : lv.lookup 2 = some (.int a) := by rw [← elv]; rfl
  clear elv
  refine m_ald (pc' := 1) cd_Mo_about rfl (Or.inr ⟨_, rfl, rfl, rfl⟩) l0 rfl rfl ?_
  refine m_ild (pc' := 2) cd_Mo_about rfl (Or.inr ⟨_, rfl, rfl, rfl⟩) l1 rfl ?_
  refine m_ci (pc' := 5) cd_Mo_about rfl rfl rfl rfl rfl cd_Mo_isHeld rfl (Nat.le_of_ble_eq_true rfl) (m_held hM hR ?_)
  show mg _ _ _ 5 _ [.int (bz (!tnil (hl reg x)))] _ _
  refine m_if1 (t := 17) (pc' := 8) cd_Mo_about rfl rfl rfl (fun c5 => ?_) (fun c5 => ?_)
  · have c5 : (!tnil (hl reg x)) = false := bz_f c5
    refine m_k1 (v := (-1)) (pc' := 18) cd_Mo_about rfl (by decide) rfl ?_
    exact m_reti cd_Mo_about rfl ⟨_, rfl, (by rw [show ab_spec reg x a = -1 from if_pos (Or.inl (tnil_iff.mpr (held_no c5)))] at kk; exact kk)⟩
  · have c5 : (!tnil (hl reg x)) = true := bz_t c5
    obtain ⟨i1, hi1, ex1, nz1⟩ := held_in c5
    subst ex1
    obtain ⟨t1, et1, ht1⟩ := hR i1 hi1
    have htl1 := tv_lt ht1
    have hTl0 := MT_len hM
    refine m_ild (pc' := 9) cd_Mo_about rfl (Or.inr ⟨_, rfl, rfl, rfl⟩) l2 rfl ?_
    refine m_if1 (t := 17) (pc' := 12) cd_Mo_about rfl rfl rfl (fun c9 => ?_) (fun c9 => ?_)
    · have c9 : a < 0 := c9
      refine m_k1 (v := (-1)) (pc' := 18) cd_Mo_about rfl (by decide) rfl ?_
      exact m_reti cd_Mo_about rfl ⟨_, rfl, (by rw [show ab_spec reg (nI i1) a = -1 from if_pos (Or.inr (inR_lo c9))] at kk; exact kk)⟩
    · have c9 : ¬ a < 0 := c9
      refine m_ild (pc' := 13) cd_Mo_about rfl (Or.inr ⟨_, rfl, rfl, rfl⟩) l2 rfl ?_
      refine m_k1 (v := 5) (pc' := 14) cd_Mo_about rfl (by decide) rfl ?_
      refine m_if2 (t := 19) (pc' := 17) cd_Mo_about rfl rfl rfl (fun c14 => ?_) (fun c14 => ?_)
      · have c14 : a ≤ 5 := c14
        have ha6 : inR a 6 = true := inR_le (m := 5) (by decide) c9 c14
        obtain ⟨j, hj, ea⟩ := inR_of (n := 6) (by decide) ha6
        subst ea
        refine m_ald (pc' := 20) cd_Mo_about rfl (Or.inr ⟨_, rfl, rfl, rfl⟩) l0 rfl rfl ?_
        refine m_fR (r := 44) (a := 45) (ad := 1527) (pc' := 23) rfl rfl cd_Mo_about rfl rfl rfl rfl rfl ?_
        refine m_ild (pc' := 24) cd_Mo_about rfl (Or.inr ⟨_, rfl, rfl, rfl⟩) l1 rfl ?_
        refine m_aI (r := 44) (a := 45) (g := (A 45)) (x := (nI t1)) (pc' := 25) rfl rfl cd_Mo_about rfl rfl rfl (vp_in_nI (by omega) (by decide)) (by rw [(nI_clamp (by omega))]; exact et1) ?_
        refine m_ist (pc' := 26) cd_Mo_about rfl (Or.inr ⟨_, rfl, rfl, rfl⟩) (by decide) rfl (fun lv el => ?_)
        have l0 := tm_lk el l0 rfl (by decide)
        have l1 := tm_lk el l1 rfl (by decide)
        have l2 := tm_lk el l2 rfl (by decide)
        have l3 : lv.lookup 3 = some (.int ((nI t1))) := tm_lks el
        clear el
        refine m_ild (pc' := 27) cd_Mo_about rfl (Or.inr ⟨_, rfl, rfl, rfl⟩) l2 rfl ?_
        refine m_if1 (t := 37) (pc' := 30) cd_Mo_about rfl rfl rfl (fun c27 => ?_) (fun c27 => ?_)
        · have c27 : ¬ (nI j) = 0 := c27
          refine m_ild (pc' := 38) cd_Mo_about rfl (Or.inr ⟨_, rfl, rfl, rfl⟩) l2 rfl ?_
          refine m_k1 (v := 1) (pc' := 39) cd_Mo_about rfl (by decide) rfl ?_
          refine m_if2 (t := 74) (pc' := 42) cd_Mo_about rfl rfl rfl (fun c39 => ?_) (fun c39 => ?_)
          · have c39 : ¬ (nI j) = 1 := c39
            have j0 : j ≠ 0 := fun e => c27 (by rw [e]; rfl)
            have j1 : j ≠ 1 := fun e => c39 (by rw [e]; rfl)
            refine m_ald (pc' := 75) cd_Mo_about rfl (Or.inr ⟨_, rfl, rfl, rfl⟩) l0 rfl rfl ?_
            refine m_fR (r := 0) (a := 1) (ad := 1483) (pc' := 78) rfl rfl cd_Mo_about rfl rfl rfl rfl rfl ?_
            refine m_ild (pc' := 79) cd_Mo_about rfl (Or.inr ⟨_, rfl, rfl, rfl⟩) l3 rfl ?_
            refine m_aI (r := 0) (a := 1) (g := (A 1)) (x := (kd (reg i1))) (pc' := 80) rfl rfl cd_Mo_about rfl rfl rfl (vp_in_nI (by omega) (by decide)) ((congrArg (A 1) (nI_clamp (by omega))).trans (MT_kd hM ht1)) ?_
            refine m_k2 (v := 7) (pc' := 82) cd_Mo_about rfl (by decide) rfl ?_
            refine m_if2 (t := 96) (pc' := 85) cd_Mo_about rfl rfl rfl (fun c82 => ?_) (fun c82 => ?_)
            · have c82 : ¬ (kd (reg i1)) = 7 := c82
              refine m_k1 (v := 0) (pc' := 97) cd_Mo_about rfl (by decide) rfl ?_
              exact m_reti cd_Mo_about rfl ⟨_, rfl, (by unfold ab_spec at kk; rw [if_neg (show ¬ (tnil (hl reg (nI i1)) = true ∨ inR (nI j) 6 = false) from fun q => q.elim (fun q => by rw [hl_in hi1] at q; exact nz1 (tnil_iff.mp q)) (fun q => Bool.noConfusion (q.symm.trans ha6))), hl_in hi1, if_neg c27, if_neg c39, if_neg c82] at kk; exact kk)⟩
            · have c82 : (kd (reg i1)) = 7 := Classical.not_not.mp c82
              refine m_ald (pc' := 86) cd_Mo_about rfl (Or.inr ⟨_, rfl, rfl, rfl⟩) l0 rfl rfl ?_
              refine m_ild (pc' := 87) cd_Mo_about rfl (Or.inr ⟨_, rfl, rfl, rfl⟩) l3 rfl ?_
              refine m_ild (pc' := 88) cd_Mo_about rfl (Or.inr ⟨_, rfl, rfl, rfl⟩) l2 rfl ?_
              refine m_k1 (v := 2) (pc' := 89) cd_Mo_about rfl (by decide) rfl ?_
              refine m_pure (pc' := 90) (st' := [.int ((nI j) - 2), .int ((nI t1)), .ref 1482]) cd_Mo_about rfl rfl (fun _ _ => rfl) ?_
              refine m_eq (show ((nI j) - 2 : Int32) = nI (j - 2) from pk_sub (a := j) (b := 2) (by omega)) ?_
              refine m_ci (pc' := 93) cd_Mo_about rfl rfl rfl rfl rfl cd_Mo_cell rfl (Nat.le_of_ble_eq_true rfl) (m_cellN (k := j - 2) hM ht1 c82 (by omega) ?_)
              show mg _ _ _ 93 _ [.int (nu (reg i1) (j - 2))] _ _
              refine m_pure (pc' := 97) (st' := [.int (nu (reg i1) (j - 2))]) cd_Mo_about rfl rfl (fun _ _ => rfl) ?_
              exact m_reti cd_Mo_about rfl ⟨_, rfl, (by unfold ab_spec at kk; rw [if_neg (show ¬ (tnil (hl reg (nI i1)) = true ∨ inR (nI j) 6 = false) from fun q => q.elim (fun q => by rw [hl_in hi1] at q; exact nz1 (tnil_iff.mp q)) (fun q => Bool.noConfusion (q.symm.trans ha6))), hl_in hi1, if_neg c27, if_neg c39, if_pos c82, nI_clamp (by omega)] at kk; exact kk)⟩
          · have c39 : (nI j) = 1 := Classical.not_not.mp c39
            refine m_ald (pc' := 43) cd_Mo_about rfl (Or.inr ⟨_, rfl, rfl, rfl⟩) l0 rfl rfl ?_
            refine m_fR (r := 0) (a := 1) (ad := 1483) (pc' := 46) rfl rfl cd_Mo_about rfl rfl rfl rfl rfl ?_
            refine m_ild (pc' := 47) cd_Mo_about rfl (Or.inr ⟨_, rfl, rfl, rfl⟩) l3 rfl ?_
            refine m_aI (r := 0) (a := 1) (g := (A 1)) (x := (kd (reg i1))) (pc' := 48) rfl rfl cd_Mo_about rfl rfl rfl (vp_in_nI (by omega) (by decide)) ((congrArg (A 1) (nI_clamp (by omega))).trans (MT_kd hM ht1)) ?_
            refine m_k1 (v := 4) (pc' := 49) cd_Mo_about rfl (by decide) rfl ?_
            refine m_if2 (t := 63) (pc' := 52) cd_Mo_about rfl rfl rfl (fun c49 => ?_) (fun c49 => ?_)
            · have c49 : (kd (reg i1)) = 4 := c49
              refine m_ald (pc' := 64) cd_Mo_about rfl (Or.inr ⟨_, rfl, rfl, rfl⟩) l0 rfl rfl ?_
              refine m_fR (r := 1) (a := 2) (ad := 1484) (pc' := 67) rfl rfl cd_Mo_about rfl rfl rfl rfl rfl ?_
              refine m_ild (pc' := 68) cd_Mo_about rfl (Or.inr ⟨_, rfl, rfl, rfl⟩) l3 rfl ?_
              refine m_aI (r := 1) (a := 2) (g := (A 2)) (x := (mk (reg i1))) (pc' := 69) rfl rfl cd_Mo_about rfl rfl rfl (vp_in_nI (by omega) (by decide)) ((congrArg (A 2) (nI_clamp (by omega))).trans (MT_mk hM ht1 (Or.inr (Or.inl c49)))) ?_
              refine m_pure (pc' := 73) (st' := [.int ((mk (reg i1)))]) cd_Mo_about rfl rfl (fun _ _ => rfl) ?_
              exact m_reti cd_Mo_about rfl ⟨_, rfl, (by unfold ab_spec at kk; rw [if_neg (show ¬ (tnil (hl reg (nI i1)) = true ∨ inR (nI j) 6 = false) from fun q => q.elim (fun q => by rw [hl_in hi1] at q; exact nz1 (tnil_iff.mp q)) (fun q => Bool.noConfusion (q.symm.trans ha6))), hl_in hi1, if_neg c27, if_pos c39, if_pos (Or.inl c49)] at kk; exact kk)⟩
            · have c49 : ¬ (kd (reg i1)) = 4 := c49
              refine m_ald (pc' := 53) cd_Mo_about rfl (Or.inr ⟨_, rfl, rfl, rfl⟩) l0 rfl rfl ?_
              refine m_fR (r := 0) (a := 1) (ad := 1483) (pc' := 56) rfl rfl cd_Mo_about rfl rfl rfl rfl rfl ?_
              refine m_ild (pc' := 57) cd_Mo_about rfl (Or.inr ⟨_, rfl, rfl, rfl⟩) l3 rfl ?_
              refine m_aI (r := 0) (a := 1) (g := (A 1)) (x := (kd (reg i1))) (pc' := 58) rfl rfl cd_Mo_about rfl rfl rfl (vp_in_nI (by omega) (by decide)) ((congrArg (A 1) (nI_clamp (by omega))).trans (MT_kd hM ht1)) ?_
              refine m_k2 (v := 7) (pc' := 60) cd_Mo_about rfl (by decide) rfl ?_
              refine m_if2 (t := 72) (pc' := 63) cd_Mo_about rfl rfl rfl (fun c60 => ?_) (fun c60 => ?_)
              · have c60 : ¬ (kd (reg i1)) = 7 := c60
                refine m_k1 (v := 0) (pc' := 73) cd_Mo_about rfl (by decide) rfl ?_
                exact m_reti cd_Mo_about rfl ⟨_, rfl, (by unfold ab_spec at kk; rw [if_neg (show ¬ (tnil (hl reg (nI i1)) = true ∨ inR (nI j) 6 = false) from fun q => q.elim (fun q => by rw [hl_in hi1] at q; exact nz1 (tnil_iff.mp q)) (fun q => Bool.noConfusion (q.symm.trans ha6))), hl_in hi1, if_neg c27, if_pos c39, if_neg (fun q => q.elim c49 c60)] at kk; exact kk)⟩
              · have c60 : (kd (reg i1)) = 7 := Classical.not_not.mp c60
                refine m_ald (pc' := 64) cd_Mo_about rfl (Or.inr ⟨_, rfl, rfl, rfl⟩) l0 rfl rfl ?_
                refine m_fR (r := 1) (a := 2) (ad := 1484) (pc' := 67) rfl rfl cd_Mo_about rfl rfl rfl rfl rfl ?_
                refine m_ild (pc' := 68) cd_Mo_about rfl (Or.inr ⟨_, rfl, rfl, rfl⟩) l3 rfl ?_
                refine m_aI (r := 1) (a := 2) (g := (A 2)) (x := (mk (reg i1))) (pc' := 69) rfl rfl cd_Mo_about rfl rfl rfl (vp_in_nI (by omega) (by decide)) ((congrArg (A 2) (nI_clamp (by omega))).trans (MT_mk hM ht1 (Or.inr (Or.inr c60)))) ?_
                refine m_pure (pc' := 73) (st' := [.int ((mk (reg i1)))]) cd_Mo_about rfl rfl (fun _ _ => rfl) ?_
                exact m_reti cd_Mo_about rfl ⟨_, rfl, (by unfold ab_spec at kk; rw [if_neg (show ¬ (tnil (hl reg (nI i1)) = true ∨ inR (nI j) 6 = false) from fun q => q.elim (fun q => by rw [hl_in hi1] at q; exact nz1 (tnil_iff.mp q)) (fun q => Bool.noConfusion (q.symm.trans ha6))), hl_in hi1, if_neg c27, if_pos c39, if_pos (Or.inr c60)] at kk; exact kk)⟩
        · have c27 : (nI j) = 0 := Classical.not_not.mp c27
          refine m_ald (pc' := 31) cd_Mo_about rfl (Or.inr ⟨_, rfl, rfl, rfl⟩) l0 rfl rfl ?_
          refine m_fR (r := 0) (a := 1) (ad := 1483) (pc' := 34) rfl rfl cd_Mo_about rfl rfl rfl rfl rfl ?_
          refine m_ild (pc' := 35) cd_Mo_about rfl (Or.inr ⟨_, rfl, rfl, rfl⟩) l3 rfl ?_
          refine m_aI (r := 0) (a := 1) (g := (A 1)) (x := (kd (reg i1))) (pc' := 36) rfl rfl cd_Mo_about rfl rfl rfl (vp_in_nI (by omega) (by decide)) ((congrArg (A 1) (nI_clamp (by omega))).trans (MT_kd hM ht1)) ?_
          exact m_reti cd_Mo_about rfl ⟨_, rfl, (by unfold ab_spec at kk; rw [if_neg (show ¬ (tnil (hl reg (nI i1)) = true ∨ inR (nI j) 6 = false) from fun q => q.elim (fun q => by rw [hl_in hi1] at q; exact nz1 (tnil_iff.mp q)) (fun q => Bool.noConfusion (q.symm.trans ha6))), hl_in hi1, if_pos c27] at kk; exact kk)⟩
      · have c14 : ¬ a ≤ 5 := c14
        refine m_k1 (v := (-1)) (pc' := 18) cd_Mo_about rfl (by decide) rfl ?_
        exact m_reti cd_Mo_about rfl ⟨_, rfl, (by rw [show ab_spec reg (nI i1) a = -1 from if_pos (Or.inr (inR_gt (m := 5) (by decide) c14))] at kk; exact kk)⟩
set_option maxRecDepth 100000 in
theorem m_put {sc : tm_X} {d : Nat} {f : Nat → Int32} {A : Nat → Nat → Int32} {T : List Tm} {DL : List (Int32 × Int32)} {G Kw : Tm → Prop} {q : Nat} {x : Int32} {X : Tm} {Q : MS → Prop} (hM : MT f A T DL G Kw) (hq : q < 30) (hx : tv T x X) (kk : ∀ v g, (v = 1 ∨ (v = f 16 ∧ (X = tz ∨ G X))) → MT (fset f 16 v) (fset (fset A 17 (upd (A 17) q x)) 5 g) T DL (fun y => G y ∨ (y = X ∧ X ≠ tz)) Kw → Q (fset f 16 v, fset (fset A 17 (upd (A 17) q x)) 5 g)) : mGv sc (d + 1) 209 [.ref 1482, .int (nI q), .int x] (f, A) Q := by
  show mg sc (d + 1) 209 0 [(0, .ref 1482), (1, .int (nI q)), (2, .int x)] [] (f, A) _
  generalize elv : ([(0, .ref 1482), (1, .int (nI q)), (2, .int x)] : tm_L) = lv
  have l0 : lv.lookup 0 = some (.ref 1482) := by rw [← elv]; rfl
  have l1 : lv.lookup 1 = some (.int (nI q)) := by rw [← elv]; rfl
  have l2 : lv.lookup 2 = some (.int x) := by rw [← elv]; rfl
  clear elv
  refine m_ald (pc' := 1) cd_Mo_put rfl (Or.inr ⟨_, rfl, rfl, rfl⟩) l0 rfl rfl ?_
  refine m_fR (r := 16) (a := 17) (ad := 1499) (pc' := 4) rfl rfl cd_Mo_put rfl rfl rfl rfl rfl ?_
  refine m_ild (pc' := 5) cd_Mo_put rfl (Or.inr ⟨_, rfl, rfl, rfl⟩) l1 rfl ?_
  refine m_ild (pc' := 6) cd_Mo_put rfl (Or.inr ⟨_, rfl, rfl, rfl⟩) l2 rfl ?_
  refine m_aS (r := 16) (a := 17) (g := (A 17)) (p := q) (pc' := 7) rfl rfl cd_Mo_put rfl rfl rfl (vp_in_nI (by omega) (by decide)) (nI_clamp (by omega)) ?_
  refine m_ald (pc' := 8) cd_Mo_put rfl (Or.inr ⟨_, rfl, rfl, rfl⟩) l0 rfl rfl ?_
  refine m_ild (pc' := 9) cd_Mo_put rfl (Or.inr ⟨_, rfl, rfl, rfl⟩) l2 rfl ?_
  refine m_cv (pc' := 12) cd_Mo_put rfl rfl rfl rfl rfl cd_Mo_give rfl (Nat.le_of_ble_eq_true rfl) (m_give (T := T) (DL := DL) (G := G) (W := Kw) (X := X) (by exact MT_i hM rfl rfl rfl rfl rfl rfl rfl rfl rfl rfl) hx (fun v g hv hM2 => ?_))
  show mg _ _ _ 12 _ [] _ _
  exact m_retv cd_Mo_put rfl ⟨rfl, kk v g hv hM2⟩
