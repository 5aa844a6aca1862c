/-! The reference: same, unseal, seal -/
theorem held_in {reg : Nat → Tm} {x : Int32} (h : (!tnil (hl reg x)) = true) : ∃ i, i < 32 ∧ x = nI i ∧ reg i ≠ tz := by
  by_cases c : inR x 32 = true
  · obtain ⟨i, hi, ex⟩ := inR_of (n := 32) (by decide) c
    refine ⟨i, hi, ex, fun q => ?_⟩
    rw [ex, hl_in hi, q] at h
    exact absurd h (by decide)
  · rw [hl_out (by simpa using c)] at h
    exact absurd h (by decide)
theorem held_no {reg : Nat → Tm} {x : Int32} (h : (!tnil (hl reg x)) = false) : hl reg x = tz := tnil_iff.mp (by simpa using h)
set_option maxRecDepth 100000 in
theorem mo_same {sc : tm_X} {d : Nat} {f : Nat → Int32} {A : Nat → Nat → Int32} {T : List Tm} {DL : List (Int32 × Int32)} {G Kw : Tm → Prop} {reg : Nat → Tm} {x y : Int32} {Q : Int32 → MS → Prop} (hM : MT f A T DL G Kw) (hR : ∀ i, i < 32 → tv T (A 45 i) (reg i)) (kk : Q (sm_spec reg x y) (f, A)) : mGi sc (d + 2) 267 [.ref 1482, .int x, .int y] (f, A) Q := by
  show mg sc (d + 2) 267 0 [(0, .ref 1482), (1, .int x), (2, .int y)] [] (f, A) _
  generalize elv : ([(0, .ref 1482), (1, .int x), (2, .int y)] : tm_L) = lv
  have l0 : lv.lookup 0 = some (.ref 1482) := by rw [← elv]; rfl
  have l1 : lv.lookup 1 = some (.int x) := by rw [← elv]; rfl
  have l2 : lv.lookup 2 = some (.int y) := by rw [← elv]; rfl
  clear elv
  refine m_ald (pc' := 1) cd_Mo_same rfl (Or.inr ⟨_, rfl, rfl, rfl⟩) l0 rfl rfl ?_
  refine m_ild (pc' := 2) cd_Mo_same rfl (Or.inr ⟨_, rfl, rfl, rfl⟩) l1 rfl ?_
  refine m_ci (pc' := 5) cd_Mo_same rfl rfl rfl rfl rfl cd_Mo_isHeld rfl (Nat.le_of_ble_eq_true rfl) (m_held hM hR ?_)
  show mg _ _ _ 5 _ [.int (bz (!tnil (hl reg x)))] _ _
  refine m_if1 (t := 16) (pc' := 8) cd_Mo_same rfl rfl rfl (fun c5 => ?_) (fun c5 => ?_)
  · have c5 : (!tnil (hl reg x)) = false := bz_f c5
    refine m_k1 (v := (-1)) (pc' := 17) cd_Mo_same rfl (by decide) rfl ?_
    refine m_pure (pc' := 40) (st' := [.int (-1)]) cd_Mo_same rfl rfl (fun _ _ => rfl) ?_
    exact m_reti cd_Mo_same rfl ⟨_, rfl, (by rw [show sm_spec reg x y = -1 from cif_t (Or.inl (held_no c5))] at kk; exact kk)⟩
  · have c5 : (!tnil (hl reg x)) = true := bz_t c5
    obtain ⟨i1, hi1, ex1, nz1⟩ := held_in c5
    subst ex1
    obtain ⟨t1, et1, ht1⟩ := hR i1 hi1
    have htl1 := tv_lt ht1
    have hTl0 := MT_len hM
    refine m_ald (pc' := 9) cd_Mo_same rfl (Or.inr ⟨_, rfl, rfl, rfl⟩) l0 rfl rfl ?_
    refine m_ild (pc' := 10) cd_Mo_same rfl (Or.inr ⟨_, rfl, rfl, rfl⟩) l2 rfl ?_
    refine m_ci (pc' := 13) cd_Mo_same rfl rfl rfl rfl rfl cd_Mo_isHeld rfl (Nat.le_of_ble_eq_true rfl) (m_held hM hR ?_)
    show mg _ _ _ 13 _ [.int (bz (!tnil (hl reg y)))] _ _
    refine m_if1 (t := 20) (pc' := 16) cd_Mo_same rfl rfl rfl (fun c13 => ?_) (fun c13 => ?_)
    · have c13 : (!tnil (hl reg y)) = true := bz_t c13
      obtain ⟨i2, hi2, ex2, nz2⟩ := held_in c13
      subst ex2
      obtain ⟨t2, et2, ht2⟩ := hR i2 hi2
      have htl2 := tv_lt ht2
      have hTl0 := MT_len hM
      refine m_ald (pc' := 21) cd_Mo_same rfl (Or.inr ⟨_, rfl, rfl, rfl⟩) l0 rfl rfl ?_
      refine m_fR (r := 44) (a := 45) (ad := 1527) (pc' := 24) rfl rfl cd_Mo_same rfl rfl rfl rfl rfl ?_
      refine m_ild (pc' := 25) cd_Mo_same rfl (Or.inr ⟨_, rfl, rfl, rfl⟩) l1 rfl ?_
      refine m_aI (r := 44) (a := 45) (g := (A 45)) (x := (A 45 i1)) (pc' := 26) rfl rfl cd_Mo_same rfl rfl rfl (vp_in_nI (by omega) (by decide)) (congrArg (A 45) (nI_clamp (by omega))) ?_
      refine m_ald (pc' := 27) cd_Mo_same rfl (Or.inr ⟨_, rfl, rfl, rfl⟩) l0 rfl rfl ?_
      refine m_fR (r := 44) (a := 45) (ad := 1527) (pc' := 30) rfl rfl cd_Mo_same rfl rfl rfl rfl rfl ?_
      refine m_ild (pc' := 31) cd_Mo_same rfl (Or.inr ⟨_, rfl, rfl, rfl⟩) l2 rfl ?_
      refine m_aI (r := 44) (a := 45) (g := (A 45)) (x := (A 45 i2)) (pc' := 32) rfl rfl cd_Mo_same rfl rfl rfl (vp_in_nI (by omega) (by decide)) (congrArg (A 45) (nI_clamp (by omega))) ?_
      refine m_if2 (t := 39) (pc' := 35) cd_Mo_same rfl rfl rfl (fun c32 => ?_) (fun c32 => ?_)
      · have c32 : ¬ (A 45 i1) = (A 45 i2) := c32
        refine m_k1 (v := 0) (pc' := 40) cd_Mo_same rfl (by decide) rfl ?_
        exact m_reti cd_Mo_same rfl ⟨_, rfl, (by have hn : ¬ (hl reg (nI i1) = tz ∨ hl reg (nI i2) = tz) := (by rw [hl_in hi1, hl_in hi2]; exact fun q => q.elim nz1 nz2); rw [show sm_spec reg (nI i1) (nI i2) = 0 from (cif_f hn).trans (cif_f (by rw [hl_in hi1, hl_in hi2]; exact fun q => c32 ((MT_eq hM (hR i1 hi1) (hR i2 hi2)).mpr q)))] at kk; exact kk)⟩
      · have c32 : (A 45 i1) = (A 45 i2) := Classical.not_not.mp c32
        refine m_k1 (v := 1) (pc' := 36) cd_Mo_same rfl (by decide) rfl ?_
        refine m_pure (pc' := 40) (st' := [.int 1]) cd_Mo_same rfl rfl (fun _ _ => rfl) ?_
        exact m_reti cd_Mo_same rfl ⟨_, rfl, (by have hn : ¬ (hl reg (nI i1) = tz ∨ hl reg (nI i2) = tz) := (by rw [hl_in hi1, hl_in hi2]; exact fun q => q.elim nz1 nz2); rw [show sm_spec reg (nI i1) (nI i2) = 1 from (cif_f hn).trans (cif_t (by rw [hl_in hi1, hl_in hi2]; exact (MT_eq hM (hR i1 hi1) (hR i2 hi2)).mp c32))] at kk; exact kk)⟩
    · have c13 : (!tnil (hl reg y)) = false := bz_f (Classical.not_not.mp c13)
      refine m_k1 (v := (-1)) (pc' := 17) cd_Mo_same rfl (by decide) rfl ?_
      refine m_pure (pc' := 40) (st' := [.int (-1)]) cd_Mo_same rfl rfl (fun _ _ => rfl) ?_
      exact m_reti cd_Mo_same rfl ⟨_, rfl, (by rw [show sm_spec reg (nI i1) y = -1 from cif_t (Or.inr (held_no c13))] at kk; exact kk)⟩
set_option maxRecDepth 100000 in
theorem mo_unseal {sc : tm_X} {d : Nat} {f : Nat → Int32} {A : Nat → Nat → Int32} {T : List Tm} {DL : List (Int32 × Int32)} {G Kw : Tm → Prop} {reg : Nat → Tm} {r x k : Int32} {Q : Int32 → MS → Prop} (hM : MT f A T DL G Kw) (hR : ∀ i, i < 32 → tv T (A 45 i) (reg i)) (kk : ∀ g, (∀ i, i < 32 → tv T (g i) ((un_spec reg r x k).2 i)) → Q (un_spec reg r x k).1 (f, fset A 45 g)) : mGi sc (d + 2) 258 [.ref 1482, .int r, .int x, .int k] (f, A) Q := by
  show mg sc (d + 2) 258 0 [(0, .ref 1482), (1, .int r), (2, .int x), (3, .int k)] [] (f, A) _
  generalize elv : ([(0, .ref 1482), (1, .int r), (2, .int x), (3, .int k)] : tm_L) = lv
  have l0 : lv.lookup 0 = some (.ref 1482) := by rw [← elv]; rfl
  have l1 : lv.lookup 1 = some (.int r) := by rw [← elv]; rfl
  have l2 : lv.lookup 2 = some (.int x) := by rw [← elv]; rfl
  have l3 : lv.lookup 3 = some (.int k) := by rw [← elv]; rfl
  clear elv
  refine m_ild (pc' := 1) cd_Mo_unseal rfl (Or.inr ⟨_, rfl, rfl, rfl⟩) l1 rfl ?_
  refine m_si (pc' := 4) cd_Mo_unseal rfl rfl rfl rfl rfl cd_Mo_isRegister rfl (Nat.le_of_ble_eq_true rfl) (m_isRegister ?_)
  show mg _ _ _ 4 _ [.int (bz (inR r 32))] _ _
  refine m_if1 (t := 38) (pc' := 7) cd_Mo_unseal rfl rfl rfl (fun c4 => ?_) (fun c4 => ?_)
  · have c4 : (inR r 32) = false := bz_f c4
    refine m_k1 (v := (-1)) (pc' := 39) cd_Mo_unseal rfl (by decide) rfl ?_
    exact m_reti cd_Mo_unseal rfl ⟨_, rfl, (by rw [show un_spec reg r x k = (-1, reg) from cif_f (fun q => Bool.noConfusion (c4.symm.trans q.1))] at kk; have k2 := kk (A 45) hR; rw [fset_id] at k2; exact k2)⟩
  · have c4 : (inR r 32) = true := bz_t c4
    refine m_ald (pc' := 8) cd_Mo_unseal rfl (Or.inr ⟨_, rfl, rfl, rfl⟩) l0 rfl rfl ?_
    refine m_ild (pc' := 9) cd_Mo_unseal rfl (Or.inr ⟨_, rfl, rfl, rfl⟩) l2 rfl ?_
    refine m_ci (pc' := 12) cd_Mo_unseal rfl rfl rfl rfl rfl cd_Mo_isHeld rfl (Nat.le_of_ble_eq_true rfl) (m_held hM hR ?_)
    show mg _ _ _ 12 _ [.int (bz (!tnil (hl reg x)))] _ _
    refine m_if1 (t := 38) (pc' := 15) cd_Mo_unseal rfl rfl rfl (fun c12 => ?_) (fun c12 => ?_)
    · have c12 : (!tnil (hl reg x)) = false := bz_f c12
      refine m_k1 (v := (-1)) (pc' := 39) cd_Mo_unseal rfl (by decide) rfl ?_
      exact m_reti cd_Mo_unseal rfl ⟨_, rfl, (by rw [show un_spec reg r x k = (-1, reg) from cif_f (fun q => by rw [held_no c12] at q; exact absurd q.2.1 (by decide))] at kk; have k2 := kk (A 45) hR; rw [fset_id] at k2; exact k2)⟩
    · have c12 : (!tnil (hl reg x)) = true := bz_t c12
      obtain ⟨i1, hi1, ex1, nz1⟩ := held_in c12
      subst ex1
      obtain ⟨t1, et1, ht1⟩ := hR i1 hi1
      have htl1 := tv_lt ht1
      have hTl0 := MT_len hM
      refine m_ald (pc' := 16) cd_Mo_unseal rfl (Or.inr ⟨_, rfl, rfl, rfl⟩) l0 rfl rfl ?_
      refine m_ild (pc' := 17) cd_Mo_unseal rfl (Or.inr ⟨_, rfl, rfl, rfl⟩) l3 rfl ?_
      refine m_ci (pc' := 20) cd_Mo_unseal rfl rfl rfl rfl rfl cd_Mo_isHeld rfl (Nat.le_of_ble_eq_true rfl) (m_held hM hR ?_)
      show mg _ _ _ 20 _ [.int (bz (!tnil (hl reg k)))] _ _
      refine m_if1 (t := 38) (pc' := 23) cd_Mo_unseal rfl rfl rfl (fun c20 => ?_) (fun c20 => ?_)
      · have c20 : (!tnil (hl reg k)) = false := bz_f c20
        refine m_k1 (v := (-1)) (pc' := 39) cd_Mo_unseal rfl (by decide) rfl ?_
        exact m_reti cd_Mo_unseal rfl ⟨_, rfl, (by rw [show un_spec reg r (nI i1) k = (-1, reg) from cif_f (fun q => q.2.2 (held_no c20))] at kk; have k2 := kk (A 45) hR; rw [fset_id] at k2; exact k2)⟩
      · have c20 : (!tnil (hl reg k)) = true := bz_t c20
        obtain ⟨i2, hi2, ex2, nz2⟩ := held_in c20
        subst ex2
        obtain ⟨t2, et2, ht2⟩ := hR i2 hi2
        have htl2 := tv_lt ht2
        have hTl0 := MT_len hM
        refine m_ald (pc' := 24) cd_Mo_unseal rfl (Or.inr ⟨_, rfl, rfl, rfl⟩) l0 rfl rfl ?_
        refine m_fR (r := 0) (a := 1) (ad := 1483) (pc' := 27) rfl rfl cd_Mo_unseal rfl rfl rfl rfl rfl ?_
        refine m_ald (pc' := 28) cd_Mo_unseal rfl (Or.inr ⟨_, rfl, rfl, rfl⟩) l0 rfl rfl ?_
        refine m_fR (r := 44) (a := 45) (ad := 1527) (pc' := 31) rfl rfl cd_Mo_unseal rfl rfl rfl rfl rfl ?_
        refine m_ild (pc' := 32) cd_Mo_unseal rfl (Or.inr ⟨_, rfl, rfl, rfl⟩) l2 rfl ?_
        refine m_aI (r := 44) (a := 45) (g := (A 45)) (x := (nI t1)) (pc' := 33) rfl rfl cd_Mo_unseal rfl rfl rfl (vp_in_nI (by omega) (by decide)) (by rw [(nI_clamp (by omega))]; exact et1) ?_
        refine m_aI (r := 0) (a := 1) (g := (A 1)) (x := (kd (reg i1))) (pc' := 34) rfl rfl cd_Mo_unseal rfl rfl rfl (vp_in_nI (by omega) (by decide)) ((congrArg (A 1) (nI_clamp (by omega))).trans (MT_kd hM ht1)) ?_
        refine m_k1 (v := 5) (pc' := 35) cd_Mo_unseal rfl (by decide) rfl ?_
        refine m_if2 (t := 40) (pc' := 38) cd_Mo_unseal rfl rfl rfl (fun c35 => ?_) (fun c35 => ?_)
        · have c35 : (kd (reg i1)) = 5 := c35
          refine m_ald (pc' := 41) cd_Mo_unseal rfl (Or.inr ⟨_, rfl, rfl, rfl⟩) l0 rfl rfl ?_
          refine m_fR (r := 1) (a := 2) (ad := 1484) (pc' := 44) rfl rfl cd_Mo_unseal rfl rfl rfl rfl rfl ?_
          refine m_ald (pc' := 45) cd_Mo_unseal rfl (Or.inr ⟨_, rfl, rfl, rfl⟩) l0 rfl rfl ?_
          refine m_fR (r := 44) (a := 45) (ad := 1527) (pc' := 48) rfl rfl cd_Mo_unseal rfl rfl rfl rfl rfl ?_
          refine m_ild (pc' := 49) cd_Mo_unseal rfl (Or.inr ⟨_, rfl, rfl, rfl⟩) l2 rfl ?_
          refine m_aI (r := 44) (a := 45) (g := (A 45)) (x := (nI t1)) (pc' := 50) rfl rfl cd_Mo_unseal rfl rfl rfl (vp_in_nI (by omega) (by decide)) (by rw [(nI_clamp (by omega))]; exact et1) ?_
          refine m_aI (r := 1) (a := 2) (g := (A 2)) (x := ((A 2) t1)) (pc' := 51) rfl rfl cd_Mo_unseal rfl rfl rfl (vp_in_nI (by omega) (by decide)) (congrArg (A 2) (nI_clamp (by omega))) ?_
          refine m_ald (pc' := 52) cd_Mo_unseal rfl (Or.inr ⟨_, rfl, rfl, rfl⟩) l0 rfl rfl ?_
          refine m_fR (r := 44) (a := 45) (ad := 1527) (pc' := 55) rfl rfl cd_Mo_unseal rfl rfl rfl rfl rfl ?_
          refine m_ild (pc' := 56) cd_Mo_unseal rfl (Or.inr ⟨_, rfl, rfl, rfl⟩) l3 rfl ?_
          refine m_aI (r := 44) (a := 45) (g := (A 45)) (x := (nI t2)) (pc' := 57) rfl rfl cd_Mo_unseal rfl rfl rfl (vp_in_nI (by omega) (by decide)) (by rw [(nI_clamp (by omega))]; exact et2) ?_
          refine m_if2 (t := 79) (pc' := 60) cd_Mo_unseal rfl rfl rfl (fun c57 => ?_) (fun c57 => ?_)
          · have c57 : ¬ ((A 2) t1) = (nI t2) := c57
            refine m_k1 (v := 0) (pc' := 80) cd_Mo_unseal rfl (by decide) rfl ?_
            exact m_reti cd_Mo_unseal rfl ⟨_, rfl, (by rw [show un_spec reg r (nI i1) (nI i2) = (0, reg) from (cif_t (show inR r 32 = true ∧ kd (hl reg (nI i1)) = 5 ∧ hl reg (nI i2) ≠ tz by rw [hl_in hi1, hl_in hi2]; exact ⟨c4, c35, nz2⟩)).trans (cif_f (by rw [hl_in hi1, hl_in hi2]; exact fun q => c57 ((MT_eq hM (MT_one hM ht1 (Or.inr (Or.inr (Or.inl c35)))) ⟨t2, rfl, ht2⟩).mpr q)))] at kk; have k2 := kk (A 45) hR; rw [fset_id] at k2; exact k2)⟩
          · have c57 : ((A 2) t1) = (nI t2) := Classical.not_not.mp c57
            refine m_ald (pc' := 61) cd_Mo_unseal rfl (Or.inr ⟨_, rfl, rfl, rfl⟩) l0 rfl rfl ?_
            refine m_ild (pc' := 62) cd_Mo_unseal rfl (Or.inr ⟨_, rfl, rfl, rfl⟩) l1 rfl ?_
            refine m_ald (pc' := 63) cd_Mo_unseal rfl (Or.inr ⟨_, rfl, rfl, rfl⟩) l0 rfl rfl ?_
            refine m_fR (r := 3) (a := 4) (ad := 1486) (pc' := 66) rfl rfl cd_Mo_unseal rfl rfl rfl rfl rfl ?_
            refine m_ald (pc' := 67) cd_Mo_unseal rfl (Or.inr ⟨_, rfl, rfl, rfl⟩) l0 rfl rfl ?_
            refine m_fR (r := 44) (a := 45) (ad := 1527) (pc' := 70) rfl rfl cd_Mo_unseal rfl rfl rfl rfl rfl ?_
            refine m_ild (pc' := 71) cd_Mo_unseal rfl (Or.inr ⟨_, rfl, rfl, rfl⟩) l2 rfl ?_
            refine m_aI (r := 44) (a := 45) (g := (A 45)) (x := (nI t1)) (pc' := 72) rfl rfl cd_Mo_unseal rfl rfl rfl (vp_in_nI (by omega) (by decide)) (by rw [(nI_clamp (by omega))]; exact et1) ?_
            refine m_aI (r := 3) (a := 4) (g := (A 4)) (x := ((A 4) t1)) (pc' := 73) rfl rfl cd_Mo_unseal rfl rfl rfl (vp_in_nI (by omega) (by decide)) (congrArg (A 4) (nI_clamp (by omega))) ?_
            refine m_ci (pc' := 76) cd_Mo_unseal rfl rfl rfl rfl rfl cd_Mo_set rfl (Nat.le_of_ble_eq_true rfl) (m_set hM hR (MT_three hM ht1 c35) (fun g hg => ?_))
            show mg _ _ _ 76 _ [.int ((kp reg r (pt (reg i1) 2)).1)] _ _
            refine m_pure (pc' := 80) (st' := [.int ((kp reg r (pt (reg i1) 2)).1)]) cd_Mo_unseal rfl rfl (fun _ _ => rfl) ?_
            exact m_reti cd_Mo_unseal rfl ⟨_, rfl, (by rw [show un_spec reg r (nI i1) (nI i2) = kp reg r (pt (reg i1) 2) from (cif_t (show inR r 32 = true ∧ kd (hl reg (nI i1)) = 5 ∧ hl reg (nI i2) ≠ tz by rw [hl_in hi1, hl_in hi2]; exact ⟨c4, c35, nz2⟩)).trans ((cif_t (by rw [hl_in hi1, hl_in hi2]; exact (MT_eq hM (MT_one hM ht1 (Or.inr (Or.inr (Or.inl c35)))) ⟨t2, rfl, ht2⟩).mp c57)).trans (by rw [hl_in hi1]))] at kk; exact kk g hg)⟩
        · have c35 : ¬ (kd (reg i1)) = 5 := c35
          refine m_k1 (v := (-1)) (pc' := 39) cd_Mo_unseal rfl (by decide) rfl ?_
          exact m_reti cd_Mo_unseal rfl ⟨_, rfl, (by rw [show un_spec reg r (nI i1) (nI i2) = (-1, reg) from cif_f (fun q => c35 (by have z := q.2.1; rw [hl_in hi1] at z; exact z))] at kk; have k2 := kk (A 45) hR; rw [fset_id] at k2; exact k2)⟩
