/-! The reference: part -/
theorem kp_z {reg : Nat → Tm} {r : Int32} {X : Tm} (h : X = tz) : kp reg r X = (-1, reg) := if_neg (fun q => by rw [h] at q; exact absurd q.2 (by decide))
theorem kp_no {reg : Nat → Tm} {r : Int32} {X : Tm} (h : inR r 32 = false) : kp reg r X = (-1, reg) := if_neg (fun q => Bool.noConfusion (h.symm.trans q.1))
theorem pa_z {reg : Nat → Tm} {x a : Int32} (h : hl reg x = tz) : pa_spec reg x a = tz := by
  unfold pa_spec
  rw [h, if_neg (show ¬ kd tz = 7 by decide), if_neg (show ¬ kd tz = 5 by decide), if_neg (show ¬ (a = 5 ∧ kd tz = 6) from fun q => absurd q.2 (by decide))]
  split
  · rfl
  · split <;> rfl
theorem pa_row {reg : Nat → Tm} {x a : Int32} (h : inR a 4 = true) : pa_spec reg x a = if kd (hl reg x) = 7 then pt (hl reg x) a.toNatClampNeg else tz := if_pos h
theorem pa_oth {reg : Nat → Tm} {x a : Int32} (h : inR a 4 = false) : pa_spec reg x a = if a = 4 then (if kd (hl reg x) = 5 then pt (hl reg x) 1 else tz) else if a = 5 ∧ kd (hl reg x) = 6 then pt (hl reg x) 1 else tz := if_neg (fun q => Bool.noConfusion (h.symm.trans q))
set_option maxRecDepth 100000 in
theorem mo_part {sc : tm_X} {d : Nat} {f : Nat → Int32} {A : Nat → Nat → Int32} {T : List Tm} {DL : List (Int32 × Int32)} {G Kw : Tm → Prop} {reg : Nat → Tm} {r x a : Int32} {Q : Int32 → MS → Prop} (hM : MT f A T DL G Kw) (hR : ∀ i, i < 32 → tv T (A 45 i) (reg i)) (kk : ∀ g, (∀ i, i < 32 → tv T (g i) ((kp reg r (pa_spec reg x a)).2 i)) → Q (kp reg r (pa_spec reg x a)).1 (f, fset A 45 g)) : mGi sc (d + 2) 257 [.ref 1482, .int r, .int x, .int a] (f, A) Q := by
  show mg sc (d + 2) 257 0 [(0, .ref 1482), (1, .int r), (2, .int x), (3, .int a)] [] (f, A) _
  generalize elv : ([(0, .ref 1482), (1, .int r), (2, .int x), (3, .int a)] : tm_L) = lv
  have l0 : lv.lookup 0 = some (.ref 1482) := by rw [← elv]; rfl
  have l1 : lv.lookup 1 = some (.int r) := by rw [← elv]; rfl
  have l2 : lv.lookup 2 = some (.int x) := by rw [← elv]; rfl
  have l3 : lv.lookup 3 = some (.int a) := by rw [← elv]; rfl
  clear elv
  refine m_ild (pc' := 1) cd_Mo_part rfl (Or.inr ⟨_, rfl, rfl, rfl⟩) l1 rfl ?_
  refine m_si (pc' := 4) cd_Mo_part rfl rfl rfl rfl rfl cd_Mo_isRegister rfl (Nat.le_of_ble_eq_true rfl) (m_isRegister ?_)
  show mg _ _ _ 4 _ [.int (bz (inR r 32))] _ _
  refine m_if1 (t := 15) (pc' := 7) cd_Mo_part rfl rfl rfl (fun c4 => ?_) (fun c4 => ?_)
  · have c4 : (inR r 32) = false := bz_f c4
    refine m_k1 (v := (-1)) (pc' := 16) cd_Mo_part rfl (by decide) rfl ?_
    exact m_reti cd_Mo_part rfl ⟨_, rfl, (by rw [show kp reg r (pa_spec reg x a) = (-1, reg) from kp_no c4] at kk; have k2 := kk (A 45) hR; rw [fset_id] at k2; exact k2)⟩
  · have c4 : (inR r 32) = true := bz_t c4
    refine m_ald (pc' := 8) cd_Mo_part rfl (Or.inr ⟨_, rfl, rfl, rfl⟩) l0 rfl rfl ?_
    refine m_ild (pc' := 9) cd_Mo_part rfl (Or.inr ⟨_, rfl, rfl, rfl⟩) l2 rfl ?_
    refine m_ci (pc' := 12) cd_Mo_part rfl rfl rfl rfl rfl cd_Mo_isHeld rfl (Nat.le_of_ble_eq_true rfl) (m_held hM hR ?_)
    show mg _ _ _ 12 _ [.int (bz (!tnil (hl reg x)))] _ _
    refine m_if1 (t := 17) (pc' := 15) cd_Mo_part rfl rfl rfl (fun c12 => ?_) (fun c12 => ?_)
    · have c12 : (!tnil (hl reg x)) = true := bz_t c12
      obtain ⟨i1, hi1, ex1, nz1⟩ := held_in c12
      subst ex1
      obtain ⟨t1, et1, ht1⟩ := hR i1 hi1
      have htl1 := tv_lt ht1
      have hTl0 := MT_len hM
      refine m_ald (pc' := 18) cd_Mo_part rfl (Or.inr ⟨_, rfl, rfl, rfl⟩) l0 rfl rfl ?_
      refine m_fR (r := 44) (a := 45) (ad := 1527) (pc' := 21) rfl rfl cd_Mo_part rfl rfl rfl rfl rfl ?_
      refine m_ild (pc' := 22) cd_Mo_part rfl (Or.inr ⟨_, rfl, rfl, rfl⟩) l2 rfl ?_
      refine m_aI (r := 44) (a := 45) (g := (A 45)) (x := (nI t1)) (pc' := 23) rfl rfl cd_Mo_part rfl rfl rfl (vp_in_nI (by omega) (by decide)) (by rw [(nI_clamp (by omega))]; exact et1) ?_
      refine m_ist (pc' := 25) cd_Mo_part rfl (Or.inl ⟨rfl, rfl⟩) (by decide) rfl (fun lv el => ?_)
      have l0 := tm_lk el l0 rfl (by decide)
      have l1 := tm_lk el l1 rfl (by decide)
      have l2 := tm_lk el l2 rfl (by decide)
      have l3 := tm_lk el l3 rfl (by decide)
      have l4 : lv.lookup 4 = some (.int ((nI t1))) := tm_lks el
      clear el
      refine m_ild (pc' := 26) cd_Mo_part rfl (Or.inr ⟨_, rfl, rfl, rfl⟩) l3 rfl ?_
      refine m_if1 (t := 65) (pc' := 29) cd_Mo_part rfl rfl rfl (fun c26 => ?_) (fun c26 => ?_)
      · have c26 : a < 0 := c26
        refine m_ild (pc' := 66) cd_Mo_part rfl (Or.inr ⟨_, rfl, rfl, rfl⟩) l3 rfl ?_
        refine m_k1 (v := 4) (pc' := 67) cd_Mo_part rfl (by decide) rfl ?_
        refine m_if2 (t := 81) (pc' := 70) cd_Mo_part rfl rfl rfl (fun c67 => ?_) (fun c67 => ?_)
        · have c67 : ¬ a = 4 := c67
          refine m_ild (pc' := 82) cd_Mo_part rfl (Or.inr ⟨_, rfl, rfl, rfl⟩) l3 rfl ?_
          refine m_k1 (v := 5) (pc' := 83) cd_Mo_part rfl (by decide) rfl ?_
          refine m_if2 (t := 113) (pc' := 86) cd_Mo_part rfl rfl rfl (fun c83 => ?_) (fun c83 => ?_)
          · have c83 : ¬ a = 5 := c83
            refine m_k1 (v := (-1)) (pc' := 114) cd_Mo_part rfl (by decide) rfl ?_
            exact m_reti cd_Mo_part rfl ⟨_, rfl, (by rw [show kp reg r (pa_spec reg (nI i1) a) = (-1, reg) from kp_z ((pa_oth (inR_lo c26)).trans (by rw [if_neg c67, if_neg (fun q => c83 q.1)]))] at kk; have k2 := kk (A 45) hR; rw [fset_id] at k2; exact k2)⟩
          · have c83 : a = 5 := Classical.not_not.mp c83
            refine m_ald (pc' := 87) cd_Mo_part rfl (Or.inr ⟨_, rfl, rfl, rfl⟩) l0 rfl rfl ?_
            refine m_fR (r := 0) (a := 1) (ad := 1483) (pc' := 90) rfl rfl cd_Mo_part rfl rfl rfl rfl rfl ?_
            refine m_ild (pc' := 92) cd_Mo_part rfl (Or.inl ⟨rfl, rfl⟩) l4 rfl ?_
            refine m_aI (r := 0) (a := 1) (g := (A 1)) (x := (kd (reg i1))) (pc' := 93) rfl rfl cd_Mo_part rfl rfl rfl (vp_in_nI (by omega) (by decide)) ((congrArg (A 1) (nI_clamp (by omega))).trans (MT_kd hM ht1)) ?_
            refine m_k2 (v := 6) (pc' := 95) cd_Mo_part rfl (by decide) rfl ?_
            refine m_if2 (t := 113) (pc' := 98) cd_Mo_part rfl rfl rfl (fun c95 => ?_) (fun c95 => ?_)
            · have c95 : ¬ (kd (reg i1)) = 6 := c95
              refine m_k1 (v := (-1)) (pc' := 114) cd_Mo_part rfl (by decide) rfl ?_
              exact m_reti cd_Mo_part rfl ⟨_, rfl, (by rw [show kp reg r (pa_spec reg (nI i1) a) = (-1, reg) from kp_z ((pa_oth (inR_lo c26)).trans (by rw [if_neg c67, hl_in hi1, if_neg (fun q => c95 q.2)]))] at kk; have k2 := kk (A 45) hR; rw [fset_id] at k2; exact k2)⟩
            · have c95 : (kd (reg i1)) = 6 := Classical.not_not.mp c95
              refine m_ald (pc' := 99) cd_Mo_part rfl (Or.inr ⟨_, rfl, rfl, rfl⟩) l0 rfl rfl ?_
              refine m_ild (pc' := 100) cd_Mo_part rfl (Or.inr ⟨_, rfl, rfl, rfl⟩) l1 rfl ?_
              refine m_ald (pc' := 101) cd_Mo_part rfl (Or.inr ⟨_, rfl, rfl, rfl⟩) l0 rfl rfl ?_
              refine m_fR (r := 2) (a := 3) (ad := 1485) (pc' := 104) rfl rfl cd_Mo_part rfl rfl rfl rfl rfl ?_
              refine m_ild (pc' := 106) cd_Mo_part rfl (Or.inl ⟨rfl, rfl⟩) l4 rfl ?_
              refine m_aI (r := 2) (a := 3) (g := (A 3)) (x := ((A 3) t1)) (pc' := 107) rfl rfl cd_Mo_part rfl rfl rfl (vp_in_nI (by omega) (by decide)) (congrArg (A 3) (nI_clamp (by omega))) ?_
              refine m_ci (pc' := 110) cd_Mo_part rfl rfl rfl rfl rfl cd_Mo_set rfl (Nat.le_of_ble_eq_true rfl) (m_set hM hR (MT_two hM ht1 (Or.inr (Or.inr c95))) (fun g hg => ?_))
              show mg _ _ _ 110 _ [.int ((kp reg r (pt (reg i1) 1)).1)] _ _
              refine m_pure (pc' := 114) (st' := [.int ((kp reg r (pt (reg i1) 1)).1)]) cd_Mo_part rfl rfl (fun _ _ => rfl) ?_
              exact m_reti cd_Mo_part rfl ⟨_, rfl, (by rw [show pa_spec reg (nI i1) a = pt (reg i1) 1 from (pa_oth (inR_lo c26)).trans (by rw [if_neg c67, hl_in hi1, if_pos ⟨c83, c95⟩])] at kk; exact kk g hg)⟩
        · have c67 : a = 4 := Classical.not_not.mp c67
          refine m_ald (pc' := 71) cd_Mo_part rfl (Or.inr ⟨_, rfl, rfl, rfl⟩) l0 rfl rfl ?_
          refine m_fR (r := 0) (a := 1) (ad := 1483) (pc' := 74) rfl rfl cd_Mo_part rfl rfl rfl rfl rfl ?_
          refine m_ild (pc' := 76) cd_Mo_part rfl (Or.inl ⟨rfl, rfl⟩) l4 rfl ?_
          refine m_aI (r := 0) (a := 1) (g := (A 1)) (x := (kd (reg i1))) (pc' := 77) rfl rfl cd_Mo_part rfl rfl rfl (vp_in_nI (by omega) (by decide)) ((congrArg (A 1) (nI_clamp (by omega))).trans (MT_kd hM ht1)) ?_
          refine m_k1 (v := 5) (pc' := 78) cd_Mo_part rfl (by decide) rfl ?_
          refine m_if2 (t := 98) (pc' := 81) cd_Mo_part rfl rfl rfl (fun c78 => ?_) (fun c78 => ?_)
          · have c78 : (kd (reg i1)) = 5 := c78
            refine m_ald (pc' := 99) cd_Mo_part rfl (Or.inr ⟨_, rfl, rfl, rfl⟩) l0 rfl rfl ?_
            refine m_ild (pc' := 100) cd_Mo_part rfl (Or.inr ⟨_, rfl, rfl, rfl⟩) l1 rfl ?_
            refine m_ald (pc' := 101) cd_Mo_part rfl (Or.inr ⟨_, rfl, rfl, rfl⟩) l0 rfl rfl ?_
            refine m_fR (r := 2) (a := 3) (ad := 1485) (pc' := 104) rfl rfl cd_Mo_part rfl rfl rfl rfl rfl ?_
            refine m_ild (pc' := 106) cd_Mo_part rfl (Or.inl ⟨rfl, rfl⟩) l4 rfl ?_
            refine m_aI (r := 2) (a := 3) (g := (A 3)) (x := ((A 3) t1)) (pc' := 107) rfl rfl cd_Mo_part rfl rfl rfl (vp_in_nI (by omega) (by decide)) (congrArg (A 3) (nI_clamp (by omega))) ?_
            refine m_ci (pc' := 110) cd_Mo_part rfl rfl rfl rfl rfl cd_Mo_set rfl (Nat.le_of_ble_eq_true rfl) (m_set hM hR (MT_two hM ht1 (Or.inr (Or.inl c78))) (fun g hg => ?_))
            show mg _ _ _ 110 _ [.int ((kp reg r (pt (reg i1) 1)).1)] _ _
            refine m_pure (pc' := 114) (st' := [.int ((kp reg r (pt (reg i1) 1)).1)]) cd_Mo_part rfl rfl (fun _ _ => rfl) ?_
            exact m_reti cd_Mo_part rfl ⟨_, rfl, (by rw [show pa_spec reg (nI i1) a = pt (reg i1) 1 from (pa_oth (inR_lo c26)).trans (by rw [if_pos c67, hl_in hi1, if_pos c78])] at kk; exact kk g hg)⟩
          · have c78 : ¬ (kd (reg i1)) = 5 := c78
            refine m_ild (pc' := 82) cd_Mo_part rfl (Or.inr ⟨_, rfl, rfl, rfl⟩) l3 rfl ?_
            refine m_k1 (v := 5) (pc' := 83) cd_Mo_part rfl (by decide) rfl ?_
            refine m_if2 (t := 113) (pc' := 86) cd_Mo_part rfl rfl rfl (fun c83 => ?_) (fun c83 => ?_)
            · have c83 : ¬ a = 5 := c83
              refine m_k1 (v := (-1)) (pc' := 114) cd_Mo_part rfl (by decide) rfl ?_
              exact m_reti cd_Mo_part rfl ⟨_, rfl, (by rw [show kp reg r (pa_spec reg (nI i1) a) = (-1, reg) from kp_z ((pa_oth (inR_lo c26)).trans (by rw [if_pos c67, hl_in hi1, if_neg c78]))] at kk; have k2 := kk (A 45) hR; rw [fset_id] at k2; exact k2)⟩
            · have c83 : a = 5 := Classical.not_not.mp c83
              exact absurd (c67.symm.trans c83) (by decide)
      · have c26 : ¬ a < 0 := c26
        refine m_ild (pc' := 30) cd_Mo_part rfl (Or.inr ⟨_, rfl, rfl, rfl⟩) l3 rfl ?_
        refine m_k1 (v := 4) (pc' := 31) cd_Mo_part rfl (by decide) rfl ?_
        refine m_if2 (t := 65) (pc' := 34) cd_Mo_part rfl rfl rfl (fun c31 => ?_) (fun c31 => ?_)
        · have c31 : (4 : Int32) ≤ a := c31
          refine m_ild (pc' := 66) cd_Mo_part rfl (Or.inr ⟨_, rfl, rfl, rfl⟩) l3 rfl ?_
          refine m_k1 (v := 4) (pc' := 67) cd_Mo_part rfl (by decide) rfl ?_
          refine m_if2 (t := 81) (pc' := 70) cd_Mo_part rfl rfl rfl (fun c67 => ?_) (fun c67 => ?_)
          · have c67 : ¬ a = 4 := c67
            refine m_ild (pc' := 82) cd_Mo_part rfl (Or.inr ⟨_, rfl, rfl, rfl⟩) l3 rfl ?_
            refine m_k1 (v := 5) (pc' := 83) cd_Mo_part rfl (by decide) rfl ?_
            refine m_if2 (t := 113) (pc' := 86) cd_Mo_part rfl rfl rfl (fun c83 => ?_) (fun c83 => ?_)
            · have c83 : ¬ a = 5 := c83
              refine m_k1 (v := (-1)) (pc' := 114) cd_Mo_part rfl (by decide) rfl ?_
              exact m_reti cd_Mo_part rfl ⟨_, rfl, (by rw [show kp reg r (pa_spec reg (nI i1) a) = (-1, reg) from kp_z ((pa_oth (inR_hi c31)).trans (by rw [if_neg c67, if_neg (fun q => c83 q.1)]))] at kk; have k2 := kk (A 45) hR; rw [fset_id] at k2; exact k2)⟩
            · have c83 : a = 5 := Classical.not_not.mp c83
              refine m_ald (pc' := 87) cd_Mo_part rfl (Or.inr ⟨_, rfl, rfl, rfl⟩) l0 rfl rfl ?_
              refine m_fR (r := 0) (a := 1) (ad := 1483) (pc' := 90) rfl rfl cd_Mo_part rfl rfl rfl rfl rfl ?_
              refine m_ild (pc' := 92) cd_Mo_part rfl (Or.inl ⟨rfl, rfl⟩) l4 rfl ?_
              refine m_aI (r := 0) (a := 1) (g := (A 1)) (x := (kd (reg i1))) (pc' := 93) rfl rfl cd_Mo_part rfl rfl rfl (vp_in_nI (by omega) (by decide)) ((congrArg (A 1) (nI_clamp (by omega))).trans (MT_kd hM ht1)) ?_
              refine m_k2 (v := 6) (pc' := 95) cd_Mo_part rfl (by decide) rfl ?_
              refine m_if2 (t := 113) (pc' := 98) cd_Mo_part rfl rfl rfl (fun c95 => ?_) (fun c95 => ?_)
              · have c95 : ¬ (kd (reg i1)) = 6 := c95
                refine m_k1 (v := (-1)) (pc' := 114) cd_Mo_part rfl (by decide) rfl ?_
                exact m_reti cd_Mo_part rfl ⟨_, rfl, (by rw [show kp reg r (pa_spec reg (nI i1) a) = (-1, reg) from kp_z ((pa_oth (inR_hi c31)).trans (by rw [if_neg c67, hl_in hi1, if_neg (fun q => c95 q.2)]))] at kk; have k2 := kk (A 45) hR; rw [fset_id] at k2; exact k2)⟩
              · have c95 : (kd (reg i1)) = 6 := Classical.not_not.mp c95
                refine m_ald (pc' := 99) cd_Mo_part rfl (Or.inr ⟨_, rfl, rfl, rfl⟩) l0 rfl rfl ?_
                refine m_ild (pc' := 100) cd_Mo_part rfl (Or.inr ⟨_, rfl, rfl, rfl⟩) l1 rfl ?_
                refine m_ald (pc' := 101) cd_Mo_part rfl (Or.inr ⟨_, rfl, rfl, rfl⟩) l0 rfl rfl ?_
                refine m_fR (r := 2) (a := 3) (ad := 1485) (pc' := 104) rfl rfl cd_Mo_part rfl rfl rfl rfl rfl ?_
                refine m_ild (pc' := 106) cd_Mo_part rfl (Or.inl ⟨rfl, rfl⟩) l4 rfl ?_
                refine m_aI (r := 2) (a := 3) (g := (A 3)) (x := ((A 3) t1)) (pc' := 107) rfl rfl cd_Mo_part rfl rfl rfl (vp_in_nI (by omega) (by decide)) (congrArg (A 3) (nI_clamp (by omega))) ?_
                refine m_ci (pc' := 110) cd_Mo_part rfl rfl rfl rfl rfl cd_Mo_set rfl (Nat.le_of_ble_eq_true rfl) (m_set hM hR (MT_two hM ht1 (Or.inr (Or.inr c95))) (fun g hg => ?_))
                show mg _ _ _ 110 _ [.int ((kp reg r (pt (reg i1) 1)).1)] _ _
                refine m_pure (pc' := 114) (st' := [.int ((kp reg r (pt (reg i1) 1)).1)]) cd_Mo_part rfl rfl (fun _ _ => rfl) ?_
                exact m_reti cd_Mo_part rfl ⟨_, rfl, (by rw [show pa_spec reg (nI i1) a = pt (reg i1) 1 from (pa_oth (inR_hi c31)).trans (by rw [if_neg c67, hl_in hi1, if_pos ⟨c83, c95⟩])] at kk; exact kk g hg)⟩
          · have c67 : a = 4 := Classical.not_not.mp c67
            refine m_ald (pc' := 71) cd_Mo_part rfl (Or.inr ⟨_, rfl, rfl, rfl⟩) l0 rfl rfl ?_
            refine m_fR (r := 0) (a := 1) (ad := 1483) (pc' := 74) rfl rfl cd_Mo_part rfl rfl rfl rfl rfl ?_
            refine m_ild (pc' := 76) cd_Mo_part rfl (Or.inl ⟨rfl, rfl⟩) l4 rfl ?_
            refine m_aI (r := 0) (a := 1) (g := (A 1)) (x := (kd (reg i1))) (pc' := 77) rfl rfl cd_Mo_part rfl rfl rfl (vp_in_nI (by omega) (by decide)) ((congrArg (A 1) (nI_clamp (by omega))).trans (MT_kd hM ht1)) ?_
            refine m_k1 (v := 5) (pc' := 78) cd_Mo_part rfl (by decide) rfl ?_
            refine m_if2 (t := 98) (pc' := 81) cd_Mo_part rfl rfl rfl (fun c78 => ?_) (fun c78 => ?_)
            · have c78 : (kd (reg i1)) = 5 := c78
              refine m_ald (pc' := 99) cd_Mo_part rfl (Or.inr ⟨_, rfl, rfl, rfl⟩) l0 rfl rfl ?_
              refine m_ild (pc' := 100) cd_Mo_part rfl (Or.inr ⟨_, rfl, rfl, rfl⟩) l1 rfl ?_
              refine m_ald (pc' := 101) cd_Mo_part rfl (Or.inr ⟨_, rfl, rfl, rfl⟩) l0 rfl rfl ?_
              refine m_fR (r := 2) (a := 3) (ad := 1485) (pc' := 104) rfl rfl cd_Mo_part rfl rfl rfl rfl rfl ?_
              refine m_ild (pc' := 106) cd_Mo_part rfl (Or.inl ⟨rfl, rfl⟩) l4 rfl ?_
              refine m_aI (r := 2) (a := 3) (g := (A 3)) (x := ((A 3) t1)) (pc' := 107) rfl rfl cd_Mo_part rfl rfl rfl (vp_in_nI (by omega) (by decide)) (congrArg (A 3) (nI_clamp (by omega))) ?_
              refine m_ci (pc' := 110) cd_Mo_part rfl rfl rfl rfl rfl cd_Mo_set rfl (Nat.le_of_ble_eq_true rfl) (m_set hM hR (MT_two hM ht1 (Or.inr (Or.inl c78))) (fun g hg => ?_))
              show mg _ _ _ 110 _ [.int ((kp reg r (pt (reg i1) 1)).1)] _ _
              refine m_pure (pc' := 114) (st' := [.int ((kp reg r (pt (reg i1) 1)).1)]) cd_Mo_part rfl rfl (fun _ _ => rfl) ?_
              exact m_reti cd_Mo_part rfl ⟨_, rfl, (by rw [show pa_spec reg (nI i1) a = pt (reg i1) 1 from (pa_oth (inR_hi c31)).trans (by rw [if_pos c67, hl_in hi1, if_pos c78])] at kk; exact kk g hg)⟩
            · have c78 : ¬ (kd (reg i1)) = 5 := c78
              refine m_ild (pc' := 82) cd_Mo_part rfl (Or.inr ⟨_, rfl, rfl, rfl⟩) l3 rfl ?_
              refine m_k1 (v := 5) (pc' := 83) cd_Mo_part rfl (by decide) rfl ?_
              refine m_if2 (t := 113) (pc' := 86) cd_Mo_part rfl rfl rfl (fun c83 => ?_) (fun c83 => ?_)
              · have c83 : ¬ a = 5 := c83
                refine m_k1 (v := (-1)) (pc' := 114) cd_Mo_part rfl (by decide) rfl ?_
                exact m_reti cd_Mo_part rfl ⟨_, rfl, (by rw [show kp reg r (pa_spec reg (nI i1) a) = (-1, reg) from kp_z ((pa_oth (inR_hi c31)).trans (by rw [if_pos c67, hl_in hi1, if_neg c78]))] at kk; have k2 := kk (A 45) hR; rw [fset_id] at k2; exact k2)⟩
              · have c83 : a = 5 := Classical.not_not.mp c83
                exact absurd (c67.symm.trans c83) (by decide)
        · have c31 : ¬ (4 : Int32) ≤ a := c31
          have ha4 : inR a 4 = true := inR_t c26 c31
          obtain ⟨j, hj, ea⟩ := inR_of (n := 4) (by decide) ha4
          subst ea
          refine m_ald (pc' := 35) cd_Mo_part rfl (Or.inr ⟨_, rfl, rfl, rfl⟩) l0 rfl rfl ?_
          refine m_fR (r := 0) (a := 1) (ad := 1483) (pc' := 38) rfl rfl cd_Mo_part rfl rfl rfl rfl rfl ?_
          refine m_ild (pc' := 40) cd_Mo_part rfl (Or.inl ⟨rfl, rfl⟩) l4 rfl ?_
          refine m_aI (r := 0) (a := 1) (g := (A 1)) (x := (kd (reg i1))) (pc' := 41) rfl rfl cd_Mo_part rfl rfl rfl (vp_in_nI (by omega) (by decide)) ((congrArg (A 1) (nI_clamp (by omega))).trans (MT_kd hM ht1)) ?_
          refine m_k2 (v := 7) (pc' := 43) cd_Mo_part rfl (by decide) rfl ?_
          refine m_if2 (t := 63) (pc' := 46) cd_Mo_part rfl rfl rfl (fun c43 => ?_) (fun c43 => ?_)
          · have c43 : ¬ (kd (reg i1)) = 7 := c43
            refine m_k1 (v := (-1)) (pc' := 64) cd_Mo_part rfl (by decide) rfl ?_
            exact m_reti cd_Mo_part rfl ⟨_, rfl, (by rw [show kp reg r (pa_spec reg (nI i1) (nI j)) = (-1, reg) from kp_z ((pa_row ha4).trans (if_neg (by rw [hl_in hi1]; exact c43)))] at kk; have k2 := kk (A 45) hR; rw [fset_id] at k2; exact k2)⟩
          · have c43 : (kd (reg i1)) = 7 := Classical.not_not.mp c43
            refine m_ald (pc' := 47) cd_Mo_part rfl (Or.inr ⟨_, rfl, rfl, rfl⟩) l0 rfl rfl ?_
            refine m_ild (pc' := 48) cd_Mo_part rfl (Or.inr ⟨_, rfl, rfl, rfl⟩) l1 rfl ?_
            refine m_ald (pc' := 49) cd_Mo_part rfl (Or.inr ⟨_, rfl, rfl, rfl⟩) l0 rfl rfl ?_
            refine m_ild (pc' := 51) cd_Mo_part rfl (Or.inl ⟨rfl, rfl⟩) l4 rfl ?_
            refine m_k1 (v := 4) (pc' := 52) cd_Mo_part rfl (by decide) rfl ?_
            refine m_ild (pc' := 53) cd_Mo_part rfl (Or.inr ⟨_, rfl, rfl, rfl⟩) l3 rfl ?_
            refine m_pure (pc' := 54) (st' := [.int ((4 : Int32) + (nI j)), .int ((nI t1)), .ref 1482, .int r, .ref 1482]) cd_Mo_part rfl rfl (fun _ _ => rfl) ?_
            refine m_eq (show ((4 : Int32) + (nI j) : Int32) = nI (4 + j) from nI_add 4 j) ?_
            refine m_ci (pc' := 57) cd_Mo_part rfl rfl rfl rfl rfl cd_Mo_cell rfl (Nat.le_of_ble_eq_true rfl) (m_cellP (k := j) hM ht1 c43 hj (fun rr hrr => ?_))
            show mg _ _ _ 57 _ [.int rr, .int r, .ref 1482] _ _
            refine m_ci (pc' := 60) cd_Mo_part rfl rfl rfl rfl rfl cd_Mo_set rfl (Nat.le_of_ble_eq_true rfl) (m_set hM hR hrr (fun g hg => ?_))
            show mg _ _ _ 60 _ [.int ((kp reg r (pt (reg i1) j)).1)] _ _
            refine m_pure (pc' := 64) (st' := [.int ((kp reg r (pt (reg i1) j)).1)]) cd_Mo_part rfl rfl (fun _ _ => rfl) ?_
            exact m_reti cd_Mo_part rfl ⟨_, rfl, (by rw [show pa_spec reg (nI i1) (nI j) = pt (reg i1) j from (pa_row ha4).trans (by rw [hl_in hi1, if_pos c43, nI_clamp (by omega)])] at kk; exact kk g hg)⟩
    · have c12 : (!tnil (hl reg x)) = false := bz_f (Classical.not_not.mp c12)
      refine m_k1 (v := (-1)) (pc' := 16) cd_Mo_part rfl (by decide) rfl ?_
      exact m_reti cd_Mo_part rfl ⟨_, rfl, (by rw [show kp reg r (pa_spec reg x a) = (-1, reg) from kp_z (pa_z (held_no c12))] at kk; have k2 := kk (A 45) hR; rw [fset_id] at k2; exact k2)⟩
