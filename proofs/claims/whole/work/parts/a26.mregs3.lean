/-! The reference: seal, part, take -/
theorem mjF_self (f : Nat → Int32) : mjF f f = f := by
  funext k
  unfold mjF
  split <;> rfl
theorem mjA_self (A : Nat → Nat → Int32) : mjA A A = A := by
  funext k
  unfold mjA
  split <;> rfl
theorem mx_self {f : Nat → Int32} {A : Nat → Nat → Int32} {T : List Tm} {DL : List (Int32 × Int32)} {G W : Tm → Prop} (m q : Nat) (hM : MT f A T DL G W) : mx f f A A T T m q DL G W := ⟨List.prefix_refl T, by omega, by omega, by rw [mjF_self, mjA_self]; exact hM⟩
set_option maxRecDepth 100000 in
theorem mo_seal {sc : tm_X} {d : Nat} {f : Nat → Int32} {A : Nat → Nat → Int32} {T : List Tm} {DL : List (Int32 × Int32)} {G Kw : Tm → Prop} {reg : Nat → Tm} {r k h b : Int32} {Q : Int32 → MS → Prop} (hM : MT f A T DL G Kw) (hR : ∀ i, i < 32 → tv T (A 45 i) (reg i)) (hl0 : T.length < 4000) (hr0 : rc (A 1) T.length < 1000) (kk : ∀ f1 A1 T' g, mx f f1 A A1 T T' 1 0 DL G Kw → (∀ i, i < 32 → tv T' (g i) ((sl_spec reg r k h b).2 i)) → Q (sl_spec reg r k h b).1 (mjF f1 f, fset (mjA A1 A) 45 g)) : mGi sc (d + 3) 260 [.ref 1482, .int r, .int k, .int h, .int b] (f, A) Q := by
  show mg sc (d + 3) 260 0 [(0, .ref 1482), (1, .int r), (2, .int k), (3, .int h), (4, .int b)] [] (f, A) _
  generalize elv : ([(0, .ref 1482), (1, .int r), (2, .int k), (3, .int h), (4, .int b)] : tm_L) = lv
  have l0 : lv.lookup 0 = some (.ref 1482) := by rw [← elv]; rfl
  have l1 : lv.lookup 1 = some (.int r) := by rw [← elv]; rfl
  have l2 : lv.lookup 2 = some (.int k) := by rw [← elv]; rfl
  have l3 : lv.lookup 3 = some (.int h) := by rw [← elv]; rfl
  have l4 : lv.lookup 4 = some (.int b) := by rw [← elv]; rfl
  clear elv
  refine m_ild (pc' := 1) cd_Mo_seal rfl (Or.inr ⟨_, rfl, rfl, rfl⟩) l1 rfl ?_
  refine m_si (pc' := 4) cd_Mo_seal rfl rfl rfl rfl rfl cd_Mo_isRegister rfl (Nat.le_of_ble_eq_true rfl) (m_isRegister ?_)
  show mg _ _ _ 4 _ [.int (bz (inR r 32))] _ _
  refine m_if1 (t := 32) (pc' := 7) cd_Mo_seal rfl rfl rfl (fun c4 => ?_) (fun c4 => ?_)
  · have c4 : (inR r 32) = false := bz_f c4
    refine m_k1 (v := (-1)) (pc' := 33) cd_Mo_seal rfl (by decide) rfl ?_
    exact m_reti cd_Mo_seal rfl ⟨_, rfl, (by rw [show sl_spec reg r k h b = (-1, reg) from if_neg (fun q => Bool.noConfusion (c4.symm.trans q.1))] at kk; have k2 := kk f A T (A 45) (mx_self 1 0 hM) hR; rw [mjF_self, mjA_self, fset_id] at k2; exact k2)⟩
  · have c4 : (inR r 32) = true := bz_t c4
    refine m_ald (pc' := 8) cd_Mo_seal rfl (Or.inr ⟨_, rfl, rfl, rfl⟩) l0 rfl rfl ?_
    refine m_ild (pc' := 9) cd_Mo_seal rfl (Or.inr ⟨_, rfl, rfl, rfl⟩) l2 rfl ?_
    refine m_ci (pc' := 12) cd_Mo_seal rfl rfl rfl rfl rfl cd_Mo_isHeld rfl (Nat.le_of_ble_eq_true rfl) (m_held hM hR ?_)
    show mg _ _ _ 12 _ [.int (bz (!tnil (hl reg k)))] _ _
    refine m_if1 (t := 32) (pc' := 15) cd_Mo_seal rfl rfl rfl (fun c12 => ?_) (fun c12 => ?_)
    · have c12 : (!tnil (hl reg k)) = false := bz_f c12
      refine m_k1 (v := (-1)) (pc' := 33) cd_Mo_seal rfl (by decide) rfl ?_
      exact m_reti cd_Mo_seal rfl ⟨_, rfl, (by rw [show sl_spec reg r k h b = (-1, reg) from if_neg (fun q => by rw [held_no c12] at q; exact absurd q.2.1 (by decide))] at kk; have k2 := kk f A T (A 45) (mx_self 1 0 hM) hR; rw [mjF_self, mjA_self, fset_id] at k2; exact k2)⟩
    · have c12 : (!tnil (hl reg k)) = true := bz_t c12
      obtain ⟨i1, hi1, ex1, nz1⟩ := held_in c12
      subst ex1
      obtain ⟨t1, et1, ht1⟩ := hR i1 hi1
      have htl1 := tv_lt ht1
      have hTl0 := MT_len hM
      refine m_ald (pc' := 16) cd_Mo_seal rfl (Or.inr ⟨_, rfl, rfl, rfl⟩) l0 rfl rfl ?_
      refine m_ild (pc' := 17) cd_Mo_seal rfl (Or.inr ⟨_, rfl, rfl, rfl⟩) l3 rfl ?_
      refine m_ci (pc' := 20) cd_Mo_seal rfl rfl rfl rfl rfl cd_Mo_isHeld rfl (Nat.le_of_ble_eq_true rfl) (m_held hM hR ?_)
      show mg _ _ _ 20 _ [.int (bz (!tnil (hl reg h)))] _ _
      refine m_if1 (t := 32) (pc' := 23) cd_Mo_seal rfl rfl rfl (fun c20 => ?_) (fun c20 => ?_)
      · have c20 : (!tnil (hl reg h)) = false := bz_f c20
        refine m_k1 (v := (-1)) (pc' := 33) cd_Mo_seal rfl (by decide) rfl ?_
        exact m_reti cd_Mo_seal rfl ⟨_, rfl, (by rw [show sl_spec reg r (nI i1) h b = (-1, reg) from if_neg (fun q => by rw [held_no c20] at q; exact absurd q.2.2.1 (by decide))] at kk; have k2 := kk f A T (A 45) (mx_self 1 0 hM) hR; rw [mjF_self, mjA_self, fset_id] at k2; exact k2)⟩
      · have c20 : (!tnil (hl reg h)) = true := bz_t c20
        obtain ⟨i2, hi2, ex2, nz2⟩ := held_in c20
        subst ex2
        obtain ⟨t2, et2, ht2⟩ := hR i2 hi2
        have htl2 := tv_lt ht2
        have hTl0 := MT_len hM
        refine m_ald (pc' := 24) cd_Mo_seal rfl (Or.inr ⟨_, rfl, rfl, rfl⟩) l0 rfl rfl ?_
        refine m_ild (pc' := 26) cd_Mo_seal rfl (Or.inl ⟨rfl, rfl⟩) l4 rfl ?_
        refine m_ci (pc' := 29) cd_Mo_seal rfl rfl rfl rfl rfl cd_Mo_isHeld rfl (Nat.le_of_ble_eq_true rfl) (m_held hM hR ?_)
        show mg _ _ _ 29 _ [.int (bz (!tnil (hl reg b)))] _ _
        refine m_if1 (t := 34) (pc' := 32) cd_Mo_seal rfl rfl rfl (fun c29 => ?_) (fun c29 => ?_)
        · have c29 : (!tnil (hl reg b)) = true := bz_t c29
          obtain ⟨i3, hi3, ex3, nz3⟩ := held_in c29
          subst ex3
          obtain ⟨t3, et3, ht3⟩ := hR i3 hi3
          have htl3 := tv_lt ht3
          have hTl0 := MT_len hM
          refine m_ald (pc' := 35) cd_Mo_seal rfl (Or.inr ⟨_, rfl, rfl, rfl⟩) l0 rfl rfl ?_
          refine m_ild (pc' := 36) cd_Mo_seal rfl (Or.inr ⟨_, rfl, rfl, rfl⟩) l1 rfl ?_
          refine m_ald (pc' := 37) cd_Mo_seal rfl (Or.inr ⟨_, rfl, rfl, rfl⟩) l0 rfl rfl ?_
          refine m_k1 (v := 5) (pc' := 38) cd_Mo_seal rfl (by decide) rfl ?_
          refine m_ald (pc' := 39) cd_Mo_seal rfl (Or.inr ⟨_, rfl, rfl, rfl⟩) l0 rfl rfl ?_
          refine m_fR (r := 44) (a := 45) (ad := 1527) (pc' := 42) rfl rfl cd_Mo_seal rfl rfl rfl rfl rfl ?_
          refine m_ild (pc' := 43) cd_Mo_seal rfl (Or.inr ⟨_, rfl, rfl, rfl⟩) l2 rfl ?_
          refine m_aI (r := 44) (a := 45) (g := (A 45)) (x := (nI t1)) (pc' := 44) rfl rfl cd_Mo_seal rfl rfl rfl (vp_in_nI (by omega) (by decide)) (by rw [(nI_clamp (by omega))]; exact et1) ?_
          refine m_ald (pc' := 45) cd_Mo_seal rfl (Or.inr ⟨_, rfl, rfl, rfl⟩) l0 rfl rfl ?_
          refine m_fR (r := 44) (a := 45) (ad := 1527) (pc' := 48) rfl rfl cd_Mo_seal rfl rfl rfl rfl rfl ?_
          refine m_ild (pc' := 49) cd_Mo_seal rfl (Or.inr ⟨_, rfl, rfl, rfl⟩) l3 rfl ?_
          refine m_aI (r := 44) (a := 45) (g := (A 45)) (x := (nI t2)) (pc' := 50) rfl rfl cd_Mo_seal rfl rfl rfl (vp_in_nI (by omega) (by decide)) (by rw [(nI_clamp (by omega))]; exact et2) ?_
          refine m_ald (pc' := 51) cd_Mo_seal rfl (Or.inr ⟨_, rfl, rfl, rfl⟩) l0 rfl rfl ?_
          refine m_fR (r := 44) (a := 45) (ad := 1527) (pc' := 54) rfl rfl cd_Mo_seal rfl rfl rfl rfl rfl ?_
          refine m_ild (pc' := 56) cd_Mo_seal rfl (Or.inl ⟨rfl, rfl⟩) l4 rfl ?_
          refine m_aI (r := 44) (a := 45) (g := (A 45)) (x := (nI t3)) (pc' := 57) rfl rfl cd_Mo_seal rfl rfl rfl (vp_in_nI (by omega) (by decide)) (by rw [(nI_clamp (by omega))]; exact et3) ?_
          refine m_ci (pc' := 60) cd_Mo_seal rfl rfl rfl rfl rfl cd_Mo_term rfl (Nat.le_of_ble_eq_true rfl) (m_sealed hM hl0 hr0 ⟨t1, rfl, ht1⟩ ⟨t2, rfl, ht2⟩ ⟨t3, rfl, ht3⟩ nz1 nz2 nz3 (fun f1 A1 T1 r1 hx1 hr1 => ?_))
          have hM1 := hx1.2.2.2
          have hR1 : ∀ i, i < 32 → tv T1 (mjA A1 A 45 i) (reg i) := fun i hi => tv_mono hx1.1 (hR i hi)
          show mg _ _ _ 60 _ [.int r1, .int r, .ref 1482] _ _
          refine m_ci (pc' := 63) cd_Mo_seal rfl rfl rfl rfl rfl cd_Mo_set rfl (Nat.le_of_ble_eq_true rfl) (m_set hM1 hR1 hr1 (fun g hg => ?_))
          show mg _ _ _ 63 _ [.int ((kp reg r (Tsl (reg i1) (reg i2) (reg i3))).1)] _ _
          exact m_reti cd_Mo_seal rfl ⟨_, rfl, (by rw [show sl_spec reg r (nI i1) (nI i2) (nI i3) = kp reg r (Tsl (reg i1) (reg i2) (reg i3)) from (if_pos (by rw [hl_in hi1, hl_in hi2, hl_in hi3]; exact ⟨c4, tnil_f nz1, tnil_f nz2, tnil_f nz3⟩)).trans (by rw [hl_in hi1, hl_in hi2, hl_in hi3])] at kk; exact kk f1 A1 T1 g hx1 hg)⟩
        · have c29 : (!tnil (hl reg b)) = false := bz_f (Classical.not_not.mp c29)
          refine m_k1 (v := (-1)) (pc' := 33) cd_Mo_seal rfl (by decide) rfl ?_
          exact m_reti cd_Mo_seal rfl ⟨_, rfl, (by rw [show sl_spec reg r (nI i1) (nI i2) b = (-1, reg) from if_neg (fun q => by rw [held_no c29] at q; exact absurd q.2.2.2 (by decide))] at kk; have k2 := kk f A T (A 45) (mx_self 1 0 hM) hR; rw [mjF_self, mjA_self, fset_id] at k2; exact k2)⟩
