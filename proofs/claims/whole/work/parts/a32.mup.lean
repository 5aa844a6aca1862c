/-! The reference: letter, up -/
theorem mjW_22 (B A : Nat → Nat → Int32) (g : Nat → Int32) : mjW B (fset A 22 g) = mjW B A := by
  funext j
  unfold mjW
  split
  · rfl
  · rename_i q; exact fset_ne (by omega)
set_option maxRecDepth 100000 in
theorem mo_letter {sc : tm_X} {d : Nat} {f : Nat → Int32} {A : Nat → Nat → Int32} {T : List Tm} {ws : List (Tm × Int32)} {z : Int32} {Q : Int32 → MS → Prop} (hW : qWi f A T ws) (kk : Q (lt_spec ws z) (f, A)) : mGi sc (d + 0) 277 [.ref 1482, .int z] (f, A) Q := by
  have h40 := hW.1.1
  have hwl := hW.1.2
  show mg sc (d + 0) 277 0 [(0, .ref 1482), (1, .int z)] [] (f, A) _
  generalize elv : ([(0, .ref 1482), (1, .int z)] : tm_L) = lv
  have l0 : lv.lookup 0 = some (.ref 1482) := by rw [← elv]; rfl
  have l1 : lv.lookup 1 = some (.int z) := by rw [← elv]; rfl
  clear elv
  refine m_ild (pc' := 1) cd_Mo_letter rfl (Or.inr ⟨_, rfl, rfl, rfl⟩) l1 rfl ?_
  refine m_if1 (t := 21) (pc' := 4) cd_Mo_letter rfl rfl rfl (fun c1 => ?_) (fun c1 => ?_)
  · have c1 : z < 0 := c1
    refine m_k1 (v := (-1)) (pc' := 22) cd_Mo_letter rfl (by decide) rfl ?_
    exact m_reti cd_Mo_letter rfl ⟨_, rfl, (by rw [show lt_spec ws z = -1 from if_neg (fun q => Bool.noConfusion ((inR_lo c1).symm.trans q))] at kk; exact kk)⟩
  · have c1 : ¬ z < 0 := c1
    refine m_ild (pc' := 5) cd_Mo_letter rfl (Or.inr ⟨_, rfl, rfl, rfl⟩) l1 rfl ?_
    refine m_ald (pc' := 6) cd_Mo_letter rfl (Or.inr ⟨_, rfl, rfl, rfl⟩) l0 rfl rfl ?_
    refine m_fI (k := 40) (x := (nI ws.length)) (pc' := 9) cd_Mo_letter rfl rfl rfl rfl rfl h40 ?_
    refine m_if2 (t := 21) (pc' := 12) cd_Mo_letter rfl rfl rfl (fun c9 => ?_) (fun c9 => ?_)
    · have c9 : (nI ws.length) ≤ z := c9
      refine m_k1 (v := (-1)) (pc' := 22) cd_Mo_letter rfl (by decide) rfl ?_
      exact m_reti cd_Mo_letter rfl ⟨_, rfl, (by rw [show lt_spec ws z = -1 from if_neg (fun q => Bool.noConfusion ((inR_hi c9).symm.trans q))] at kk; exact kk)⟩
    · have c9 : ¬ (nI ws.length) ≤ z := c9
      have hin := inR_t c1 c9
      obtain ⟨j, hj, ej⟩ := inR_of (n := ws.length) (by omega) hin
      subst ej
      obtain ⟨e, he⟩ : ∃ e, ws[j]? = some e := ⟨_, List.getElem?_eq_getElem hj⟩
      refine m_ald (pc' := 13) cd_Mo_letter rfl (Or.inr ⟨_, rfl, rfl, rfl⟩) l0 rfl rfl ?_
      refine m_fR (r := 28) (a := 29) (ad := 1511) (pc' := 16) rfl rfl cd_Mo_letter rfl rfl rfl rfl rfl ?_
      refine m_ild (pc' := 17) cd_Mo_letter rfl (Or.inr ⟨_, rfl, rfl, rfl⟩) l1 rfl ?_
      refine m_aI (r := 28) (a := 29) (g := (A 29)) (x := e.2) (pc' := 18) rfl rfl cd_Mo_letter rfl rfl rfl (vp_in_nI (by omega) (by decide)) ((congrArg (A 29) (nI_clamp (by omega))).trans (hW.2 j e he).2) ?_
      refine m_pure (pc' := 22) (st' := [.int e.2]) cd_Mo_letter rfl rfl (fun _ _ => rfl) ?_
      exact m_reti cd_Mo_letter rfl ⟨_, rfl, (by rw [show lt_spec ws (nI j) = e.2 from (if_pos hin).trans (by rw [nI_clamp (by omega), getD_of he])] at kk; exact kk)⟩
set_option maxRecDepth 100000 in
theorem mo_up {sc : tm_X} {d : Nat} {f : Nat → Int32} {A : Nat → Nat → Int32} {T : List Tm} {p : Nat} {b dn : Bool} {P O : EN2} {c : Option Nat} {Q : Int32 → MS → Prop} (hp : p < 6) (hst : qSt A T p (b, P, O, c, dn)) (k0 : dn = false → Q 0 (f, A)) (kk : dn = true → ∀ A1, A1 19 = thW (A 19) (2 * p + (1 - sh b)) 75 0 → A1 20 = upd (A 20) (2 * p + (1 - sh b)) 0 → A1 22 = upd (A 22) p 0 → (∀ j, j ≠ 19 → j ≠ 20 → j ≠ 22 → A1 j = A j) → Q 1 (f, mjW A1 A)) : mGi sc (d + 1) 252 [.ref 1482, .int (nI p)] (f, A) Q := by
  have hs := sh_lt b
  have h21 : A 21 p = nI (sh b) := hst.1.1.trans (bz_sh b)
  have h22 := hst.1.2.2.1
  show mg sc (d + 1) 252 0 [(0, .ref 1482), (1, .int (nI p))] [] (f, A) _
  generalize elv : ([(0, .ref 1482), (1, .int (nI p))] : tm_L) = lv
  have l0 : lv.lookup 0 = some (.ref 1482) := by rw [← elv]; rfl
  have l1 : lv.lookup 1 = some (.int (nI p)) := by rw [← elv]; rfl
  clear elv
  refine m_ild (pc' := 1) cd_Mo_up rfl (Or.inr ⟨_, rfl, rfl, rfl⟩) l1 rfl ?_
  refine m_si (pc' := 4) cd_Mo_up rfl rfl rfl rfl rfl cd_Mo_isDevice rfl (Nat.le_of_ble_eq_true rfl) (m_isDev1 hp ?_)
  show mg _ _ _ 4 _ [.int 1] _ _
  refine m_if1 (t := 9) (pc' := 7) cd_Mo_up rfl rfl rfl (fun c4 => ?_) (fun c4 => ?_)
  · have c4 : ¬ (1 : Int32) = 0 := c4
    refine m_ald (pc' := 10) cd_Mo_up rfl (Or.inr ⟨_, rfl, rfl, rfl⟩) l0 rfl rfl ?_
    refine m_fR (r := 21) (a := 22) (ad := 1504) (pc' := 13) rfl rfl cd_Mo_up rfl rfl rfl rfl rfl ?_
    refine m_ild (pc' := 14) cd_Mo_up rfl (Or.inr ⟨_, rfl, rfl, rfl⟩) l1 rfl ?_
    refine m_bI (r := 21) (a := 22) (g := (A 22)) (x := bz dn) (pc' := 15) rfl rfl cd_Mo_up rfl rfl rfl (vp_in_nI (by omega) (by decide)) ((congrArg (A 22) (nI_clamp (by omega))).trans h22) ?_
    refine m_if1 (t := 20) (pc' := 18) cd_Mo_up rfl rfl rfl (fun c15 => ?_) (fun c15 => ?_)
    · have c15 : dn = true := bz_t c15
      refine m_ald (pc' := 21) cd_Mo_up rfl (Or.inr ⟨_, rfl, rfl, rfl⟩) l0 rfl rfl ?_
      refine m_fR (r := 21) (a := 22) (ad := 1504) (pc' := 24) rfl rfl cd_Mo_up rfl rfl rfl rfl rfl ?_
      refine m_ild (pc' := 25) cd_Mo_up rfl (Or.inr ⟨_, rfl, rfl, rfl⟩) l1 rfl ?_
      refine m_k1 (v := 0) (pc' := 26) cd_Mo_up rfl (by decide) rfl ?_
      refine m_bS (r := 21) (a := 22) (g := (A 22)) (p := p) (pc' := 27) rfl rfl cd_Mo_up rfl rfl rfl (vp_in_nI (by omega) (by decide)) (nI_clamp (by omega)) (by decide) ?_
      refine m_ald (pc' := 28) cd_Mo_up rfl (Or.inr ⟨_, rfl, rfl, rfl⟩) l0 rfl rfl ?_
      refine m_ild (pc' := 29) cd_Mo_up rfl (Or.inr ⟨_, rfl, rfl, rfl⟩) l1 rfl ?_
      refine m_k1 (v := 1) (pc' := 30) cd_Mo_up rfl (by decide) rfl ?_
      refine m_ald (pc' := 31) cd_Mo_up rfl (Or.inr ⟨_, rfl, rfl, rfl⟩) l0 rfl rfl ?_
      refine m_fR (r := 20) (a := 21) (ad := 1503) (pc' := 34) rfl rfl cd_Mo_up rfl rfl rfl rfl rfl ?_
      refine m_ild (pc' := 35) cd_Mo_up rfl (Or.inr ⟨_, rfl, rfl, rfl⟩) l1 rfl ?_
      refine m_aI (r := 20) (a := 21) (g := (A 21)) (x := (nI (sh b))) (pc' := 36) rfl rfl cd_Mo_up rfl rfl rfl (vp_in_nI (by omega) (by decide)) ((congrArg (A 21) (nI_clamp (by omega))).trans h21) ?_
      refine m_pure (pc' := 37) (st' := [.int ((1 : Int32) - (nI (sh b))), .int (nI p), .ref 1482]) cd_Mo_up rfl rfl (fun _ _ => rfl) ?_
      refine m_eq (show ((1 : Int32) - (nI (sh b)) : Int32) = nI (1 - (sh b)) from pk_sub (a := 1) (b := (sh b)) (by omega)) ?_
      refine m_cv (pc' := 40) cd_Mo_up rfl rfl rfl rfl rfl cd_Mo_empty rfl (Nat.le_of_ble_eq_true rfl) (m_empty (o := 1 - sh b) hp (by omega) (fun A1 e19 e20 eA => ?_))
      show mg _ _ _ 40 _ [] _ _
      refine m_k1 (v := 1) (pc' := 41) cd_Mo_up rfl (by decide) rfl ?_
      have k2 := kk c15 A1 e19 e20 ((eA 22 (by decide) (by decide)).trans rfl) (fun j h1 h2 h3 => (eA j h1 h2).trans (fset_ne h3))
      rw [← mjW_22 A1 A (upd (A 22) p 0)] at k2
      exact m_reti cd_Mo_up rfl ⟨_, rfl, k2⟩
    · have c15 : dn = false := bz_f (Classical.not_not.mp c15)
      refine m_k1 (v := 0) (pc' := 19) cd_Mo_up rfl (by decide) rfl ?_
      exact m_reti cd_Mo_up rfl ⟨_, rfl, k0 c15⟩
  · exact absurd (show ¬ (¬ (1 : Int32) = 0) from c4) (by decide)
