/-! The reference: groups entered; list -/
set_option maxRecDepth 100000 in
theorem l_enGl {sc : tm_X} {d : Nat} {f : Nat → Int32} {A : Nat → Nat → Int32} {T : List Tm} {DL : List (Int32 × Int32)} {G Kw : Tm → Prop} {q p k : Nat} {G0 : GV} {Q : Option Value → MS → Prop} (hM : MT f A T DL G Kw) (hq : q < 4) (hp : p < 6) (hk : k < 2) (hG : qGv (A 15) T (486 + q * 279 + 15 + (2 * p + k) * 22) G0) : ∀ (R : List (Tm × Int32 × Tm)) (i : Nat) (W : EN2) (g : Nat → Int32), G0.1.2.2.2.drop i = R → EN g T W 0 → W.length + R.length ≤ 600 → i ≤ 8 → (∀ g' (lv : tm_L), EN g' T (W ++ ((R).map fun e => (e.2.2, tz))) 0 → lv.lookup 0 = some (.ref 1482) → lv.lookup 1 = some (.int (nI q)) → lv.lookup 2 = some (.int (nI (486 + q * 279))) → lv.lookup 3 = some (.int (nI p)) → lv.lookup 4 = some (.int (nI k)) → mg sc (d + 2) 196 138 lv [] (fset f 38 (nI (W ++ ((R).map fun e => (e.2.2, tz))).length), fset A 27 g') Q) → ∀ lv : tm_L, lv.lookup 0 = some (.ref 1482) → lv.lookup 1 = some (.int (nI q)) → lv.lookup 2 = some (.int (nI (486 + q * 279))) → lv.lookup 3 = some (.int (nI p)) → lv.lookup 4 = some (.int (nI k)) → lv.lookup 5 = some (.int (nI (486 + q * 279 + 15 + (2 * p + k) * 22))) → lv.lookup 6 = some (.int (nI i)) → mg sc (d + 2) 196 97 lv [] (fset f 38 (nI (W).length), fset A 27 g) Q := by
  intro R
  induction R with
  | nil =>
    intro i W g hR hg hW hi8 kk lv l0 l1 l2 l3 l4 l5 l6
    have hl := drop_n hR
    have hl8 := hG.2.1.2
    refine m_ild (pc' := 99) cd_Mo_enterGroup rfl (Or.inl ⟨rfl, rfl⟩) l6 rfl ?_
    refine m_ald (pc' := 100) cd_Mo_enterGroup rfl (Or.inr ⟨_, rfl, rfl, rfl⟩) l0 rfl rfl ?_
    refine m_fR (r := 14) (a := 15) (ad := 1497) (pc' := 103) rfl rfl cd_Mo_enterGroup rfl rfl rfl rfl rfl ?_
    refine m_ild (pc' := 105) cd_Mo_enterGroup rfl (Or.inl ⟨rfl, rfl⟩) l5 rfl ?_
    refine m_k1 (v := 4) (pc' := 106) cd_Mo_enterGroup rfl (by decide) rfl ?_
    refine m_pure (pc' := 107) (st' := [.int ((nI (486 + q * 279 + 15 + (2 * p + k) * 22)) + 4), .ref 1497, .int (nI i)]) cd_Mo_enterGroup rfl rfl (fun _ _ => rfl) ?_
    refine m_eq (show ((nI (486 + q * 279 + 15 + (2 * p + k) * 22)) + 4 : Int32) = nI ((486 + q * 279 + 15 + (2 * p + k) * 22) + 4) from nI_add (486 + q * 279 + 15 + (2 * p + k) * 22) 4) ?_
    refine m_aI (r := 14) (a := 15) (g := (A 15)) (x := (nI G0.1.2.2.2.length)) (pc' := 108) rfl rfl cd_Mo_enterGroup rfl rfl rfl (vp_in_nI (by omega) (by decide)) (by rw [(nI_clamp (by omega))]; exact hG.2.1.1) ?_
    refine m_if2 (t := 138) (pc' := 111) cd_Mo_enterGroup rfl rfl rfl (fun c108 => ?_) (fun c108 => ?_)
    · have c108 : (nI G0.1.2.2.2.length) ≤ (nI i) := c108
      have k2 := kk g lv
      rw [List.map_nil, List.append_nil] at k2
      exact k2 hg l0 l1 l2 l3 l4
    · have c108 : ¬ (nI G0.1.2.2.2.length) ≤ (nI i) := c108
      exact absurd (nI_le hl (by omega)) c108
  | cons X R ih =>
    intro i W g hR hg hW hi8 kk lv l0 l1 l2 l3 l4 l5 l6
    obtain ⟨hX, hR2, hil⟩ := drop_c hR
    have hl8 := hG.2.1.2
    rw [List.length_cons] at hW
    obtain ⟨x1, x2⟩ := hG.2.2.1 i X hX
    refine m_ild (pc' := 99) cd_Mo_enterGroup rfl (Or.inl ⟨rfl, rfl⟩) l6 rfl ?_
    refine m_ald (pc' := 100) cd_Mo_enterGroup rfl (Or.inr ⟨_, rfl, rfl, rfl⟩) l0 rfl rfl ?_
    refine m_fR (r := 14) (a := 15) (ad := 1497) (pc' := 103) rfl rfl cd_Mo_enterGroup rfl rfl rfl rfl rfl ?_
    refine m_ild (pc' := 105) cd_Mo_enterGroup rfl (Or.inl ⟨rfl, rfl⟩) l5 rfl ?_
    refine m_k1 (v := 4) (pc' := 106) cd_Mo_enterGroup rfl (by decide) rfl ?_
    refine m_pure (pc' := 107) (st' := [.int ((nI (486 + q * 279 + 15 + (2 * p + k) * 22)) + 4), .ref 1497, .int (nI i)]) cd_Mo_enterGroup rfl rfl (fun _ _ => rfl) ?_
    refine m_eq (show ((nI (486 + q * 279 + 15 + (2 * p + k) * 22)) + 4 : Int32) = nI ((486 + q * 279 + 15 + (2 * p + k) * 22) + 4) from nI_add (486 + q * 279 + 15 + (2 * p + k) * 22) 4) ?_
    refine m_aI (r := 14) (a := 15) (g := (A 15)) (x := (nI G0.1.2.2.2.length)) (pc' := 108) rfl rfl cd_Mo_enterGroup rfl rfl rfl (vp_in_nI (by omega) (by decide)) (by rw [(nI_clamp (by omega))]; exact hG.2.1.1) ?_
    refine m_if2 (t := 138) (pc' := 111) cd_Mo_enterGroup rfl rfl rfl (fun c108 => ?_) (fun c108 => ?_)
    · have c108 : (nI G0.1.2.2.2.length) ≤ (nI i) := c108
      exact absurd c108 (nI_ge hil (by omega))
    · have c108 : ¬ (nI G0.1.2.2.2.length) ≤ (nI i) := c108
      refine m_ald (pc' := 112) cd_Mo_enterGroup rfl (Or.inr ⟨_, rfl, rfl, rfl⟩) l0 rfl rfl ?_
      refine m_ald (pc' := 113) cd_Mo_enterGroup rfl (Or.inr ⟨_, rfl, rfl, rfl⟩) l0 rfl rfl ?_
      refine m_fR (r := 14) (a := 15) (ad := 1497) (pc' := 116) rfl rfl cd_Mo_enterGroup rfl rfl rfl rfl rfl ?_
      refine m_ild (pc' := 118) cd_Mo_enterGroup rfl (Or.inl ⟨rfl, rfl⟩) l5 rfl ?_
      refine m_k1 (v := 5) (pc' := 119) cd_Mo_enterGroup rfl (by decide) rfl ?_
      refine m_pure (pc' := 120) (st' := [.int ((nI (486 + q * 279 + 15 + (2 * p + k) * 22)) + 5), .ref 1497, .ref 1482]) cd_Mo_enterGroup rfl rfl (fun _ _ => rfl) ?_
      refine m_eq (show ((nI (486 + q * 279 + 15 + (2 * p + k) * 22)) + 5 : Int32) = nI ((486 + q * 279 + 15 + (2 * p + k) * 22) + 5) from nI_add (486 + q * 279 + 15 + (2 * p + k) * 22) 5) ?_
      refine m_k1 (v := 2) (pc' := 121) cd_Mo_enterGroup rfl (by decide) rfl ?_
      refine m_ild (pc' := 123) cd_Mo_enterGroup rfl (Or.inl ⟨rfl, rfl⟩) l6 rfl ?_
      refine m_pure (pc' := 124) (st' := [.int ((2 : Int32) * (nI i)), .int (nI ((486 + q * 279 + 15 + (2 * p + k) * 22) + 5)), .ref 1497, .ref 1482]) cd_Mo_enterGroup rfl rfl (fun _ _ => rfl) ?_
      refine m_eq (show ((2 : Int32) * (nI i) : Int32) = nI (2 * i) from pk_mul 2 i) ?_
      refine m_pure (pc' := 125) (st' := [.int ((nI ((486 + q * 279 + 15 + (2 * p + k) * 22) + 5)) + (nI (2 * i))), .ref 1497, .ref 1482]) cd_Mo_enterGroup rfl rfl (fun _ _ => rfl) ?_
      refine m_eq (show ((nI ((486 + q * 279 + 15 + (2 * p + k) * 22) + 5)) + (nI (2 * i)) : Int32) = nI (((486 + q * 279 + 15 + (2 * p + k) * 22) + 5) + (2 * i)) from nI_add ((486 + q * 279 + 15 + (2 * p + k) * 22) + 5) (2 * i)) ?_
      refine m_k1 (v := 1) (pc' := 126) cd_Mo_enterGroup rfl (by decide) rfl ?_
      refine m_pure (pc' := 127) (st' := [.int ((nI (((486 + q * 279 + 15 + (2 * p + k) * 22) + 5) + (2 * i))) + 1), .ref 1497, .ref 1482]) cd_Mo_enterGroup rfl rfl (fun _ _ => rfl) ?_
      refine m_eq (show ((nI (((486 + q * 279 + 15 + (2 * p + k) * 22) + 5) + (2 * i))) + 1 : Int32) = nI ((((486 + q * 279 + 15 + (2 * p + k) * 22) + 5) + (2 * i)) + 1) from nI_add (((486 + q * 279 + 15 + (2 * p + k) * 22) + 5) + (2 * i)) 1) ?_
      refine m_aI (r := 14) (a := 15) (g := (A 15)) (x := (A 15 ((486 + q * 279 + 15 + (2 * p + k) * 22) + 6 + 2 * i))) (pc' := 128) rfl rfl cd_Mo_enterGroup rfl rfl rfl (vp_in_nI (by omega) (by decide)) (by rw [(nI_clamp (by omega))]; congr 1; omega) ?_
      refine m_k1 (v := 0) (pc' := 129) cd_Mo_enterGroup rfl (by decide) rfl ?_
      refine m_cv (pc' := 132) cd_Mo_enterGroup rfl rfl rfl rfl rfl cd_Mo_enter rfl (Nat.le_of_ble_eq_true rfl) (m_enter hg (by omega) x2 (MT_z hM) (fun g1 hg1 => ?_))
      show mg _ _ _ 132 _ [] _ _
      refine m_inc (y := nI (i + 1)) (pc' := 135) cd_Mo_enterGroup rfl l6 (by decide) (nI_add i 1) rfl (fun lv el => ?_)
      have l0 := tm_lk el l0 rfl (by decide)
      have l1 := tm_lk el l1 rfl (by decide)
      have l2 := tm_lk el l2 rfl (by decide)
      have l3 := tm_lk el l3 rfl (by decide)
      have l4 := tm_lk el l4 rfl (by decide)
      have l5 := tm_lk el l5 rfl (by decide)
      have l6 : lv.lookup 6 = some (.int (nI (i + 1))) := tm_lks el
      clear el
      refine m_pure (pc' := 97) (st' := []) cd_Mo_enterGroup rfl rfl (fun _ _ => rfl) ?_
      exact ih (i + 1) (W ++ [(X.2.2, tz)]) g1 hR2 hg1 (by simp; omega) (by omega) (fun g' lv q1 => by have k2 := kk g' lv; rw [List.map_cons, List.append_cons] at k2; exact k2 q1) lv l0 l1 l2 l3 l4 l5 l6
set_option maxRecDepth 100000 in
theorem l_enGk {sc : tm_X} {d : Nat} {f : Nat → Int32} {A : Nat → Nat → Int32} {T : List Tm} {DL : List (Int32 × Int32)} {G Kw : Tm → Prop} {q p : Nat} {l : List GV} {Q : Option Value → MS → Prop} (hM : MT f A T DL G Kw) (hq : q < 4) (hp : p < 6) (hGs : qGs (A 15) T (486 + q * 279) p l) : ∀ (R : List GV) (k : Nat) (W : EN2) (g : Nat → Int32), l.drop k = R → EN g T W 0 → W.length + (gl_en R).length ≤ 600 → k ≤ 2 → (∀ g' (lv : tm_L), EN g' T (W ++ gl_en R) 0 → lv.lookup 0 = some (.ref 1482) → lv.lookup 1 = some (.int (nI q)) → lv.lookup 2 = some (.int (nI (486 + q * 279))) → lv.lookup 3 = some (.int (nI p)) →  mg sc (d + 2) 196 144 lv [] (fset f 38 (nI (W ++ gl_en R).length), fset A 27 g') Q) → ∀ lv : tm_L, lv.lookup 0 = some (.ref 1482) → lv.lookup 1 = some (.int (nI q)) → lv.lookup 2 = some (.int (nI (486 + q * 279))) → lv.lookup 3 = some (.int (nI p)) → lv.lookup 4 = some (.int (nI k)) → mg sc (d + 2) 196 47 lv [] (fset f 38 (nI (W).length), fset A 27 g) Q := by
  intro R
  induction R with
  | nil =>
    intro k W g hR hg hW hk2 kk lv l0 l1 l2 l3 l4
    have hl := drop_n hR
    have hl2 := hGs.1.2
    refine m_ild (pc' := 49) cd_Mo_enterGroup rfl (Or.inl ⟨rfl, rfl⟩) l4 rfl ?_
    refine m_ald (pc' := 50) cd_Mo_enterGroup rfl (Or.inr ⟨_, rfl, rfl, rfl⟩) l0 rfl rfl ?_
    refine m_fR (r := 14) (a := 15) (ad := 1497) (pc' := 53) rfl rfl cd_Mo_enterGroup rfl rfl rfl rfl rfl ?_
    refine m_ild (pc' := 54) cd_Mo_enterGroup rfl (Or.inr ⟨_, rfl, rfl, rfl⟩) l2 rfl ?_
    refine m_k2 (v := 9) (pc' := 56) cd_Mo_enterGroup rfl (by decide) rfl ?_
    refine m_pure (pc' := 57) (st' := [.int ((nI (486 + q * 279)) + 9), .ref 1497, .int (nI k)]) cd_Mo_enterGroup rfl rfl (fun _ _ => rfl) ?_
    refine m_eq (show ((nI (486 + q * 279)) + 9 : Int32) = nI ((486 + q * 279) + 9) from nI_add (486 + q * 279) 9) ?_
    refine m_ild (pc' := 58) cd_Mo_enterGroup rfl (Or.inr ⟨_, rfl, rfl, rfl⟩) l3 rfl ?_
    refine m_pure (pc' := 59) (st' := [.int ((nI ((486 + q * 279) + 9)) + (nI p)), .ref 1497, .int (nI k)]) cd_Mo_enterGroup rfl rfl (fun _ _ => rfl) ?_
    refine m_eq (show ((nI ((486 + q * 279) + 9)) + (nI p) : Int32) = nI (((486 + q * 279) + 9) + p) from nI_add ((486 + q * 279) + 9) p) ?_
    refine m_aI (r := 14) (a := 15) (g := (A 15)) (x := (nI l.length)) (pc' := 60) rfl rfl cd_Mo_enterGroup rfl rfl rfl (vp_in_nI (by omega) (by decide)) (by rw [(nI_clamp (by omega))]; exact hGs.1.1) ?_
    refine m_if2 (t := 144) (pc' := 63) cd_Mo_enterGroup rfl rfl rfl (fun c60 => ?_) (fun c60 => ?_)
    · have c60 : (nI l.length) ≤ (nI k) := c60
      have k2 := kk g lv
      rw [show gl_en [] = [] from rfl, List.append_nil] at k2
      exact k2 hg l0 l1 l2 l3
    · have c60 : ¬ (nI l.length) ≤ (nI k) := c60
      exact absurd (nI_le hl (by omega)) c60
  | cons G0 R ih =>
    intro k W g hR hg hW hk2 kk lv l0 l1 l2 l3 l4
    obtain ⟨hX, hR2, hil⟩ := drop_c hR
    have hl2 := hGs.1.2
    have hG := hGs.2 k G0 hX
    have hgl : gl_en (G0 :: R) = ((G0.1.2.1, G0.1.1) :: ((G0.1.2.2.2).map fun e => (e.2.2, tz))) ++ gl_en R := rfl
    rw [hgl] at hW kk
    simp only [List.length_append, List.length_cons, List.length_map] at hW
    refine m_ild (pc' := 49) cd_Mo_enterGroup rfl (Or.inl ⟨rfl, rfl⟩) l4 rfl ?_
    refine m_ald (pc' := 50) cd_Mo_enterGroup rfl (Or.inr ⟨_, rfl, rfl, rfl⟩) l0 rfl rfl ?_
    refine m_fR (r := 14) (a := 15) (ad := 1497) (pc' := 53) rfl rfl cd_Mo_enterGroup rfl rfl rfl rfl rfl ?_
    refine m_ild (pc' := 54) cd_Mo_enterGroup rfl (Or.inr ⟨_, rfl, rfl, rfl⟩) l2 rfl ?_
    refine m_k2 (v := 9) (pc' := 56) cd_Mo_enterGroup rfl (by decide) rfl ?_
    refine m_pure (pc' := 57) (st' := [.int ((nI (486 + q * 279)) + 9), .ref 1497, .int (nI k)]) cd_Mo_enterGroup rfl rfl (fun _ _ => rfl) ?_
    refine m_eq (show ((nI (486 + q * 279)) + 9 : Int32) = nI ((486 + q * 279) + 9) from nI_add (486 + q * 279) 9) ?_
    refine m_ild (pc' := 58) cd_Mo_enterGroup rfl (Or.inr ⟨_, rfl, rfl, rfl⟩) l3 rfl ?_
    refine m_pure (pc' := 59) (st' := [.int ((nI ((486 + q * 279) + 9)) + (nI p)), .ref 1497, .int (nI k)]) cd_Mo_enterGroup rfl rfl (fun _ _ => rfl) ?_
    refine m_eq (show ((nI ((486 + q * 279) + 9)) + (nI p) : Int32) = nI (((486 + q * 279) + 9) + p) from nI_add ((486 + q * 279) + 9) p) ?_
    refine m_aI (r := 14) (a := 15) (g := (A 15)) (x := (nI l.length)) (pc' := 60) rfl rfl cd_Mo_enterGroup rfl rfl rfl (vp_in_nI (by omega) (by decide)) (by rw [(nI_clamp (by omega))]; exact hGs.1.1) ?_
    refine m_if2 (t := 144) (pc' := 63) cd_Mo_enterGroup rfl rfl rfl (fun c60 => ?_) (fun c60 => ?_)
    · have c60 : (nI l.length) ≤ (nI k) := c60
      exact absurd c60 (nI_ge hil (by omega))
    · have c60 : ¬ (nI l.length) ≤ (nI k) := c60
      refine m_ild (pc' := 64) cd_Mo_enterGroup rfl (Or.inr ⟨_, rfl, rfl, rfl⟩) l1 rfl ?_
      refine m_ild (pc' := 65) cd_Mo_enterGroup rfl (Or.inr ⟨_, rfl, rfl, rfl⟩) l3 rfl ?_
      refine m_ild (pc' := 67) cd_Mo_enterGroup rfl (Or.inl ⟨rfl, rfl⟩) l4 rfl ?_
      refine m_si (pc' := 70) cd_Mo_enterGroup rfl rfl rfl rfl rfl cd_Mo_givenAt rfl (Nat.le_of_ble_eq_true rfl) (m_givenAt ?_)
      show mg _ _ _ 70 _ [.int (nI (486 + q * 279 + 15 + (2 * p + k) * 22))] _ _
      refine m_ist (pc' := 72) cd_Mo_enterGroup rfl (Or.inl ⟨rfl, rfl⟩) (by decide) rfl (fun lv el => ?_)
      have l0 := tm_lk el l0 rfl (by decide)
      have l1 := tm_lk el l1 rfl (by decide)
      have l2 := tm_lk el l2 rfl (by decide)
      have l3 := tm_lk el l3 rfl (by decide)
      have l4 := tm_lk el l4 rfl (by decide)
      have l5 : lv.lookup 5 = some (.int (nI (486 + q * 279 + 15 + (2 * p + k) * 22))) := tm_lks el
      clear el
      refine m_ald (pc' := 73) cd_Mo_enterGroup rfl (Or.inr ⟨_, rfl, rfl, rfl⟩) l0 rfl rfl ?_
      refine m_ald (pc' := 74) cd_Mo_enterGroup rfl (Or.inr ⟨_, rfl, rfl, rfl⟩) l0 rfl rfl ?_
      refine m_fR (r := 14) (a := 15) (ad := 1497) (pc' := 77) rfl rfl cd_Mo_enterGroup rfl rfl rfl rfl rfl ?_
      refine m_ild (pc' := 79) cd_Mo_enterGroup rfl (Or.inl ⟨rfl, rfl⟩) l5 rfl ?_
      refine m_k1 (v := 1) (pc' := 80) cd_Mo_enterGroup rfl (by decide) rfl ?_
      refine m_pure (pc' := 81) (st' := [.int ((nI (486 + q * 279 + 15 + (2 * p + k) * 22)) + 1), .ref 1497, .ref 1482]) cd_Mo_enterGroup rfl rfl (fun _ _ => rfl) ?_
      refine m_eq (show ((nI (486 + q * 279 + 15 + (2 * p + k) * 22)) + 1 : Int32) = nI ((486 + q * 279 + 15 + (2 * p + k) * 22) + 1) from nI_add (486 + q * 279 + 15 + (2 * p + k) * 22) 1) ?_
      refine m_aI (r := 14) (a := 15) (g := (A 15)) (x := ((A 15) ((486 + q * 279 + 15 + (2 * p + k) * 22) + 1))) (pc' := 82) rfl rfl cd_Mo_enterGroup rfl rfl rfl (vp_in_nI (by omega) (by decide)) (congrArg (A 15) (nI_clamp (by omega))) ?_
      refine m_ald (pc' := 83) cd_Mo_enterGroup rfl (Or.inr ⟨_, rfl, rfl, rfl⟩) l0 rfl rfl ?_
      refine m_fR (r := 14) (a := 15) (ad := 1497) (pc' := 86) rfl rfl cd_Mo_enterGroup rfl rfl rfl rfl rfl ?_
      refine m_ild (pc' := 88) cd_Mo_enterGroup rfl (Or.inl ⟨rfl, rfl⟩) l5 rfl ?_
      refine m_k1 (v := 2) (pc' := 89) cd_Mo_enterGroup rfl (by decide) rfl ?_
      refine m_pure (pc' := 90) (st' := [.int ((nI (486 + q * 279 + 15 + (2 * p + k) * 22)) + 2), .ref 1497, .int (((A 15) ((486 + q * 279 + 15 + (2 * p + k) * 22) + 1))), .ref 1482]) cd_Mo_enterGroup rfl rfl (fun _ _ => rfl) ?_
      refine m_eq (show ((nI (486 + q * 279 + 15 + (2 * p + k) * 22)) + 2 : Int32) = nI ((486 + q * 279 + 15 + (2 * p + k) * 22) + 2) from nI_add (486 + q * 279 + 15 + (2 * p + k) * 22) 2) ?_
      refine m_aI (r := 14) (a := 15) (g := (A 15)) (x := ((A 15) ((486 + q * 279 + 15 + (2 * p + k) * 22) + 2))) (pc' := 91) rfl rfl cd_Mo_enterGroup rfl rfl rfl (vp_in_nI (by omega) (by decide)) (congrArg (A 15) (nI_clamp (by omega))) ?_
      refine m_cv (pc' := 94) cd_Mo_enterGroup rfl rfl rfl rfl rfl cd_Mo_enter rfl (Nat.le_of_ble_eq_true rfl) (m_enter hg (by omega) hG.1.2.1 hG.1.2.2.1 (fun g1 hg1 => ?_))
      show mg _ _ _ 94 _ [] _ _
      refine m_k1 (v := 0) (pc' := 95) cd_Mo_enterGroup rfl (by decide) rfl ?_
      refine m_ist (pc' := 97) cd_Mo_enterGroup rfl (Or.inl ⟨rfl, rfl⟩) (by decide) rfl (fun lv el => ?_)
      have l0 := tm_lk el l0 rfl (by decide)
      have l1 := tm_lk el l1 rfl (by decide)
      have l2 := tm_lk el l2 rfl (by decide)
      have l3 := tm_lk el l3 rfl (by decide)
      have l4 := tm_lk el l4 rfl (by decide)
      have l5 := tm_lk el l5 rfl (by decide)
      have l6 : lv.lookup 6 = some (.int 0) := tm_lks el
      clear el
      refine l_enGl (k := k) hM hq hp (by omega) hG G0.1.2.2.2 0 (W ++ [(G0.1.2.1, G0.1.1)]) g1 rfl hg1 (by simp; omega) (by omega) (fun g2 lv hg2 l0 l1 l2 l3 l4 => ?_) lv l0 l1 l2 l3 l4 l5 l6
      refine m_inc (y := nI (k + 1)) (pc' := 141) cd_Mo_enterGroup rfl l4 (by decide) (nI_add k 1) rfl (fun lv el => ?_)
      have l0 := tm_lk el l0 rfl (by decide)
      have l1 := tm_lk el l1 rfl (by decide)
      have l2 := tm_lk el l2 rfl (by decide)
      have l3 := tm_lk el l3 rfl (by decide)
      have l4 : lv.lookup 4 = some (.int (nI (k + 1))) := tm_lks el
      clear el
      refine m_pure (pc' := 47) (st' := []) cd_Mo_enterGroup rfl rfl (fun _ _ => rfl) ?_
      exact ih (k + 1) ((W ++ [(G0.1.2.1, G0.1.1)]) ++ ((G0.1.2.2.2).map fun e => (e.2.2, tz))) g2 hR2 hg2 (by simp only [List.length_append, List.length_cons, List.length_nil, List.length_map]; omega) (by omega) (fun g' lv q1 => by have k2 := kk g' lv; have e : W ++ ((G0.1.2.1, G0.1.1) :: ((G0.1.2.2.2).map fun e => (e.2.2, tz)) ++ gl_en R) = ((W ++ [(G0.1.2.1, G0.1.1)]) ++ ((G0.1.2.2.2).map fun e => (e.2.2, tz))) ++ gl_en R := (by simp); rw [e] at k2; exact k2 q1) lv l0 l1 l2 l3 l4
set_option maxRecDepth 100000 in
theorem m_enGr {sc : tm_X} {d : Nat} {f : Nat → Int32} {A : Nat → Nat → Int32} {T : List Tm} {DL : List (Int32 × Int32)} {G Kw : Tm → Prop} {q : Nat} {M : MM} {W : EN2} {g : Nat → Int32} {Q : MS → Prop} (hM : MT f A T DL G Kw) (hq : q < 4) (hMm : qMm (A 15) T (486 + q * 279) M) (hg : EN g T W 0) (hW : W.length + (mm_en M).length ≤ 600) (kk : ∀ g', EN g' T (W ++ mm_en M) 0 → Q (fset f 38 (nI (W ++ mm_en M).length), fset A 27 g')) : mGv sc (d + 2) 196 [.ref 1482, .int (nI q)] (fset f 38 (nI (W).length), fset A 27 g) Q := by
  obtain ⟨ve, ma, go, ge, ch, si, ix, ga, sl, gv⟩ := M
  obtain ⟨⟨h1, h2, h3, h4⟩, ⟨h5, h6⟩, ⟨h7, h8, h9⟩, h10⟩ := hMm
  obtain ⟨E0, eE0⟩ : ∃ E0 : EN2, E0 = if 0 < ge then [(ch, si)] else [] := ⟨_, rfl⟩
  have eM : mm_en (ve, ma, go, ge, ch, si, ix, ga, sl, gv) = E0 ++ gl_en (gv 0) ++ gl_en (gv 1) ++ gl_en (gv 2) ++ gl_en (gv 3) ++ gl_en (gv 4) ++ gl_en (gv 5) := by rw [eE0]; rfl
  rw [eM] at hW kk
  simp only [List.length_append] at hW
  show mg sc (d + 2) 196 0 [(0, .ref 1482), (1, .int (nI q))] [] (fset f 38 (nI (W).length), fset A 27 g) _
  generalize elv : ([(0, .ref 1482), (1, .int (nI q))] : tm_L) = lv
  have l0 : lv.lookup 0 = some (.ref 1482) := by rw [← elv]; rfl
  have l1 : lv.lookup 1 = some (.int (nI q)) := by rw [← elv]; rfl
  clear elv
  refine m_ild (pc' := 1) cd_Mo_enterGroup rfl (Or.inr ⟨_, rfl, rfl, rfl⟩) l1 rfl ?_
  refine m_si (pc' := 4) cd_Mo_enterGroup rfl rfl rfl rfl rfl cd_Mo_groupAt rfl (Nat.le_of_ble_eq_true rfl) (m_groupAt ?_)
  show mg _ _ _ 4 _ [.int (nI (486 + q * 279))] _ _
  refine m_ist (pc' := 5) cd_Mo_enterGroup rfl (Or.inr ⟨_, rfl, rfl, rfl⟩) (by decide) rfl (fun lv el => ?_)
  have l0 := tm_lk el l0 rfl (by decide)
  have l1 := tm_lk el l1 rfl (by decide)
  have l2 : lv.lookup 2 = some (.int (nI (486 + q * 279))) := tm_lks el
  clear el
  refine m_ald (pc' := 6) cd_Mo_enterGroup rfl (Or.inr ⟨_, rfl, rfl, rfl⟩) l0 rfl rfl ?_
  refine m_fR (r := 14) (a := 15) (ad := 1497) (pc' := 9) rfl rfl cd_Mo_enterGroup rfl rfl rfl rfl rfl ?_
  refine m_ild (pc' := 10) cd_Mo_enterGroup rfl (Or.inr ⟨_, rfl, rfl, rfl⟩) l2 rfl ?_
  refine m_k1 (v := 3) (pc' := 11) cd_Mo_enterGroup rfl (by decide) rfl ?_
  refine m_pure (pc' := 12) (st' := [.int ((nI (486 + q * 279)) + 3), .ref 1497]) cd_Mo_enterGroup rfl rfl (fun _ _ => rfl) ?_
  refine m_eq (show ((nI (486 + q * 279)) + 3 : Int32) = nI ((486 + q * 279) + 3) from nI_add (486 + q * 279) 3) ?_
  refine m_aI (r := 14) (a := 15) (g := (A 15)) (x := ((A 15) ((486 + q * 279) + 3))) (pc' := 13) rfl rfl cd_Mo_enterGroup rfl rfl rfl (vp_in_nI (by omega) (by decide)) (congrArg (A 15) (nI_clamp (by omega))) ?_
  refine m_if1 (t := 36) (pc' := 16) cd_Mo_enterGroup rfl rfl rfl (fun c13 => ?_) (fun c13 => ?_)
  · have c13 : ((A 15) ((486 + q * 279) + 3)) ≤ 0 := c13
    have e0 : E0 = [] := by rw [eE0]; exact if_neg (fun z => absurd (h4 ▸ c13) (Int32.not_le.mpr z))
    have hgE : EN g T (W ++ E0) 0 := by rw [e0, List.append_nil]; exact hg
    have eS : (fset f 38 (nI (W).length), fset A 27 g) = (fset f 38 (nI (W ++ E0).length), fset A 27 g) := by rw [e0, List.append_nil]
    rw [eS]
    refine m_k1 (v := 0) (pc' := 37) cd_Mo_enterGroup rfl (by decide) rfl ?_
    refine m_ist (pc' := 38) cd_Mo_enterGroup rfl (Or.inr ⟨_, rfl, rfl, rfl⟩) (by decide) rfl (fun lv el => ?_)
    have l0 := tm_lk el l0 rfl (by decide)
    have l1 := tm_lk el l1 rfl (by decide)
    have l2 := tm_lk el l2 rfl (by decide)
    have l3 : lv.lookup 3 = some (.int 0) := tm_lks el
    clear el
    refine m_ild (pc' := 39) cd_Mo_enterGroup rfl (Or.inr ⟨_, rfl, rfl, rfl⟩) l3 rfl ?_
    refine m_k2 (v := 6) (pc' := 41) cd_Mo_enterGroup rfl (by decide) rfl ?_
    refine m_if2 (t := 150) (pc' := 44) cd_Mo_enterGroup rfl rfl rfl (fun c41 => ?_) (fun c41 => ?_)
    · exact absurd (show (6 : Int32) ≤ 0 from c41) (by decide)
    · have c41 : ¬ (6 : Int32) ≤ 0 := c41
      refine m_k1 (v := 0) (pc' := 45) cd_Mo_enterGroup rfl (by decide) rfl ?_
      refine m_ist (pc' := 47) cd_Mo_enterGroup rfl (Or.inl ⟨rfl, rfl⟩) (by decide) rfl (fun lv el => ?_)
      have l0 := tm_lk el l0 rfl (by decide)
      have l1 := tm_lk el l1 rfl (by decide)
      have l2 := tm_lk el l2 rfl (by decide)
      have l3 := tm_lk el l3 rfl (by decide)
      have l4 : lv.lookup 4 = some (.int 0) := tm_lks el
      clear el
      refine l_enGk (p := 0) hM hq (by decide) (h10 0 (by decide)) (gv 0) 0 (W ++ E0) g rfl hgE (by simp only [List.length_append]; omega) (by omega) (fun g1 lv hg1 l0 l1 l2 l3 => ?_) lv l0 l1 l2 l3 l4
      refine m_inc (y := 1) (pc' := 147) cd_Mo_enterGroup rfl l3 (by decide) (by decide) rfl (fun lv el => ?_)
      have l0 := tm_lk el l0 rfl (by decide)
      have l1 := tm_lk el l1 rfl (by decide)
      have l2 := tm_lk el l2 rfl (by decide)
      have l3 : lv.lookup 3 = some (.int 1) := tm_lks el
      clear el
      refine m_pure (pc' := 38) (st' := []) cd_Mo_enterGroup rfl rfl (fun _ _ => rfl) ?_
      refine m_ild (pc' := 39) cd_Mo_enterGroup rfl (Or.inr ⟨_, rfl, rfl, rfl⟩) l3 rfl ?_
      refine m_k2 (v := 6) (pc' := 41) cd_Mo_enterGroup rfl (by decide) rfl ?_
      refine m_if2 (t := 150) (pc' := 44) cd_Mo_enterGroup rfl rfl rfl (fun c41 => ?_) (fun c41 => ?_)
      · exact absurd (show (6 : Int32) ≤ 1 from c41) (by decide)
      · have c41 : ¬ (6 : Int32) ≤ 1 := c41
        refine m_k1 (v := 0) (pc' := 45) cd_Mo_enterGroup rfl (by decide) rfl ?_
        refine m_ist (pc' := 47) cd_Mo_enterGroup rfl (Or.inl ⟨rfl, rfl⟩) (by decide) rfl (fun lv el => ?_)
        have l0 := tm_lk el l0 rfl (by decide)
        have l1 := tm_lk el l1 rfl (by decide)
        have l2 := tm_lk el l2 rfl (by decide)
        have l3 := tm_lk el l3 rfl (by decide)
        have l4 : lv.lookup 4 = some (.int 0) := tm_lks el
        clear el
        refine l_enGk (p := 1) hM hq (by decide) (h10 1 (by decide)) (gv 1) 0 ((W ++ E0) ++ gl_en (gv 0)) g1 rfl hg1 (by simp only [List.length_append]; omega) (by omega) (fun g2 lv hg2 l0 l1 l2 l3 => ?_) lv l0 l1 l2 l3 l4
        refine m_inc (y := 2) (pc' := 147) cd_Mo_enterGroup rfl l3 (by decide) (by decide) rfl (fun lv el => ?_)
        have l0 := tm_lk el l0 rfl (by decide)
        have l1 := tm_lk el l1 rfl (by decide)
        have l2 := tm_lk el l2 rfl (by decide)
        have l3 : lv.lookup 3 = some (.int 2) := tm_lks el
        clear el
        refine m_pure (pc' := 38) (st' := []) cd_Mo_enterGroup rfl rfl (fun _ _ => rfl) ?_
        refine m_ild (pc' := 39) cd_Mo_enterGroup rfl (Or.inr ⟨_, rfl, rfl, rfl⟩) l3 rfl ?_
        refine m_k2 (v := 6) (pc' := 41) cd_Mo_enterGroup rfl (by decide) rfl ?_
        refine m_if2 (t := 150) (pc' := 44) cd_Mo_enterGroup rfl rfl rfl (fun c41 => ?_) (fun c41 => ?_)
        · exact absurd (show (6 : Int32) ≤ 2 from c41) (by decide)
        · have c41 : ¬ (6 : Int32) ≤ 2 := c41
          refine m_k1 (v := 0) (pc' := 45) cd_Mo_enterGroup rfl (by decide) rfl ?_
          refine m_ist (pc' := 47) cd_Mo_enterGroup rfl (Or.inl ⟨rfl, rfl⟩) (by decide) rfl (fun lv el => ?_)
          have l0 := tm_lk el l0 rfl (by decide)
          have l1 := tm_lk el l1 rfl (by decide)
          have l2 := tm_lk el l2 rfl (by decide)
          have l3 := tm_lk el l3 rfl (by decide)
          have l4 : lv.lookup 4 = some (.int 0) := tm_lks el
          clear el
          refine l_enGk (p := 2) hM hq (by decide) (h10 2 (by decide)) (gv 2) 0 (((W ++ E0) ++ gl_en (gv 0)) ++ gl_en (gv 1)) g2 rfl hg2 (by simp only [List.length_append]; omega) (by omega) (fun g3 lv hg3 l0 l1 l2 l3 => ?_) lv l0 l1 l2 l3 l4
          refine m_inc (y := 3) (pc' := 147) cd_Mo_enterGroup rfl l3 (by decide) (by decide) rfl (fun lv el => ?_)
          have l0 := tm_lk el l0 rfl (by decide)
          have l1 := tm_lk el l1 rfl (by decide)
          have l2 := tm_lk el l2 rfl (by decide)
          have l3 : lv.lookup 3 = some (.int 3) := tm_lks el
          clear el
          refine m_pure (pc' := 38) (st' := []) cd_Mo_enterGroup rfl rfl (fun _ _ => rfl) ?_
          refine m_ild (pc' := 39) cd_Mo_enterGroup rfl (Or.inr ⟨_, rfl, rfl, rfl⟩) l3 rfl ?_
          refine m_k2 (v := 6) (pc' := 41) cd_Mo_enterGroup rfl (by decide) rfl ?_
          refine m_if2 (t := 150) (pc' := 44) cd_Mo_enterGroup rfl rfl rfl (fun c41 => ?_) (fun c41 => ?_)
          · exact absurd (show (6 : Int32) ≤ 3 from c41) (by decide)
          · have c41 : ¬ (6 : Int32) ≤ 3 := c41
            refine m_k1 (v := 0) (pc' := 45) cd_Mo_enterGroup rfl (by decide) rfl ?_
            refine m_ist (pc' := 47) cd_Mo_enterGroup rfl (Or.inl ⟨rfl, rfl⟩) (by decide) rfl (fun lv el => ?_)
            have l0 := tm_lk el l0 rfl (by decide)
            have l1 := tm_lk el l1 rfl (by decide)
            have l2 := tm_lk el l2 rfl (by decide)
            have l3 := tm_lk el l3 rfl (by decide)
            have l4 : lv.lookup 4 = some (.int 0) := tm_lks el
            clear el
            refine l_enGk (p := 3) hM hq (by decide) (h10 3 (by decide)) (gv 3) 0 ((((W ++ E0) ++ gl_en (gv 0)) ++ gl_en (gv 1)) ++ gl_en (gv 2)) g3 rfl hg3 (by simp only [List.length_append]; omega) (by omega) (fun g4 lv hg4 l0 l1 l2 l3 => ?_) lv l0 l1 l2 l3 l4
            refine m_inc (y := 4) (pc' := 147) cd_Mo_enterGroup rfl l3 (by decide) (by decide) rfl (fun lv el => ?_)
            have l0 := tm_lk el l0 rfl (by decide)
            have l1 := tm_lk el l1 rfl (by decide)
            have l2 := tm_lk el l2 rfl (by decide)
            have l3 : lv.lookup 3 = some (.int 4) := tm_lks el
            clear el
            refine m_pure (pc' := 38) (st' := []) cd_Mo_enterGroup rfl rfl (fun _ _ => rfl) ?_
            refine m_ild (pc' := 39) cd_Mo_enterGroup rfl (Or.inr ⟨_, rfl, rfl, rfl⟩) l3 rfl ?_
            refine m_k2 (v := 6) (pc' := 41) cd_Mo_enterGroup rfl (by decide) rfl ?_
            refine m_if2 (t := 150) (pc' := 44) cd_Mo_enterGroup rfl rfl rfl (fun c41 => ?_) (fun c41 => ?_)
            · exact absurd (show (6 : Int32) ≤ 4 from c41) (by decide)
            · have c41 : ¬ (6 : Int32) ≤ 4 := c41
              refine m_k1 (v := 0) (pc' := 45) cd_Mo_enterGroup rfl (by decide) rfl ?_
              refine m_ist (pc' := 47) cd_Mo_enterGroup rfl (Or.inl ⟨rfl, rfl⟩) (by decide) rfl (fun lv el => ?_)
              have l0 := tm_lk el l0 rfl (by decide)
              have l1 := tm_lk el l1 rfl (by decide)
              have l2 := tm_lk el l2 rfl (by decide)
              have l3 := tm_lk el l3 rfl (by decide)
              have l4 : lv.lookup 4 = some (.int 0) := tm_lks el
              clear el
              refine l_enGk (p := 4) hM hq (by decide) (h10 4 (by decide)) (gv 4) 0 (((((W ++ E0) ++ gl_en (gv 0)) ++ gl_en (gv 1)) ++ gl_en (gv 2)) ++ gl_en (gv 3)) g4 rfl hg4 (by simp only [List.length_append]; omega) (by omega) (fun g5 lv hg5 l0 l1 l2 l3 => ?_) lv l0 l1 l2 l3 l4
              refine m_inc (y := 5) (pc' := 147) cd_Mo_enterGroup rfl l3 (by decide) (by decide) rfl (fun lv el => ?_)
              have l0 := tm_lk el l0 rfl (by decide)
              have l1 := tm_lk el l1 rfl (by decide)
              have l2 := tm_lk el l2 rfl (by decide)
              have l3 : lv.lookup 3 = some (.int 5) := tm_lks el
              clear el
              refine m_pure (pc' := 38) (st' := []) cd_Mo_enterGroup rfl rfl (fun _ _ => rfl) ?_
              refine m_ild (pc' := 39) cd_Mo_enterGroup rfl (Or.inr ⟨_, rfl, rfl, rfl⟩) l3 rfl ?_
              refine m_k2 (v := 6) (pc' := 41) cd_Mo_enterGroup rfl (by decide) rfl ?_
              refine m_if2 (t := 150) (pc' := 44) cd_Mo_enterGroup rfl rfl rfl (fun c41 => ?_) (fun c41 => ?_)
              · exact absurd (show (6 : Int32) ≤ 5 from c41) (by decide)
              · have c41 : ¬ (6 : Int32) ≤ 5 := c41
                refine m_k1 (v := 0) (pc' := 45) cd_Mo_enterGroup rfl (by decide) rfl ?_
                refine m_ist (pc' := 47) cd_Mo_enterGroup rfl (Or.inl ⟨rfl, rfl⟩) (by decide) rfl (fun lv el => ?_)
                have l0 := tm_lk el l0 rfl (by decide)
                have l1 := tm_lk el l1 rfl (by decide)
                have l2 := tm_lk el l2 rfl (by decide)
                have l3 := tm_lk el l3 rfl (by decide)
                have l4 : lv.lookup 4 = some (.int 0) := tm_lks el
                clear el
                refine l_enGk (p := 5) hM hq (by decide) (h10 5 (by decide)) (gv 5) 0 ((((((W ++ E0) ++ gl_en (gv 0)) ++ gl_en (gv 1)) ++ gl_en (gv 2)) ++ gl_en (gv 3)) ++ gl_en (gv 4)) g5 rfl hg5 (by simp only [List.length_append]; omega) (by omega) (fun g6 lv hg6 l0 l1 l2 l3 => ?_) lv l0 l1 l2 l3 l4
                refine m_inc (y := 6) (pc' := 147) cd_Mo_enterGroup rfl l3 (by decide) (by decide) rfl (fun lv el => ?_)
                have l0 := tm_lk el l0 rfl (by decide)
                have l1 := tm_lk el l1 rfl (by decide)
                have l2 := tm_lk el l2 rfl (by decide)
                have l3 : lv.lookup 3 = some (.int 6) := tm_lks el
                clear el
                refine m_pure (pc' := 38) (st' := []) cd_Mo_enterGroup rfl rfl (fun _ _ => rfl) ?_
                refine m_ild (pc' := 39) cd_Mo_enterGroup rfl (Or.inr ⟨_, rfl, rfl, rfl⟩) l3 rfl ?_
                refine m_k2 (v := 6) (pc' := 41) cd_Mo_enterGroup rfl (by decide) rfl ?_
                refine m_if2 (t := 150) (pc' := 44) cd_Mo_enterGroup rfl rfl rfl (fun c41 => ?_) (fun c41 => ?_)
                · have c41 : (6 : Int32) ≤ 6 := c41
                  exact m_retv cd_Mo_enterGroup rfl ⟨rfl, (by have k2 := kk g6; simp only [List.append_assoc] at k2 hg6 ⊢; exact k2 hg6)⟩
                · exact absurd (show ¬ (6 : Int32) ≤ 6 from c41) (by decide)
  · have c13 : ¬ ((A 15) ((486 + q * 279) + 3)) ≤ 0 := c13
    refine m_ald (pc' := 17) cd_Mo_enterGroup rfl (Or.inr ⟨_, rfl, rfl, rfl⟩) l0 rfl rfl ?_
    refine m_ald (pc' := 18) cd_Mo_enterGroup rfl (Or.inr ⟨_, rfl, rfl, rfl⟩) l0 rfl rfl ?_
    refine m_fR (r := 14) (a := 15) (ad := 1497) (pc' := 21) rfl rfl cd_Mo_enterGroup rfl rfl rfl rfl rfl ?_
    refine m_ild (pc' := 22) cd_Mo_enterGroup rfl (Or.inr ⟨_, rfl, rfl, rfl⟩) l2 rfl ?_
    refine m_k1 (v := 4) (pc' := 23) cd_Mo_enterGroup rfl (by decide) rfl ?_
    refine m_pure (pc' := 24) (st' := [.int ((nI (486 + q * 279)) + 4), .ref 1497, .ref 1482]) cd_Mo_enterGroup rfl rfl (fun _ _ => rfl) ?_
    refine m_eq (show ((nI (486 + q * 279)) + 4 : Int32) = nI ((486 + q * 279) + 4) from nI_add (486 + q * 279) 4) ?_
    refine m_aI (r := 14) (a := 15) (g := (A 15)) (x := ((A 15) ((486 + q * 279) + 4))) (pc' := 25) rfl rfl cd_Mo_enterGroup rfl rfl rfl (vp_in_nI (by omega) (by decide)) (congrArg (A 15) (nI_clamp (by omega))) ?_
    refine m_ald (pc' := 26) cd_Mo_enterGroup rfl (Or.inr ⟨_, rfl, rfl, rfl⟩) l0 rfl rfl ?_
    refine m_fR (r := 14) (a := 15) (ad := 1497) (pc' := 29) rfl rfl cd_Mo_enterGroup rfl rfl rfl rfl rfl ?_
    refine m_ild (pc' := 30) cd_Mo_enterGroup rfl (Or.inr ⟨_, rfl, rfl, rfl⟩) l2 rfl ?_
    refine m_k1 (v := 5) (pc' := 31) cd_Mo_enterGroup rfl (by decide) rfl ?_
    refine m_pure (pc' := 32) (st' := [.int ((nI (486 + q * 279)) + 5), .ref 1497, .int (((A 15) ((486 + q * 279) + 4))), .ref 1482]) cd_Mo_enterGroup rfl rfl (fun _ _ => rfl) ?_
    refine m_eq (show ((nI (486 + q * 279)) + 5 : Int32) = nI ((486 + q * 279) + 5) from nI_add (486 + q * 279) 5) ?_
    refine m_aI (r := 14) (a := 15) (g := (A 15)) (x := ((A 15) ((486 + q * 279) + 5))) (pc' := 33) rfl rfl cd_Mo_enterGroup rfl rfl rfl (vp_in_nI (by omega) (by decide)) (congrArg (A 15) (nI_clamp (by omega))) ?_
    have e0 : E0 = [(ch, si)] := by rw [eE0]; exact if_pos (Int32.not_le.mp (h4 ▸ c13))
    have hE1 : E0.length = 1 := by rw [e0]; rfl
    refine m_cv (pc' := 36) cd_Mo_enterGroup rfl rfl rfl rfl rfl cd_Mo_enter rfl (Nat.le_of_ble_eq_true rfl) (m_enter hg (by omega) h5 h6 (fun g1 hg1 => ?_))
    show mg _ _ _ 36 _ [] _ _
    have hgE : EN g1 T (W ++ E0) 0 := by rw [e0]; exact hg1
    rw [← e0]
    refine m_k1 (v := 0) (pc' := 37) cd_Mo_enterGroup rfl (by decide) rfl ?_
    refine m_ist (pc' := 38) cd_Mo_enterGroup rfl (Or.inr ⟨_, rfl, rfl, rfl⟩) (by decide) rfl (fun lv el => ?_)
    have l0 := tm_lk el l0 rfl (by decide)
    have l1 := tm_lk el l1 rfl (by decide)
    have l2 := tm_lk el l2 rfl (by decide)
    have l3 : lv.lookup 3 = some (.int 0) := tm_lks el
    clear el
    refine m_ild (pc' := 39) cd_Mo_enterGroup rfl (Or.inr ⟨_, rfl, rfl, rfl⟩) l3 rfl ?_
    refine m_k2 (v := 6) (pc' := 41) cd_Mo_enterGroup rfl (by decide) rfl ?_
    refine m_if2 (t := 150) (pc' := 44) cd_Mo_enterGroup rfl rfl rfl (fun c41 => ?_) (fun c41 => ?_)
    · exact absurd (show (6 : Int32) ≤ 0 from c41) (by decide)
    · have c41 : ¬ (6 : Int32) ≤ 0 := c41
      refine m_k1 (v := 0) (pc' := 45) cd_Mo_enterGroup rfl (by decide) rfl ?_
      refine m_ist (pc' := 47) cd_Mo_enterGroup rfl (Or.inl ⟨rfl, rfl⟩) (by decide) rfl (fun lv el => ?_)
      have l0 := tm_lk el l0 rfl (by decide)
      have l1 := tm_lk el l1 rfl (by decide)
      have l2 := tm_lk el l2 rfl (by decide)
      have l3 := tm_lk el l3 rfl (by decide)
      have l4 : lv.lookup 4 = some (.int 0) := tm_lks el
      clear el
      refine l_enGk (p := 0) hM hq (by decide) (h10 0 (by decide)) (gv 0) 0 (W ++ E0) g1 rfl hgE (by simp only [List.length_append]; omega) (by omega) (fun g7 lv hg7 l0 l1 l2 l3 => ?_) lv l0 l1 l2 l3 l4
      refine m_inc (y := 1) (pc' := 147) cd_Mo_enterGroup rfl l3 (by decide) (by decide) rfl (fun lv el => ?_)
      have l0 := tm_lk el l0 rfl (by decide)
      have l1 := tm_lk el l1 rfl (by decide)
      have l2 := tm_lk el l2 rfl (by decide)
      have l3 : lv.lookup 3 = some (.int 1) := tm_lks el
      clear el
      refine m_pure (pc' := 38) (st' := []) cd_Mo_enterGroup rfl rfl (fun _ _ => rfl) ?_
      refine m_ild (pc' := 39) cd_Mo_enterGroup rfl (Or.inr ⟨_, rfl, rfl, rfl⟩) l3 rfl ?_
      refine m_k2 (v := 6) (pc' := 41) cd_Mo_enterGroup rfl (by decide) rfl ?_
      refine m_if2 (t := 150) (pc' := 44) cd_Mo_enterGroup rfl rfl rfl (fun c41 => ?_) (fun c41 => ?_)
      · exact absurd (show (6 : Int32) ≤ 1 from c41) (by decide)
      · have c41 : ¬ (6 : Int32) ≤ 1 := c41
        refine m_k1 (v := 0) (pc' := 45) cd_Mo_enterGroup rfl (by decide) rfl ?_
        refine m_ist (pc' := 47) cd_Mo_enterGroup rfl (Or.inl ⟨rfl, rfl⟩) (by decide) rfl (fun lv el => ?_)
        have l0 := tm_lk el l0 rfl (by decide)
        have l1 := tm_lk el l1 rfl (by decide)
        have l2 := tm_lk el l2 rfl (by decide)
        have l3 := tm_lk el l3 rfl (by decide)
        have l4 : lv.lookup 4 = some (.int 0) := tm_lks el
        clear el
        refine l_enGk (p := 1) hM hq (by decide) (h10 1 (by decide)) (gv 1) 0 ((W ++ E0) ++ gl_en (gv 0)) g7 rfl hg7 (by simp only [List.length_append]; omega) (by omega) (fun g8 lv hg8 l0 l1 l2 l3 => ?_) lv l0 l1 l2 l3 l4
        refine m_inc (y := 2) (pc' := 147) cd_Mo_enterGroup rfl l3 (by decide) (by decide) rfl (fun lv el => ?_)
        have l0 := tm_lk el l0 rfl (by decide)
        have l1 := tm_lk el l1 rfl (by decide)
        have l2 := tm_lk el l2 rfl (by decide)
        have l3 : lv.lookup 3 = some (.int 2) := tm_lks el
        clear el
        refine m_pure (pc' := 38) (st' := []) cd_Mo_enterGroup rfl rfl (fun _ _ => rfl) ?_
        refine m_ild (pc' := 39) cd_Mo_enterGroup rfl (Or.inr ⟨_, rfl, rfl, rfl⟩) l3 rfl ?_
        refine m_k2 (v := 6) (pc' := 41) cd_Mo_enterGroup rfl (by decide) rfl ?_
        refine m_if2 (t := 150) (pc' := 44) cd_Mo_enterGroup rfl rfl rfl (fun c41 => ?_) (fun c41 => ?_)
        · exact absurd (show (6 : Int32) ≤ 2 from c41) (by decide)
        · have c41 : ¬ (6 : Int32) ≤ 2 := c41
          refine m_k1 (v := 0) (pc' := 45) cd_Mo_enterGroup rfl (by decide) rfl ?_
          refine m_ist (pc' := 47) cd_Mo_enterGroup rfl (Or.inl ⟨rfl, rfl⟩) (by decide) rfl (fun lv el => ?_)
          have l0 := tm_lk el l0 rfl (by decide)
          have l1 := tm_lk el l1 rfl (by decide)
          have l2 := tm_lk el l2 rfl (by decide)
          have l3 := tm_lk el l3 rfl (by decide)
          have l4 : lv.lookup 4 = some (.int 0) := tm_lks el
          clear el
          refine l_enGk (p := 2) hM hq (by decide) (h10 2 (by decide)) (gv 2) 0 (((W ++ E0) ++ gl_en (gv 0)) ++ gl_en (gv 1)) g8 rfl hg8 (by simp only [List.length_append]; omega) (by omega) (fun g9 lv hg9 l0 l1 l2 l3 => ?_) lv l0 l1 l2 l3 l4
          refine m_inc (y := 3) (pc' := 147) cd_Mo_enterGroup rfl l3 (by decide) (by decide) rfl (fun lv el => ?_)
          have l0 := tm_lk el l0 rfl (by decide)
          have l1 := tm_lk el l1 rfl (by decide)
          have l2 := tm_lk el l2 rfl (by decide)
          have l3 : lv.lookup 3 = some (.int 3) := tm_lks el
          clear el
          refine m_pure (pc' := 38) (st' := []) cd_Mo_enterGroup rfl rfl (fun _ _ => rfl) ?_
          refine m_ild (pc' := 39) cd_Mo_enterGroup rfl (Or.inr ⟨_, rfl, rfl, rfl⟩) l3 rfl ?_
          refine m_k2 (v := 6) (pc' := 41) cd_Mo_enterGroup rfl (by decide) rfl ?_
          refine m_if2 (t := 150) (pc' := 44) cd_Mo_enterGroup rfl rfl rfl (fun c41 => ?_) (fun c41 => ?_)
          · exact absurd (show (6 : Int32) ≤ 3 from c41) (by decide)
          · have c41 : ¬ (6 : Int32) ≤ 3 := c41
            refine m_k1 (v := 0) (pc' := 45) cd_Mo_enterGroup rfl (by decide) rfl ?_
            refine m_ist (pc' := 47) cd_Mo_enterGroup rfl (Or.inl ⟨rfl, rfl⟩) (by decide) rfl (fun lv el => ?_)
            have l0 := tm_lk el l0 rfl (by decide)
            have l1 := tm_lk el l1 rfl (by decide)
            have l2 := tm_lk el l2 rfl (by decide)
            have l3 := tm_lk el l3 rfl (by decide)
            have l4 : lv.lookup 4 = some (.int 0) := tm_lks el
            clear el
            refine l_enGk (p := 3) hM hq (by decide) (h10 3 (by decide)) (gv 3) 0 ((((W ++ E0) ++ gl_en (gv 0)) ++ gl_en (gv 1)) ++ gl_en (gv 2)) g9 rfl hg9 (by simp only [List.length_append]; omega) (by omega) (fun g10 lv hg10 l0 l1 l2 l3 => ?_) lv l0 l1 l2 l3 l4
            refine m_inc (y := 4) (pc' := 147) cd_Mo_enterGroup rfl l3 (by decide) (by decide) rfl (fun lv el => ?_)
            have l0 := tm_lk el l0 rfl (by decide)
            have l1 := tm_lk el l1 rfl (by decide)
            have l2 := tm_lk el l2 rfl (by decide)
            have l3 : lv.lookup 3 = some (.int 4) := tm_lks el
            clear el
            refine m_pure (pc' := 38) (st' := []) cd_Mo_enterGroup rfl rfl (fun _ _ => rfl) ?_
            refine m_ild (pc' := 39) cd_Mo_enterGroup rfl (Or.inr ⟨_, rfl, rfl, rfl⟩) l3 rfl ?_
            refine m_k2 (v := 6) (pc' := 41) cd_Mo_enterGroup rfl (by decide) rfl ?_
            refine m_if2 (t := 150) (pc' := 44) cd_Mo_enterGroup rfl rfl rfl (fun c41 => ?_) (fun c41 => ?_)
            · exact absurd (show (6 : Int32) ≤ 4 from c41) (by decide)
            · have c41 : ¬ (6 : Int32) ≤ 4 := c41
              refine m_k1 (v := 0) (pc' := 45) cd_Mo_enterGroup rfl (by decide) rfl ?_
              refine m_ist (pc' := 47) cd_Mo_enterGroup rfl (Or.inl ⟨rfl, rfl⟩) (by decide) rfl (fun lv el => ?_)
              have l0 := tm_lk el l0 rfl (by decide)
              have l1 := tm_lk el l1 rfl (by decide)
              have l2 := tm_lk el l2 rfl (by decide)
              have l3 := tm_lk el l3 rfl (by decide)
              have l4 : lv.lookup 4 = some (.int 0) := tm_lks el
              clear el
              refine l_enGk (p := 4) hM hq (by decide) (h10 4 (by decide)) (gv 4) 0 (((((W ++ E0) ++ gl_en (gv 0)) ++ gl_en (gv 1)) ++ gl_en (gv 2)) ++ gl_en (gv 3)) g10 rfl hg10 (by simp only [List.length_append]; omega) (by omega) (fun g11 lv hg11 l0 l1 l2 l3 => ?_) lv l0 l1 l2 l3 l4
              refine m_inc (y := 5) (pc' := 147) cd_Mo_enterGroup rfl l3 (by decide) (by decide) rfl (fun lv el => ?_)
              have l0 := tm_lk el l0 rfl (by decide)
              have l1 := tm_lk el l1 rfl (by decide)
              have l2 := tm_lk el l2 rfl (by decide)
              have l3 : lv.lookup 3 = some (.int 5) := tm_lks el
              clear el
              refine m_pure (pc' := 38) (st' := []) cd_Mo_enterGroup rfl rfl (fun _ _ => rfl) ?_
              refine m_ild (pc' := 39) cd_Mo_enterGroup rfl (Or.inr ⟨_, rfl, rfl, rfl⟩) l3 rfl ?_
              refine m_k2 (v := 6) (pc' := 41) cd_Mo_enterGroup rfl (by decide) rfl ?_
              refine m_if2 (t := 150) (pc' := 44) cd_Mo_enterGroup rfl rfl rfl (fun c41 => ?_) (fun c41 => ?_)
              · exact absurd (show (6 : Int32) ≤ 5 from c41) (by decide)
              · have c41 : ¬ (6 : Int32) ≤ 5 := c41
                refine m_k1 (v := 0) (pc' := 45) cd_Mo_enterGroup rfl (by decide) rfl ?_
                refine m_ist (pc' := 47) cd_Mo_enterGroup rfl (Or.inl ⟨rfl, rfl⟩) (by decide) rfl (fun lv el => ?_)
                have l0 := tm_lk el l0 rfl (by decide)
                have l1 := tm_lk el l1 rfl (by decide)
                have l2 := tm_lk el l2 rfl (by decide)
                have l3 := tm_lk el l3 rfl (by decide)
                have l4 : lv.lookup 4 = some (.int 0) := tm_lks el
                clear el
                refine l_enGk (p := 5) hM hq (by decide) (h10 5 (by decide)) (gv 5) 0 ((((((W ++ E0) ++ gl_en (gv 0)) ++ gl_en (gv 1)) ++ gl_en (gv 2)) ++ gl_en (gv 3)) ++ gl_en (gv 4)) g11 rfl hg11 (by simp only [List.length_append]; omega) (by omega) (fun g12 lv hg12 l0 l1 l2 l3 => ?_) lv l0 l1 l2 l3 l4
                refine m_inc (y := 6) (pc' := 147) cd_Mo_enterGroup rfl l3 (by decide) (by decide) rfl (fun lv el => ?_)
                have l0 := tm_lk el l0 rfl (by decide)
                have l1 := tm_lk el l1 rfl (by decide)
                have l2 := tm_lk el l2 rfl (by decide)
                have l3 : lv.lookup 3 = some (.int 6) := tm_lks el
                clear el
                refine m_pure (pc' := 38) (st' := []) cd_Mo_enterGroup rfl rfl (fun _ _ => rfl) ?_
                refine m_ild (pc' := 39) cd_Mo_enterGroup rfl (Or.inr ⟨_, rfl, rfl, rfl⟩) l3 rfl ?_
                refine m_k2 (v := 6) (pc' := 41) cd_Mo_enterGroup rfl (by decide) rfl ?_
                refine m_if2 (t := 150) (pc' := 44) cd_Mo_enterGroup rfl rfl rfl (fun c41 => ?_) (fun c41 => ?_)
                · have c41 : (6 : Int32) ≤ 6 := c41
                  exact m_retv cd_Mo_enterGroup rfl ⟨rfl, (by have k2 := kk g12; simp only [List.append_assoc] at k2 hg12 ⊢; exact k2 hg12)⟩
                · exact absurd (show ¬ (6 : Int32) ≤ 6 from c41) (by decide)
set_option maxRecDepth 100000 in
theorem l_liOn {sc : tm_X} {d : Nat} {f : Nat → Int32} {A : Nat → Nat → Int32} {T : List Tm} {DL : List (Int32 × Int32)} {G Kw : Tm → Prop} {z : Nat} {on : List (Tm × Int32)} {Q : Option Value → MS → Prop} (hM : MT f A T DL G Kw) (hon : qOn (A 15) T on) : ∀ (R : List (Tm × Int32)) (i : Nat) (W : EN2) (g : Nat → Int32), on.drop i = R → EN g T W 0 → W.length + (on_en R).length ≤ 600 → i ≤ 4 → (∀ g' (lv : tm_L), EN g' T (W ++ on_en R) 0 → lv.lookup 0 = some (.ref 1482) → lv.lookup 1 = some (.int (nI z)) → mg sc (d + 3) 191 60 lv [] (fset f 38 (nI (W ++ on_en R).length), fset A 27 g') Q) → ∀ lv : tm_L, lv.lookup 0 = some (.ref 1482) → lv.lookup 1 = some (.int (nI z)) → lv.lookup 2 = some (.int (nI i)) → mg sc (d + 3) 191 29 lv [] (fset f 38 (nI (W).length), fset A 27 g) Q := by
  intro R
  induction R with
  | nil =>
    intro i W g hR hg hW hi4 kk lv l0 l1 l2
    have hl := drop_n hR
    have hl4 := hon.1.2
    refine m_ild (pc' := 30) cd_Mo_list rfl (Or.inr ⟨_, rfl, rfl, rfl⟩) l2 rfl ?_
    refine m_ald (pc' := 31) cd_Mo_list rfl (Or.inr ⟨_, rfl, rfl, rfl⟩) l0 rfl rfl ?_
    refine m_fR (r := 14) (a := 15) (ad := 1497) (pc' := 34) rfl rfl cd_Mo_list rfl rfl rfl rfl rfl ?_
    refine m_k2 (v := 14) (pc' := 36) cd_Mo_list rfl (by decide) rfl ?_
    refine m_aI (r := 14) (a := 15) (g := (A 15)) (x := (nI on.length)) (pc' := 37) rfl rfl cd_Mo_list rfl rfl rfl (vp_in_nI (n := 14) (by decide) (by decide)) (by rw [(show (14 : Int32).toNatClampNeg = 14 by decide)]; exact hon.1.1) ?_
    refine m_if2 (t := 60) (pc' := 40) cd_Mo_list rfl rfl rfl (fun c37 => ?_) (fun c37 => ?_)
    · have c37 : (nI on.length) ≤ (nI i) := c37
      have k2 := kk g lv
      rw [show on_en [] = [] from rfl, List.append_nil] at k2
      exact k2 hg l0 l1
    · have c37 : ¬ (nI on.length) ≤ (nI i) := c37
      exact absurd (nI_le hl (by omega)) c37
  | cons X R ih =>
    intro i W g hR hg hW hi4 kk lv l0 l1 l2
    obtain ⟨hX, hR2, hil⟩ := drop_c hR
    have hl4 := hon.1.2
    have he : on_en (X :: R) = (X.1, tz) :: on_en R := rfl
    rw [he] at hW kk
    rw [List.length_cons] at hW
    refine m_ild (pc' := 30) cd_Mo_list rfl (Or.inr ⟨_, rfl, rfl, rfl⟩) l2 rfl ?_
    refine m_ald (pc' := 31) cd_Mo_list rfl (Or.inr ⟨_, rfl, rfl, rfl⟩) l0 rfl rfl ?_
    refine m_fR (r := 14) (a := 15) (ad := 1497) (pc' := 34) rfl rfl cd_Mo_list rfl rfl rfl rfl rfl ?_
    refine m_k2 (v := 14) (pc' := 36) cd_Mo_list rfl (by decide) rfl ?_
    refine m_aI (r := 14) (a := 15) (g := (A 15)) (x := (nI on.length)) (pc' := 37) rfl rfl cd_Mo_list rfl rfl rfl (vp_in_nI (n := 14) (by decide) (by decide)) (by rw [(show (14 : Int32).toNatClampNeg = 14 by decide)]; exact hon.1.1) ?_
    refine m_if2 (t := 60) (pc' := 40) cd_Mo_list rfl rfl rfl (fun c37 => ?_) (fun c37 => ?_)
    · have c37 : (nI on.length) ≤ (nI i) := c37
      exact absurd c37 (nI_ge hil (by omega))
    · have c37 : ¬ (nI on.length) ≤ (nI i) := c37
      refine m_ald (pc' := 41) cd_Mo_list rfl (Or.inr ⟨_, rfl, rfl, rfl⟩) l0 rfl rfl ?_
      refine m_ald (pc' := 42) cd_Mo_list rfl (Or.inr ⟨_, rfl, rfl, rfl⟩) l0 rfl rfl ?_
      refine m_fR (r := 14) (a := 15) (ad := 1497) (pc' := 45) rfl rfl cd_Mo_list rfl rfl rfl rfl rfl ?_
      refine m_k2 (v := 15) (pc' := 47) cd_Mo_list rfl (by decide) rfl ?_
      refine m_ild (pc' := 48) cd_Mo_list rfl (Or.inr ⟨_, rfl, rfl, rfl⟩) l2 rfl ?_
      refine m_pure (pc' := 49) (st' := [.int ((15 : Int32) + (nI i)), .ref 1497, .ref 1482]) cd_Mo_list rfl rfl (fun _ _ => rfl) ?_
      refine m_eq (show ((15 : Int32) + (nI i) : Int32) = nI (15 + i) from nI_add 15 i) ?_
      refine m_aI (r := 14) (a := 15) (g := (A 15)) (x := ((A 15) (15 + i))) (pc' := 50) rfl rfl cd_Mo_list rfl rfl rfl (vp_in_nI (by omega) (by decide)) (congrArg (A 15) (nI_clamp (by omega))) ?_
      refine m_k1 (v := 0) (pc' := 51) cd_Mo_list rfl (by decide) rfl ?_
      refine m_cv (pc' := 54) cd_Mo_list rfl rfl rfl rfl rfl cd_Mo_enter rfl (Nat.le_of_ble_eq_true rfl) (m_enter hg (by omega) (hon.2 i X hX).1 (MT_z hM) (fun g1 hg1 => ?_))
      show mg _ _ _ 54 _ [] _ _
      refine m_inc (y := nI (i + 1)) (pc' := 57) cd_Mo_list rfl l2 (by decide) (nI_add i 1) rfl (fun lv el => ?_)
      have l0 := tm_lk el l0 rfl (by decide)
      have l1 := tm_lk el l1 rfl (by decide)
      have l2 : lv.lookup 2 = some (.int (nI (i + 1))) := tm_lks el
      clear el
      refine m_pure (pc' := 29) (st' := []) cd_Mo_list rfl rfl (fun _ _ => rfl) ?_
      exact ih (i + 1) (W ++ [(X.1, tz)]) g1 hR2 hg1 (by simp; omega) (by omega) (fun g' lv q1 => by have k2 := kk g' lv; rw [List.append_cons] at k2; exact k2 q1) lv l0 l1 l2
set_option maxRecDepth 100000 in
theorem l_liSe {sc : tm_X} {d : Nat} {f : Nat → Int32} {A : Nat → Nat → Int32} {T : List Tm} {DL : List (Int32 × Int32)} {G Kw : Tm → Prop} {z p : Nat} {l : List SS} {Q : Option Value → MS → Prop} (hM : MT f A T DL G Kw) (hp : p < 6) (hl : qSs (A 15) T p l) : ∀ (R : List SS) (i : Nat) (W : EN2) (g : Nat → Int32), l.drop i = R → EN g T W 0 → W.length + (sl_en R).length ≤ 600 → i ≤ 2 → (∀ g' (lv : tm_L), EN g' T (W ++ sl_en R) 0 → lv.lookup 0 = some (.ref 1482) → lv.lookup 1 = some (.int (nI z)) → lv.lookup 2 = some (.int (nI p)) → mg sc (d + 3) 191 98 lv [] (fset f 38 (nI (W ++ sl_en R).length), fset A 27 g') Q) → ∀ lv : tm_L, lv.lookup 0 = some (.ref 1482) → lv.lookup 1 = some (.int (nI z)) → lv.lookup 2 = some (.int (nI p)) → lv.lookup 3 = some (.int (nI i)) → mg sc (d + 3) 191 70 lv [] (fset f 38 (nI (W).length), fset A 27 g) Q := by
  intro R
  induction R with
  | nil =>
    intro i W g hR hg hW hi4 kk lv l0 l1 l2 l3
    have hll := drop_n hR
    have hl2 := hl.1.2
    refine m_ild (pc' := 71) cd_Mo_list rfl (Or.inr ⟨_, rfl, rfl, rfl⟩) l3 rfl ?_
    refine m_ald (pc' := 72) cd_Mo_list rfl (Or.inr ⟨_, rfl, rfl, rfl⟩) l0 rfl rfl ?_
    refine m_fR (r := 14) (a := 15) (ad := 1497) (pc' := 75) rfl rfl cd_Mo_list rfl rfl rfl rfl rfl ?_
    refine m_k2 (v := 24) (pc' := 77) cd_Mo_list rfl (by decide) rfl ?_
    refine m_ild (pc' := 78) cd_Mo_list rfl (Or.inr ⟨_, rfl, rfl, rfl⟩) l2 rfl ?_
    refine m_pure (pc' := 79) (st' := [.int ((24 : Int32) + (nI p)), .ref 1497, .int (nI i)]) cd_Mo_list rfl rfl (fun _ _ => rfl) ?_
    refine m_eq (show ((24 : Int32) + (nI p) : Int32) = nI (24 + p) from nI_add 24 p) ?_
    refine m_aI (r := 14) (a := 15) (g := (A 15)) (x := (nI l.length)) (pc' := 80) rfl rfl cd_Mo_list rfl rfl rfl (vp_in_nI (by omega) (by decide)) (by rw [(nI_clamp (by omega))]; exact hl.1.1) ?_
    refine m_if2 (t := 98) (pc' := 83) cd_Mo_list rfl rfl rfl (fun c80 => ?_) (fun c80 => ?_)
    · have c80 : (nI l.length) ≤ (nI i) := c80
      have k2 := kk g lv
      rw [show sl_en [] = [] from rfl, List.append_nil] at k2
      exact k2 hg l0 l1 l2
    · have c80 : ¬ (nI l.length) ≤ (nI i) := c80
      exact absurd (nI_le hll (by omega)) c80
  | cons X R ih =>
    intro i W g hR hg hW hi4 kk lv l0 l1 l2 l3
    obtain ⟨hX, hR2, hil⟩ := drop_c hR
    have hl2 := hl.1.2
    have he : sl_en (X :: R) = se_en X ++ sl_en R := rfl
    rw [he] at hW kk
    rw [List.length_append] at hW
    refine m_ild (pc' := 71) cd_Mo_list rfl (Or.inr ⟨_, rfl, rfl, rfl⟩) l3 rfl ?_
    refine m_ald (pc' := 72) cd_Mo_list rfl (Or.inr ⟨_, rfl, rfl, rfl⟩) l0 rfl rfl ?_
    refine m_fR (r := 14) (a := 15) (ad := 1497) (pc' := 75) rfl rfl cd_Mo_list rfl rfl rfl rfl rfl ?_
    refine m_k2 (v := 24) (pc' := 77) cd_Mo_list rfl (by decide) rfl ?_
    refine m_ild (pc' := 78) cd_Mo_list rfl (Or.inr ⟨_, rfl, rfl, rfl⟩) l2 rfl ?_
    refine m_pure (pc' := 79) (st' := [.int ((24 : Int32) + (nI p)), .ref 1497, .int (nI i)]) cd_Mo_list rfl rfl (fun _ _ => rfl) ?_
    refine m_eq (show ((24 : Int32) + (nI p) : Int32) = nI (24 + p) from nI_add 24 p) ?_
    refine m_aI (r := 14) (a := 15) (g := (A 15)) (x := (nI l.length)) (pc' := 80) rfl rfl cd_Mo_list rfl rfl rfl (vp_in_nI (by omega) (by decide)) (by rw [(nI_clamp (by omega))]; exact hl.1.1) ?_
    refine m_if2 (t := 98) (pc' := 83) cd_Mo_list rfl rfl rfl (fun c80 => ?_) (fun c80 => ?_)
    · have c80 : (nI l.length) ≤ (nI i) := c80
      exact absurd c80 (nI_ge hil (by omega))
    · have c80 : ¬ (nI l.length) ≤ (nI i) := c80
      refine m_ald (pc' := 84) cd_Mo_list rfl (Or.inr ⟨_, rfl, rfl, rfl⟩) l0 rfl rfl ?_
      refine m_ild (pc' := 85) cd_Mo_list rfl (Or.inr ⟨_, rfl, rfl, rfl⟩) l2 rfl ?_
      refine m_ild (pc' := 86) cd_Mo_list rfl (Or.inr ⟨_, rfl, rfl, rfl⟩) l3 rfl ?_
      refine m_si (pc' := 89) cd_Mo_list rfl rfl rfl rfl rfl cd_Mo_sessionAt rfl (Nat.le_of_ble_eq_true rfl) (m_sessionAt ?_)
      show mg _ _ _ 89 _ [.int (nI (30 + (2 * p + i) * 38)), .ref 1482] _ _
      refine m_cv (pc' := 92) cd_Mo_list rfl rfl rfl rfl rfl cd_Mo_enterSession rfl (Nat.le_of_ble_eq_true rfl) (m_enSe hM (by omega) (hl.2 i X hX) hg (by omega) (fun g1 hg1 => ?_))
      show mg _ _ _ 92 _ [] _ _
      refine m_inc (y := nI (i + 1)) (pc' := 95) cd_Mo_list rfl l3 (by decide) (nI_add i 1) rfl (fun lv el => ?_)
      have l0 := tm_lk el l0 rfl (by decide)
      have l1 := tm_lk el l1 rfl (by decide)
      have l2 := tm_lk el l2 rfl (by decide)
      have l3 : lv.lookup 3 = some (.int (nI (i + 1))) := tm_lks el
      clear el
      refine m_pure (pc' := 70) (st' := []) cd_Mo_list rfl rfl (fun _ _ => rfl) ?_
      exact ih (i + 1) (W ++ se_en X) g1 hR2 hg1 (by rw [List.length_append]; omega) (by omega) (fun g' lv q1 => by have k2 := kk g' lv; rw [← List.append_assoc] at k2; exact k2 q1) lv l0 l1 l2 l3
set_option maxRecDepth 100000 in
theorem m_list {sc : tm_X} {d : Nat} {f : Nat → Int32} {A : Nat → Nat → Int32} {T : List Tm} {DL : List (Int32 × Int32)} {G Kw : Tm → Prop} {z : Nat} {id : Tm} {K0 K1 : PK} {on : List (Tm × Int32)} {lnu : Int32} {se : Nat → List SS} {me : Nat → MM} {Q : MS → Prop} (hM : MT f A T DL G Kw) (hz : z < 6) (hid : tv T (A 16 z) id) (hD : qDv (A 15) T (id, K0, K1, on, lnu, se, me)) (hz0 : K0.1 = tz ↔ K0.2.1 = 0) (hz1 : K1.1 = tz ↔ K1.2.1 = 0) (hW : (dv_en (id, K0, K1, on, lnu, se, me)).length ≤ 600) (kk : ∀ g', EN g' T (dv_en (id, K0, K1, on, lnu, se, me)) 0 → Q (fset f 38 (nI (dv_en (id, K0, K1, on, lnu, se, me)).length), fset A 27 g')) : mGv sc (d + 3) 191 [.ref 1482, .int (nI z)] (f, A) Q := by
  obtain ⟨⟨p0, p1⟩, ⟨o1, -⟩, s1, m1⟩ := hD
  have eD : dv_en (id, K0, K1, on, lnu, se, me) = [(id, tz)] ++ pk_en K0 ++ pk_en K1 ++ on_en on ++ sl_en (se 0) ++ sl_en (se 1) ++ sl_en (se 2) ++ sl_en (se 3) ++ sl_en (se 4) ++ sl_en (se 5) ++ mm_en (me 0) ++ mm_en (me 1) ++ mm_en (me 2) ++ mm_en (me 3) := rfl
  rw [eD] at hW kk
  simp only [List.length_append, List.length_cons, List.length_nil] at hW
  show mg sc (d + 3) 191 0 [(0, .ref 1482), (1, .int (nI z))] [] (f, A) _
  generalize elv : ([(0, .ref 1482), (1, .int (nI z))] : tm_L) = lv
  have l0 : lv.lookup 0 = some (.ref 1482) := by rw [← elv]; rfl
  have l1 : lv.lookup 1 = some (.int (nI z)) := by rw [← elv]; rfl
  clear elv
  refine m_ald (pc' := 1) cd_Mo_list rfl (Or.inr ⟨_, rfl, rfl, rfl⟩) l0 rfl rfl ?_
  refine m_k1 (v := 0) (pc' := 2) cd_Mo_list rfl (by decide) rfl ?_
  refine m_pI (k := 38) (pc' := 5) cd_Mo_list rfl rfl rfl rfl (by simp [tm_okV, narrow, fits]) rfl rfl ?_
  have eS : (fset f 38 0, A) = (fset f 38 (nI ([] : EN2).length), fset A 27 (A 27)) := by rw [fset_eta]; rfl
  rw [eS]
  refine m_ald (pc' := 6) cd_Mo_list rfl (Or.inr ⟨_, rfl, rfl, rfl⟩) l0 rfl rfl ?_
  refine m_ald (pc' := 7) cd_Mo_list rfl (Or.inr ⟨_, rfl, rfl, rfl⟩) l0 rfl rfl ?_
  refine m_fR (r := 15) (a := 16) (ad := 1498) (pc' := 10) rfl rfl cd_Mo_list rfl rfl rfl rfl rfl ?_
  refine m_ild (pc' := 11) cd_Mo_list rfl (Or.inr ⟨_, rfl, rfl, rfl⟩) l1 rfl ?_
  refine m_aI (r := 15) (a := 16) (g := (A 16)) (x := ((A 16) z)) (pc' := 12) rfl rfl cd_Mo_list rfl rfl rfl (vp_in_nI (by omega) (by decide)) (congrArg (A 16) (nI_clamp (by omega))) ?_
  refine m_k1 (v := 0) (pc' := 13) cd_Mo_list rfl (by decide) rfl ?_
  refine m_cv (pc' := 16) cd_Mo_list rfl rfl rfl rfl rfl cd_Mo_enter rfl (Nat.le_of_ble_eq_true rfl) (m_enter (W := []) (EN_nil _ _ _) (by decide) hid (MT_z hM) (fun g13 hg13 => ?_))
  show mg _ _ _ 16 _ [] _ _
  refine m_ald (pc' := 17) cd_Mo_list rfl (Or.inr ⟨_, rfl, rfl, rfl⟩) l0 rfl rfl ?_
  refine m_k1 (v := 0) (pc' := 18) cd_Mo_list rfl (by decide) rfl ?_
  refine m_cv (pc' := 21) cd_Mo_list rfl rfl rfl rfl rfl cd_Mo_enterPrekey rfl (Nat.le_of_ble_eq_true rfl) (m_enPk (a := 0) hM (by decide) p0 hz0 hg13 (by simp only [List.length_append, List.length_cons, List.length_nil]; omega) (fun g14 hg14 => ?_))
  show mg _ _ _ 21 _ [] _ _
  refine m_ald (pc' := 22) cd_Mo_list rfl (Or.inr ⟨_, rfl, rfl, rfl⟩) l0 rfl rfl ?_
  refine m_k2 (v := 7) (pc' := 24) cd_Mo_list rfl (by decide) rfl ?_
  refine m_cv (pc' := 27) cd_Mo_list rfl rfl rfl rfl rfl cd_Mo_enterPrekey rfl (Nat.le_of_ble_eq_true rfl) (m_enPk (a := 7) hM (by decide) p1 hz1 hg14 (by simp only [List.length_append, List.length_cons, List.length_nil]; omega) (fun g15 hg15 => ?_))
  show mg _ _ _ 27 _ [] _ _
  refine m_k1 (v := 0) (pc' := 28) cd_Mo_list rfl (by decide) rfl ?_
  refine m_ist (pc' := 29) cd_Mo_list rfl (Or.inr ⟨_, rfl, rfl, rfl⟩) (by decide) rfl (fun lv el => ?_)
  have l0 := tm_lk el l0 rfl (by decide)
  have l1 := tm_lk el l1 rfl (by decide)
  have l2 : lv.lookup 2 = some (.int 0) := tm_lks el
  clear el
  refine l_liOn (z := z) hM o1 on 0 ((([] ++ [(id, tz)]) ++ pk_en K0) ++ pk_en K1) g15 rfl hg15 (by simp only [List.length_append, List.length_cons, List.length_nil]; omega) (by omega) (fun g16 lv hg16 l0 l1 => ?_) lv l0 l1 l2
  refine m_k1 (v := 0) (pc' := 61) cd_Mo_list rfl (by decide) rfl ?_
  refine m_ist (pc' := 62) cd_Mo_list rfl (Or.inr ⟨_, rfl, rfl, rfl⟩) (by decide) rfl (fun lv el => ?_)
  have l0 := tm_lk el l0 rfl (by decide)
  have l1 := tm_lk el l1 rfl (by decide)
  have l2 : lv.lookup 2 = some (.int 0) := tm_lks el
  clear el
  refine m_ild (pc' := 63) cd_Mo_list rfl (Or.inr ⟨_, rfl, rfl, rfl⟩) l2 rfl ?_
  refine m_k2 (v := 6) (pc' := 65) cd_Mo_list rfl (by decide) rfl ?_
  refine m_if2 (t := 104) (pc' := 68) cd_Mo_list rfl rfl rfl (fun c65 => ?_) (fun c65 => ?_)
  · exact absurd (show (6 : Int32) ≤ 0 from c65) (by decide)
  · have c65 : ¬ (6 : Int32) ≤ 0 := c65
    refine m_k1 (v := 0) (pc' := 69) cd_Mo_list rfl (by decide) rfl ?_
    refine m_ist (pc' := 70) cd_Mo_list rfl (Or.inr ⟨_, rfl, rfl, rfl⟩) (by decide) rfl (fun lv el => ?_)
    have l0 := tm_lk el l0 rfl (by decide)
    have l1 := tm_lk el l1 rfl (by decide)
    have l2 := tm_lk el l2 rfl (by decide)
    have l3 : lv.lookup 3 = some (.int 0) := tm_lks el
    clear el
    refine l_liSe (z := z) (p := 0) hM (by decide) (s1 0 (by decide)) (se 0) 0 (((([] ++ [(id, tz)]) ++ pk_en K0) ++ pk_en K1) ++ on_en on) g16 rfl hg16 (by simp only [List.length_append, List.length_cons, List.length_nil]; omega) (by omega) (fun g17 lv hg17 l0 l1 l2 => ?_) lv l0 l1 l2 l3
    refine m_inc (y := 1) (pc' := 101) cd_Mo_list rfl l2 (by decide) (by decide) rfl (fun lv el => ?_)
    have l0 := tm_lk el l0 rfl (by decide)
    have l1 := tm_lk el l1 rfl (by decide)
    have l2 : lv.lookup 2 = some (.int 1) := tm_lks el
    clear el
    refine m_pure (pc' := 62) (st' := []) cd_Mo_list rfl rfl (fun _ _ => rfl) ?_
    refine m_ild (pc' := 63) cd_Mo_list rfl (Or.inr ⟨_, rfl, rfl, rfl⟩) l2 rfl ?_
    refine m_k2 (v := 6) (pc' := 65) cd_Mo_list rfl (by decide) rfl ?_
    refine m_if2 (t := 104) (pc' := 68) cd_Mo_list rfl rfl rfl (fun c65 => ?_) (fun c65 => ?_)
    · exact absurd (show (6 : Int32) ≤ 1 from c65) (by decide)
    · have c65 : ¬ (6 : Int32) ≤ 1 := c65
      refine m_k1 (v := 0) (pc' := 69) cd_Mo_list rfl (by decide) rfl ?_
      refine m_ist (pc' := 70) cd_Mo_list rfl (Or.inr ⟨_, rfl, rfl, rfl⟩) (by decide) rfl (fun lv el => ?_)
      have l0 := tm_lk el l0 rfl (by decide)
      have l1 := tm_lk el l1 rfl (by decide)
      have l2 := tm_lk el l2 rfl (by decide)
      have l3 : lv.lookup 3 = some (.int 0) := tm_lks el
      clear el
      refine l_liSe (z := z) (p := 1) hM (by decide) (s1 1 (by decide)) (se 1) 0 ((((([] ++ [(id, tz)]) ++ pk_en K0) ++ pk_en K1) ++ on_en on) ++ sl_en (se 0)) g17 rfl hg17 (by simp only [List.length_append, List.length_cons, List.length_nil]; omega) (by omega) (fun g18 lv hg18 l0 l1 l2 => ?_) lv l0 l1 l2 l3
      refine m_inc (y := 2) (pc' := 101) cd_Mo_list rfl l2 (by decide) (by decide) rfl (fun lv el => ?_)
      have l0 := tm_lk el l0 rfl (by decide)
      have l1 := tm_lk el l1 rfl (by decide)
      have l2 : lv.lookup 2 = some (.int 2) := tm_lks el
      clear el
      refine m_pure (pc' := 62) (st' := []) cd_Mo_list rfl rfl (fun _ _ => rfl) ?_
      refine m_ild (pc' := 63) cd_Mo_list rfl (Or.inr ⟨_, rfl, rfl, rfl⟩) l2 rfl ?_
      refine m_k2 (v := 6) (pc' := 65) cd_Mo_list rfl (by decide) rfl ?_
      refine m_if2 (t := 104) (pc' := 68) cd_Mo_list rfl rfl rfl (fun c65 => ?_) (fun c65 => ?_)
      · exact absurd (show (6 : Int32) ≤ 2 from c65) (by decide)
      · have c65 : ¬ (6 : Int32) ≤ 2 := c65
        refine m_k1 (v := 0) (pc' := 69) cd_Mo_list rfl (by decide) rfl ?_
        refine m_ist (pc' := 70) cd_Mo_list rfl (Or.inr ⟨_, rfl, rfl, rfl⟩) (by decide) rfl (fun lv el => ?_)
        have l0 := tm_lk el l0 rfl (by decide)
        have l1 := tm_lk el l1 rfl (by decide)
        have l2 := tm_lk el l2 rfl (by decide)
        have l3 : lv.lookup 3 = some (.int 0) := tm_lks el
        clear el
        refine l_liSe (z := z) (p := 2) hM (by decide) (s1 2 (by decide)) (se 2) 0 (((((([] ++ [(id, tz)]) ++ pk_en K0) ++ pk_en K1) ++ on_en on) ++ sl_en (se 0)) ++ sl_en (se 1)) g18 rfl hg18 (by simp only [List.length_append, List.length_cons, List.length_nil]; omega) (by omega) (fun g19 lv hg19 l0 l1 l2 => ?_) lv l0 l1 l2 l3
        refine m_inc (y := 3) (pc' := 101) cd_Mo_list rfl l2 (by decide) (by decide) rfl (fun lv el => ?_)
        have l0 := tm_lk el l0 rfl (by decide)
        have l1 := tm_lk el l1 rfl (by decide)
        have l2 : lv.lookup 2 = some (.int 3) := tm_lks el
        clear el
        refine m_pure (pc' := 62) (st' := []) cd_Mo_list rfl rfl (fun _ _ => rfl) ?_
        refine m_ild (pc' := 63) cd_Mo_list rfl (Or.inr ⟨_, rfl, rfl, rfl⟩) l2 rfl ?_
        refine m_k2 (v := 6) (pc' := 65) cd_Mo_list rfl (by decide) rfl ?_
        refine m_if2 (t := 104) (pc' := 68) cd_Mo_list rfl rfl rfl (fun c65 => ?_) (fun c65 => ?_)
        · exact absurd (show (6 : Int32) ≤ 3 from c65) (by decide)
        · have c65 : ¬ (6 : Int32) ≤ 3 := c65
          refine m_k1 (v := 0) (pc' := 69) cd_Mo_list rfl (by decide) rfl ?_
          refine m_ist (pc' := 70) cd_Mo_list rfl (Or.inr ⟨_, rfl, rfl, rfl⟩) (by decide) rfl (fun lv el => ?_)
          have l0 := tm_lk el l0 rfl (by decide)
          have l1 := tm_lk el l1 rfl (by decide)
          have l2 := tm_lk el l2 rfl (by decide)
          have l3 : lv.lookup 3 = some (.int 0) := tm_lks el
          clear el
          refine l_liSe (z := z) (p := 3) hM (by decide) (s1 3 (by decide)) (se 3) 0 ((((((([] ++ [(id, tz)]) ++ pk_en K0) ++ pk_en K1) ++ on_en on) ++ sl_en (se 0)) ++ sl_en (se 1)) ++ sl_en (se 2)) g19 rfl hg19 (by simp only [List.length_append, List.length_cons, List.length_nil]; omega) (by omega) (fun g20 lv hg20 l0 l1 l2 => ?_) lv l0 l1 l2 l3
          refine m_inc (y := 4) (pc' := 101) cd_Mo_list rfl l2 (by decide) (by decide) rfl (fun lv el => ?_)
          have l0 := tm_lk el l0 rfl (by decide)
          have l1 := tm_lk el l1 rfl (by decide)
          have l2 : lv.lookup 2 = some (.int 4) := tm_lks el
          clear el
          refine m_pure (pc' := 62) (st' := []) cd_Mo_list rfl rfl (fun _ _ => rfl) ?_
          refine m_ild (pc' := 63) cd_Mo_list rfl (Or.inr ⟨_, rfl, rfl, rfl⟩) l2 rfl ?_
          refine m_k2 (v := 6) (pc' := 65) cd_Mo_list rfl (by decide) rfl ?_
          refine m_if2 (t := 104) (pc' := 68) cd_Mo_list rfl rfl rfl (fun c65 => ?_) (fun c65 => ?_)
          · exact absurd (show (6 : Int32) ≤ 4 from c65) (by decide)
          · have c65 : ¬ (6 : Int32) ≤ 4 := c65
            refine m_k1 (v := 0) (pc' := 69) cd_Mo_list rfl (by decide) rfl ?_
            refine m_ist (pc' := 70) cd_Mo_list rfl (Or.inr ⟨_, rfl, rfl, rfl⟩) (by decide) rfl (fun lv el => ?_)
            have l0 := tm_lk el l0 rfl (by decide)
            have l1 := tm_lk el l1 rfl (by decide)
            have l2 := tm_lk el l2 rfl (by decide)
            have l3 : lv.lookup 3 = some (.int 0) := tm_lks el
            clear el
            refine l_liSe (z := z) (p := 4) hM (by decide) (s1 4 (by decide)) (se 4) 0 (((((((([] ++ [(id, tz)]) ++ pk_en K0) ++ pk_en K1) ++ on_en on) ++ sl_en (se 0)) ++ sl_en (se 1)) ++ sl_en (se 2)) ++ sl_en (se 3)) g20 rfl hg20 (by simp only [List.length_append, List.length_cons, List.length_nil]; omega) (by omega) (fun g21 lv hg21 l0 l1 l2 => ?_) lv l0 l1 l2 l3
            refine m_inc (y := 5) (pc' := 101) cd_Mo_list rfl l2 (by decide) (by decide) rfl (fun lv el => ?_)
            have l0 := tm_lk el l0 rfl (by decide)
            have l1 := tm_lk el l1 rfl (by decide)
            have l2 : lv.lookup 2 = some (.int 5) := tm_lks el
            clear el
            refine m_pure (pc' := 62) (st' := []) cd_Mo_list rfl rfl (fun _ _ => rfl) ?_
            refine m_ild (pc' := 63) cd_Mo_list rfl (Or.inr ⟨_, rfl, rfl, rfl⟩) l2 rfl ?_
            refine m_k2 (v := 6) (pc' := 65) cd_Mo_list rfl (by decide) rfl ?_
            refine m_if2 (t := 104) (pc' := 68) cd_Mo_list rfl rfl rfl (fun c65 => ?_) (fun c65 => ?_)
            · exact absurd (show (6 : Int32) ≤ 5 from c65) (by decide)
            · have c65 : ¬ (6 : Int32) ≤ 5 := c65
              refine m_k1 (v := 0) (pc' := 69) cd_Mo_list rfl (by decide) rfl ?_
              refine m_ist (pc' := 70) cd_Mo_list rfl (Or.inr ⟨_, rfl, rfl, rfl⟩) (by decide) rfl (fun lv el => ?_)
              have l0 := tm_lk el l0 rfl (by decide)
              have l1 := tm_lk el l1 rfl (by decide)
              have l2 := tm_lk el l2 rfl (by decide)
              have l3 : lv.lookup 3 = some (.int 0) := tm_lks el
              clear el
              refine l_liSe (z := z) (p := 5) hM (by decide) (s1 5 (by decide)) (se 5) 0 ((((((((([] ++ [(id, tz)]) ++ pk_en K0) ++ pk_en K1) ++ on_en on) ++ sl_en (se 0)) ++ sl_en (se 1)) ++ sl_en (se 2)) ++ sl_en (se 3)) ++ sl_en (se 4)) g21 rfl hg21 (by simp only [List.length_append, List.length_cons, List.length_nil]; omega) (by omega) (fun g22 lv hg22 l0 l1 l2 => ?_) lv l0 l1 l2 l3
              refine m_inc (y := 6) (pc' := 101) cd_Mo_list rfl l2 (by decide) (by decide) rfl (fun lv el => ?_)
              have l0 := tm_lk el l0 rfl (by decide)
              have l1 := tm_lk el l1 rfl (by decide)
              have l2 : lv.lookup 2 = some (.int 6) := tm_lks el
              clear el
              refine m_pure (pc' := 62) (st' := []) cd_Mo_list rfl rfl (fun _ _ => rfl) ?_
              refine m_ild (pc' := 63) cd_Mo_list rfl (Or.inr ⟨_, rfl, rfl, rfl⟩) l2 rfl ?_
              refine m_k2 (v := 6) (pc' := 65) cd_Mo_list rfl (by decide) rfl ?_
              refine m_if2 (t := 104) (pc' := 68) cd_Mo_list rfl rfl rfl (fun c65 => ?_) (fun c65 => ?_)
              · have c65 : (6 : Int32) ≤ 6 := c65
                refine m_k1 (v := 0) (pc' := 105) cd_Mo_list rfl (by decide) rfl ?_
                refine m_ist (pc' := 106) cd_Mo_list rfl (Or.inr ⟨_, rfl, rfl, rfl⟩) (by decide) rfl (fun lv el => ?_)
                have l0 := tm_lk el l0 rfl (by decide)
                have l1 := tm_lk el l1 rfl (by decide)
                have l2 : lv.lookup 2 = some (.int 0) := tm_lks el
                clear el
                refine m_ild (pc' := 107) cd_Mo_list rfl (Or.inr ⟨_, rfl, rfl, rfl⟩) l2 rfl ?_
                refine m_k1 (v := 4) (pc' := 108) cd_Mo_list rfl (by decide) rfl ?_
                refine m_if2 (t := 122) (pc' := 111) cd_Mo_list rfl rfl rfl (fun c108 => ?_) (fun c108 => ?_)
                · exact absurd (show (4 : Int32) ≤ 0 from c108) (by decide)
                · have c108 : ¬ (4 : Int32) ≤ 0 := c108
                  refine m_ald (pc' := 112) cd_Mo_list rfl (Or.inr ⟨_, rfl, rfl, rfl⟩) l0 rfl rfl ?_
                  refine m_ild (pc' := 113) cd_Mo_list rfl (Or.inr ⟨_, rfl, rfl, rfl⟩) l2 rfl ?_
                  refine m_cv (pc' := 116) cd_Mo_list rfl rfl rfl rfl rfl cd_Mo_enterGroup rfl (Nat.le_of_ble_eq_true rfl) (m_enGr (q := 0) hM (by decide) (m1 0 (by decide)) hg22 (by simp only [List.length_append, List.length_cons, List.length_nil]; omega) (fun g23 hg23 => ?_))
                  show mg _ _ _ 116 _ [] _ _
                  refine m_inc (y := 1) (pc' := 119) cd_Mo_list rfl l2 (by decide) (by decide) rfl (fun lv el => ?_)
                  have l0 := tm_lk el l0 rfl (by decide)
                  have l1 := tm_lk el l1 rfl (by decide)
                  have l2 : lv.lookup 2 = some (.int 1) := tm_lks el
                  clear el
                  refine m_pure (pc' := 106) (st' := []) cd_Mo_list rfl rfl (fun _ _ => rfl) ?_
                  refine m_ild (pc' := 107) cd_Mo_list rfl (Or.inr ⟨_, rfl, rfl, rfl⟩) l2 rfl ?_
                  refine m_k1 (v := 4) (pc' := 108) cd_Mo_list rfl (by decide) rfl ?_
                  refine m_if2 (t := 122) (pc' := 111) cd_Mo_list rfl rfl rfl (fun c108 => ?_) (fun c108 => ?_)
                  · exact absurd (show (4 : Int32) ≤ 1 from c108) (by decide)
                  · have c108 : ¬ (4 : Int32) ≤ 1 := c108
                    refine m_ald (pc' := 112) cd_Mo_list rfl (Or.inr ⟨_, rfl, rfl, rfl⟩) l0 rfl rfl ?_
                    refine m_ild (pc' := 113) cd_Mo_list rfl (Or.inr ⟨_, rfl, rfl, rfl⟩) l2 rfl ?_
                    refine m_cv (pc' := 116) cd_Mo_list rfl rfl rfl rfl rfl cd_Mo_enterGroup rfl (Nat.le_of_ble_eq_true rfl) (m_enGr (q := 1) hM (by decide) (m1 1 (by decide)) hg23 (by simp only [List.length_append, List.length_cons, List.length_nil]; omega) (fun g24 hg24 => ?_))
                    show mg _ _ _ 116 _ [] _ _
                    refine m_inc (y := 2) (pc' := 119) cd_Mo_list rfl l2 (by decide) (by decide) rfl (fun lv el => ?_)
                    have l0 := tm_lk el l0 rfl (by decide)
                    have l1 := tm_lk el l1 rfl (by decide)
                    have l2 : lv.lookup 2 = some (.int 2) := tm_lks el
                    clear el
                    refine m_pure (pc' := 106) (st' := []) cd_Mo_list rfl rfl (fun _ _ => rfl) ?_
                    refine m_ild (pc' := 107) cd_Mo_list rfl (Or.inr ⟨_, rfl, rfl, rfl⟩) l2 rfl ?_
                    refine m_k1 (v := 4) (pc' := 108) cd_Mo_list rfl (by decide) rfl ?_
                    refine m_if2 (t := 122) (pc' := 111) cd_Mo_list rfl rfl rfl (fun c108 => ?_) (fun c108 => ?_)
                    · exact absurd (show (4 : Int32) ≤ 2 from c108) (by decide)
                    · have c108 : ¬ (4 : Int32) ≤ 2 := c108
                      refine m_ald (pc' := 112) cd_Mo_list rfl (Or.inr ⟨_, rfl, rfl, rfl⟩) l0 rfl rfl ?_
                      refine m_ild (pc' := 113) cd_Mo_list rfl (Or.inr ⟨_, rfl, rfl, rfl⟩) l2 rfl ?_
                      refine m_cv (pc' := 116) cd_Mo_list rfl rfl rfl rfl rfl cd_Mo_enterGroup rfl (Nat.le_of_ble_eq_true rfl) (m_enGr (q := 2) hM (by decide) (m1 2 (by decide)) hg24 (by simp only [List.length_append, List.length_cons, List.length_nil]; omega) (fun g25 hg25 => ?_))
                      show mg _ _ _ 116 _ [] _ _
                      refine m_inc (y := 3) (pc' := 119) cd_Mo_list rfl l2 (by decide) (by decide) rfl (fun lv el => ?_)
                      have l0 := tm_lk el l0 rfl (by decide)
                      have l1 := tm_lk el l1 rfl (by decide)
                      have l2 : lv.lookup 2 = some (.int 3) := tm_lks el
                      clear el
                      refine m_pure (pc' := 106) (st' := []) cd_Mo_list rfl rfl (fun _ _ => rfl) ?_
                      refine m_ild (pc' := 107) cd_Mo_list rfl (Or.inr ⟨_, rfl, rfl, rfl⟩) l2 rfl ?_
                      refine m_k1 (v := 4) (pc' := 108) cd_Mo_list rfl (by decide) rfl ?_
                      refine m_if2 (t := 122) (pc' := 111) cd_Mo_list rfl rfl rfl (fun c108 => ?_) (fun c108 => ?_)
                      · exact absurd (show (4 : Int32) ≤ 3 from c108) (by decide)
                      · have c108 : ¬ (4 : Int32) ≤ 3 := c108
                        refine m_ald (pc' := 112) cd_Mo_list rfl (Or.inr ⟨_, rfl, rfl, rfl⟩) l0 rfl rfl ?_
                        refine m_ild (pc' := 113) cd_Mo_list rfl (Or.inr ⟨_, rfl, rfl, rfl⟩) l2 rfl ?_
                        refine m_cv (pc' := 116) cd_Mo_list rfl rfl rfl rfl rfl cd_Mo_enterGroup rfl (Nat.le_of_ble_eq_true rfl) (m_enGr (q := 3) hM (by decide) (m1 3 (by decide)) hg25 (by simp only [List.length_append, List.length_cons, List.length_nil]; omega) (fun g26 hg26 => ?_))
                        show mg _ _ _ 116 _ [] _ _
                        refine m_inc (y := 4) (pc' := 119) cd_Mo_list rfl l2 (by decide) (by decide) rfl (fun lv el => ?_)
                        have l0 := tm_lk el l0 rfl (by decide)
                        have l1 := tm_lk el l1 rfl (by decide)
                        have l2 : lv.lookup 2 = some (.int 4) := tm_lks el
                        clear el
                        refine m_pure (pc' := 106) (st' := []) cd_Mo_list rfl rfl (fun _ _ => rfl) ?_
                        refine m_ild (pc' := 107) cd_Mo_list rfl (Or.inr ⟨_, rfl, rfl, rfl⟩) l2 rfl ?_
                        refine m_k1 (v := 4) (pc' := 108) cd_Mo_list rfl (by decide) rfl ?_
                        refine m_if2 (t := 122) (pc' := 111) cd_Mo_list rfl rfl rfl (fun c108 => ?_) (fun c108 => ?_)
                        · have c108 : (4 : Int32) ≤ 4 := c108
                          exact m_retv cd_Mo_list rfl ⟨rfl, (by have k2 := kk g26; rw [List.nil_append] at hg26 ⊢; exact k2 hg26)⟩
                        · exact absurd (show ¬ (4 : Int32) ≤ 4 from c108) (by decide)
              · exact absurd (show ¬ (6 : Int32) ≤ 6 from c65) (by decide)
