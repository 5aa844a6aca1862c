/-! The reference: takeList; a key of a group -/
theorem qGv_r {w g : Nat → Int32} {T T' : List Tm} {a : Nat} {th ch ch' : Tm} {nx nx' gen : Int32} {le : List (Tm × Int32 × Tm)} {o : Bool} (hT : T <+: T') (h : qGv w T a ((th, ch, nx, le), gen, o)) (e : ∀ k, k < 22 → k ≠ 1 → k ≠ 3 → g (a + k) = w (a + k)) (h1 : tv T' (g (a + 1)) ch') (h3 : g (a + 3) = nx') : qGv g T' a ((th, ch', nx', le), gen, o) := by
  obtain ⟨⟨a1, a2, a3, a4⟩, ⟨a5, a6⟩, a7, a8⟩ := h
  refine ⟨⟨(e 0 (by decide) (by decide) (by decide)).trans a1, h1, by rw [e 2 (by decide) (by decide) (by decide)]; exact tv_mono hT a3, h3⟩, ⟨(e 4 (by decide) (by decide) (by decide)).trans a5, a6⟩, fun i x hx => ?_, (e 21 (by decide) (by decide) (by decide)).trans a8⟩
  have hi : i < le.length := (List.getElem?_eq_some_iff.mp hx).1
  have a6 : le.length ≤ 8 := a6
  have q := a7 i x hx
  rw [show a + 5 + 2 * i = a + (5 + 2 * i) by omega, show a + 6 + 2 * i = a + (6 + 2 * i) by omega] at q ⊢
  rw [e _ (by omega) (by omega) (by omega), e _ (by omega) (by omega) (by omega)]
  exact ⟨q.1, tv_mono hT q.2⟩
theorem qGv_le {w g : Nat → Int32} {T T' : List Tm} {a : Nat} {th ch : Tm} {nx gen : Int32} {le le' : List (Tm × Int32 × Tm)} {o : Bool} (hT : T <+: T') (h : qGv w T a ((th, ch, nx, le), gen, o)) (e : ∀ k, k < 4 ∨ k = 21 → g (a + k) = w (a + k)) (h1 : g (a + 4) = nI le'.length) (h2 : le'.length ≤ 8) (h3 : qGl g T' a le') : qGv g T' a ((th, ch, nx, le'), gen, o) := by
  obtain ⟨⟨a1, a2, a3, a4⟩, ⟨a5, a6⟩, a7, a8⟩ := h
  exact ⟨⟨(e 0 (by decide)).trans a1, by rw [e 1 (by decide)]; exact tv_mono hT a2, by rw [e 2 (by decide)]; exact tv_mono hT a3, (e 3 (by decide)).trans a4⟩, ⟨h1, h2⟩, h3, (e 21 (by decide)).trans a8⟩
theorem qGl_shift {w g : Nat → Int32} {T : List Tm} {le : List (Tm × Int32 × Tm)} {i : Nat} (h8 : le.length ≤ 8) (h : qGl w T 0 le) (e : ∀ k, 5 ≤ k → k < 21 → g k = shW 2 w (5 + 2 * i) 19 k) : qGl g T 0 (le.eraseIdx i) := by
  intro k x hx
  rw [List.getElem?_eraseIdx] at hx
  by_cases c : k < i
  · rw [if_pos c] at hx
    have hk := (List.getElem?_eq_some_iff.mp hx).1
    have q := h k x hx
    rw [e _ (by omega) (by omega), e _ (by omega) (by omega), shW_out (by omega), shW_out (by omega)]
    exact q
  · rw [if_neg c] at hx
    have hk := (List.getElem?_eq_some_iff.mp hx).1
    have q := h (k + 1) x hx
    rw [e _ (by omega) (by omega), e _ (by omega) (by omega), shW_in (by omega) (by omega), shW_in (by omega) (by omega)]
    rw [show 0 + 5 + 2 * k + 2 = 0 + 5 + 2 * (k + 1) by omega, show 0 + 6 + 2 * k + 2 = 0 + 6 + 2 * (k + 1) by omega]
    exact q
theorem qGl_push {w g : Nat → Int32} {T T' : List Tm} {le : List (Tm × Int32 × Tm)} {x : Tm × Int32 × Tm} (hT : T <+: T') (h8 : le.length < 8) (h : qGl w T 0 le) (e : ∀ k, 5 ≤ k → k < 5 + 2 * le.length → g k = w k) (h2 : g (5 + 2 * le.length) = x.2.1) (h3 : tv T' (g (5 + 2 * le.length + 1)) x.2.2) : qGl g T' 0 (le ++ [x]) := by
  intro k y hy
  by_cases c : k < le.length
  · rw [List.getElem?_append_left c] at hy
    have q := h k y hy
    rw [e _ (by omega) (by omega), e _ (by omega) (by omega)]
    exact ⟨q.1, tv_mono hT q.2⟩
  · rw [List.getElem?_append_right (by omega)] at hy
    by_cases c2 : k - le.length = 0
    · rw [c2] at hy
      cases hy
      rw [show k = le.length by omega, show 0 + 5 + 2 * le.length = 5 + 2 * le.length by omega, show 0 + 6 + 2 * le.length = 5 + 2 * le.length + 1 by omega]
      exact ⟨h2, h3⟩
    · rw [List.getElem?_eq_none (by simp; omega)] at hy
      cases hy
set_option maxRecDepth 100000 in
theorem m_takeList {sc : tm_X} {d : Nat} {f : Nat → Int32} {A : Nat → Nat → Int32} {T : List Tm} {DL : List (Int32 × Int32)} {G Kw : Tm → Prop} {ve ma go ge ix ga : Int32} {ch si : Tm} {sl : Bool} {gv : Nat → List GV} {ids : Nat → Tm} {q g ti : Nat} {X : Tm} {Q : Int32 → MS → Prop} (hM : MT f A T DL G Kw) (hq : q < 6) (hg : g < 4) (hX : T[ti]? = some X) (kX : kd X = 6) (gH : Tgood 6 (pt X 1) = true) (eg : nu (pt X 1) 0 = nI g) (hid : ∀ q, q < 6 → tv T (A 16 q) (ids q)) (hG : qMm (A 15) T (486 + g * 279) (ve, ma, go, ge, ch, si, ix, ga, sl, gv)) (kN : ¬ tl_ok X q g (ids g) (ve, ma, go, ge, ch, si, ix, ga, sl, gv) → Q (-16) (f, A)) (kk : tl_ok X q g (ids g) (ve, ma, go, ge, ch, si, ix, ga, sl, gv) → ∀ h, qMm h T (486 + g * 279) (mm_adopt (ve, ma, go, ge, ch, si, ix, ga, sl, gv) (nu (pt X 1) 1) (nu (pt X 1) 2)) → (∀ j, ¬ ((486 + g * 279) ≤ j ∧ j < (486 + g * 279) + 279) → h j = A 15 j) → Q 3 (f, fset A 15 h)) : mGi sc (d + 2) 242 [.ref 1482, .int (nI q), .int (nI ti)] (f, A) Q := by
  have hTl := MT_len hM
  have hti := tv_lt hX
  have k7 := good_k7 gH
  obtain ⟨hi, ehi, hH⟩ := MT_two hM hX (Or.inr (Or.inr kX))
  have h0 := MT_one hM hX (Or.inr (Or.inr (Or.inr kX)))
  have hve := hG.1.1
  have hgo := hG.1.2.2.1
  show mg sc (d + 2) 242 0 [(0, .ref 1482), (1, .int (nI q)), (2, .int (nI ti))] [] (f, A) _
  generalize elv : ([(0, .ref 1482), (1, .int (nI q)), (2, .int (nI ti))] : tm_L) = lv
  have l0 : lv.lookup 0 = some (.ref 1482) := by rw [← elv]; rfl
  have l1 : lv.lookup 1 = some (.int (nI q)) := by rw [← elv]; rfl
  have l2 : lv.lookup 2 = some (.int (nI ti)) := by rw [← elv]; rfl
  clear elv
  refine m_ald (pc' := 1) cd_Mo_takeList rfl (Or.inr ⟨_, rfl, rfl, rfl⟩) l0 rfl rfl ?_
  refine m_fR (r := 2) (a := 3) (ad := 1485) (pc' := 4) rfl rfl cd_Mo_takeList rfl rfl rfl rfl rfl ?_
  refine m_ild (pc' := 5) cd_Mo_takeList rfl (Or.inr ⟨_, rfl, rfl, rfl⟩) l2 rfl ?_
  refine m_aI (r := 2) (a := 3) (g := (A 3)) (x := nI hi) (pc' := 6) rfl rfl cd_Mo_takeList rfl rfl rfl (vp_in_nI (by omega) (by decide)) ((congrArg (A 3) (nI_clamp (by omega))).trans ehi) ?_
  refine m_ist (pc' := 7) cd_Mo_takeList rfl (Or.inr ⟨_, rfl, rfl, rfl⟩) (by decide) rfl (fun lv el => ?_)
  have l0 := tm_lk el l0 rfl (by decide)
  have l1 := tm_lk el l1 rfl (by decide)
  have l2 := tm_lk el l2 rfl (by decide)
  have l3 : lv.lookup 3 = some (.int (nI hi)) := tm_lks el
  clear el
  refine m_ald (pc' := 8) cd_Mo_takeList rfl (Or.inr ⟨_, rfl, rfl, rfl⟩) l0 rfl rfl ?_
  refine m_ild (pc' := 9) cd_Mo_takeList rfl (Or.inr ⟨_, rfl, rfl, rfl⟩) l3 rfl ?_
  refine m_k1 (v := 0) (pc' := 10) cd_Mo_takeList rfl (by decide) rfl ?_
  refine m_ci (pc' := 13) cd_Mo_takeList rfl rfl rfl rfl rfl cd_Mo_cell rfl (Nat.le_of_ble_eq_true rfl) (m_cellE (k := 0) hM hH k7 (by decide) eg ?_)
  show mg _ _ _ 13 _ [.int (nI g)] _ _
  refine m_ist (pc' := 15) cd_Mo_takeList rfl (Or.inl ⟨rfl, rfl⟩) (by decide) rfl (fun lv el => ?_)
  have l0 := tm_lk el l0 rfl (by decide)
  have l1 := tm_lk el l1 rfl (by decide)
  have l2 := tm_lk el l2 rfl (by decide)
  have l3 := tm_lk el l3 rfl (by decide)
  have l4 : lv.lookup 4 = some (.int (nI g)) := tm_lks el
  clear el
  refine m_ald (pc' := 16) cd_Mo_takeList rfl (Or.inr ⟨_, rfl, rfl, rfl⟩) l0 rfl rfl ?_
  refine m_ild (pc' := 17) cd_Mo_takeList rfl (Or.inr ⟨_, rfl, rfl, rfl⟩) l3 rfl ?_
  refine m_k1 (v := 2) (pc' := 18) cd_Mo_takeList rfl (by decide) rfl ?_
  refine m_ci (pc' := 21) cd_Mo_takeList rfl rfl rfl rfl rfl cd_Mo_cell rfl (Nat.le_of_ble_eq_true rfl) (m_cellN (k := 2) hM hH k7 (by decide) ?_)
  show mg _ _ _ 21 _ [.int (nu (pt X 1) 2)] _ _
  refine m_ist (pc' := 23) cd_Mo_takeList rfl (Or.inl ⟨rfl, rfl⟩) (by decide) rfl (fun lv el => ?_)
  have l0 := tm_lk el l0 rfl (by decide)
  have l1 := tm_lk el l1 rfl (by decide)
  have l2 := tm_lk el l2 rfl (by decide)
  have l3 := tm_lk el l3 rfl (by decide)
  have l4 := tm_lk el l4 rfl (by decide)
  have l5 : lv.lookup 5 = some (.int (nu (pt X 1) 2)) := tm_lks el
  clear el
  refine m_ild (pc' := 25) cd_Mo_takeList rfl (Or.inl ⟨rfl, rfl⟩) l4 rfl ?_
  refine m_si (pc' := 28) cd_Mo_takeList rfl rfl rfl rfl rfl cd_Mo_groupAt rfl (Nat.le_of_ble_eq_true rfl) (m_groupAt ?_)
  show mg _ _ _ 28 _ [.int (nI (486 + g * 279))] _ _
  refine m_ist (pc' := 30) cd_Mo_takeList rfl (Or.inl ⟨rfl, rfl⟩) (by decide) rfl (fun lv el => ?_)
  have l0 := tm_lk el l0 rfl (by decide)
  have l1 := tm_lk el l1 rfl (by decide)
  have l2 := tm_lk el l2 rfl (by decide)
  have l3 := tm_lk el l3 rfl (by decide)
  have l4 := tm_lk el l4 rfl (by decide)
  have l5 := tm_lk el l5 rfl (by decide)
  have l6 : lv.lookup 6 = some (.int (nI (486 + g * 279))) := tm_lks el
  clear el
  refine m_ild (pc' := 31) cd_Mo_takeList rfl (Or.inr ⟨_, rfl, rfl, rfl⟩) l1 rfl ?_
  refine m_ild (pc' := 33) cd_Mo_takeList rfl (Or.inl ⟨rfl, rfl⟩) l4 rfl ?_
  refine m_if2 (t := 110) (pc' := 36) cd_Mo_takeList rfl rfl rfl (fun c33 => ?_) (fun c33 => ?_)
  · have c33 : (nI q) = (nI g) := c33
    refine m_k1 (v := 0) (pc' := 111) cd_Mo_takeList rfl (by decide) rfl ?_
    refine m_ist (pc' := 113) cd_Mo_takeList rfl (Or.inl ⟨rfl, rfl⟩) (by decide) rfl (fun lv el => ?_)
    have l0 := tm_lk el l0 rfl (by decide)
    have l1 := tm_lk el l1 rfl (by decide)
    have l2 := tm_lk el l2 rfl (by decide)
    have l3 := tm_lk el l3 rfl (by decide)
    have l4 := tm_lk el l4 rfl (by decide)
    have l5 := tm_lk el l5 rfl (by decide)
    have l6 := tm_lk el l6 rfl (by decide)
    have l7 : lv.lookup 7 = some (.int 0) := tm_lks el
    clear el
    refine m_ild (pc' := 115) cd_Mo_takeList rfl (Or.inl ⟨rfl, rfl⟩) l7 rfl ?_
    refine m_if1 (t := 121) (pc' := 118) cd_Mo_takeList rfl rfl rfl (fun c115 => ?_) (fun c115 => ?_)
    · exact absurd (show ¬ (0 : Int32) = 0 from c115) (by decide)
    · have c115 : (0 : Int32) = 0 := Classical.not_not.mp c115
      refine m_k2 (v := (-16)) (pc' := 120) cd_Mo_takeList rfl (by decide) rfl ?_
      exact m_reti cd_Mo_takeList rfl ⟨_, rfl, (kN (fun q => q.1 (nI_cxl (by omega) (by omega) c33)))⟩
  · have c33 : ¬ (nI q) = (nI g) := c33
    refine m_ald (pc' := 37) cd_Mo_takeList rfl (Or.inr ⟨_, rfl, rfl, rfl⟩) l0 rfl rfl ?_
    refine m_fR (r := 1) (a := 2) (ad := 1484) (pc' := 40) rfl rfl cd_Mo_takeList rfl rfl rfl rfl rfl ?_
    refine m_ild (pc' := 41) cd_Mo_takeList rfl (Or.inr ⟨_, rfl, rfl, rfl⟩) l2 rfl ?_
    refine m_aI (r := 1) (a := 2) (g := (A 2)) (x := ((A 2) ti)) (pc' := 42) rfl rfl cd_Mo_takeList rfl rfl rfl (vp_in_nI (by omega) (by decide)) (congrArg (A 2) (nI_clamp (by omega))) ?_
    refine m_ald (pc' := 43) cd_Mo_takeList rfl (Or.inr ⟨_, rfl, rfl, rfl⟩) l0 rfl rfl ?_
    refine m_fR (r := 15) (a := 16) (ad := 1498) (pc' := 46) rfl rfl cd_Mo_takeList rfl rfl rfl rfl rfl ?_
    refine m_ild (pc' := 48) cd_Mo_takeList rfl (Or.inl ⟨rfl, rfl⟩) l4 rfl ?_
    refine m_aI (r := 15) (a := 16) (g := (A 16)) (x := ((A 16) g)) (pc' := 49) rfl rfl cd_Mo_takeList rfl rfl rfl (vp_in_nI (by omega) (by decide)) (congrArg (A 16) (nI_clamp (by omega))) ?_
    refine m_if2 (t := 110) (pc' := 52) cd_Mo_takeList rfl rfl rfl (fun c49 => ?_) (fun c49 => ?_)
    · have c49 : ¬ ((A 2) ti) = ((A 16) g) := c49
      refine m_k1 (v := 0) (pc' := 111) cd_Mo_takeList rfl (by decide) rfl ?_
      refine m_ist (pc' := 113) cd_Mo_takeList rfl (Or.inl ⟨rfl, rfl⟩) (by decide) rfl (fun lv el => ?_)
      have l0 := tm_lk el l0 rfl (by decide)
      have l1 := tm_lk el l1 rfl (by decide)
      have l2 := tm_lk el l2 rfl (by decide)
      have l3 := tm_lk el l3 rfl (by decide)
      have l4 := tm_lk el l4 rfl (by decide)
      have l5 := tm_lk el l5 rfl (by decide)
      have l6 := tm_lk el l6 rfl (by decide)
      have l7 : lv.lookup 7 = some (.int 0) := tm_lks el
      clear el
      refine m_ild (pc' := 115) cd_Mo_takeList rfl (Or.inl ⟨rfl, rfl⟩) l7 rfl ?_
      refine m_if1 (t := 121) (pc' := 118) cd_Mo_takeList rfl rfl rfl (fun c115 => ?_) (fun c115 => ?_)
      · exact absurd (show ¬ (0 : Int32) = 0 from c115) (by decide)
      · have c115 : (0 : Int32) = 0 := Classical.not_not.mp c115
        refine m_k2 (v := (-16)) (pc' := 120) cd_Mo_takeList rfl (by decide) rfl ?_
        exact m_reti cd_Mo_takeList rfl ⟨_, rfl, (kN (fun q => c49 ((MT_eq hM h0 (hid g (by omega))).mpr q.2.1)))⟩
    · have c49 : ((A 2) ti) = ((A 16) g) := Classical.not_not.mp c49
      refine m_ald (pc' := 53) cd_Mo_takeList rfl (Or.inr ⟨_, rfl, rfl, rfl⟩) l0 rfl rfl ?_
      refine m_ild (pc' := 54) cd_Mo_takeList rfl (Or.inr ⟨_, rfl, rfl, rfl⟩) l3 rfl ?_
      refine m_k1 (v := 1) (pc' := 55) cd_Mo_takeList rfl (by decide) rfl ?_
      refine m_ci (pc' := 58) cd_Mo_takeList rfl rfl rfl rfl rfl cd_Mo_cell rfl (Nat.le_of_ble_eq_true rfl) (m_cellN (k := 1) hM hH k7 (by decide) ?_)
      show mg _ _ _ 58 _ [.int (nu (pt X 1) 1)] _ _
      refine m_ald (pc' := 59) cd_Mo_takeList rfl (Or.inr ⟨_, rfl, rfl, rfl⟩) l0 rfl rfl ?_
      refine m_fR (r := 14) (a := 15) (ad := 1497) (pc' := 62) rfl rfl cd_Mo_takeList rfl rfl rfl rfl rfl ?_
      refine m_ild (pc' := 64) cd_Mo_takeList rfl (Or.inl ⟨rfl, rfl⟩) l6 rfl ?_
      refine m_k1 (v := 0) (pc' := 65) cd_Mo_takeList rfl (by decide) rfl ?_
      refine m_pure (pc' := 66) (st' := [.int ((nI (486 + g * 279)) + 0), .ref 1497, .int (nu (pt X 1) 1)]) cd_Mo_takeList rfl rfl (fun _ _ => rfl) ?_
      refine m_eq (show ((nI (486 + g * 279)) + 0 : Int32) = nI ((486 + g * 279) + 0) from nI_add (486 + g * 279) 0) ?_
      refine m_aI (r := 14) (a := 15) (g := (A 15)) (x := ve) (pc' := 67) rfl rfl cd_Mo_takeList rfl rfl rfl (vp_in_nI (by omega) (by decide)) (by rw [(nI_clamp (by omega))]; exact hve) ?_
      refine m_if2 (t := 110) (pc' := 70) cd_Mo_takeList rfl rfl rfl (fun c67 => ?_) (fun c67 => ?_)
      · have c67 : (nu (pt X 1) 1) ≤ ve := c67
        refine m_k1 (v := 0) (pc' := 111) cd_Mo_takeList rfl (by decide) rfl ?_
        refine m_ist (pc' := 113) cd_Mo_takeList rfl (Or.inl ⟨rfl, rfl⟩) (by decide) rfl (fun lv el => ?_)
        have l0 := tm_lk el l0 rfl (by decide)
        have l1 := tm_lk el l1 rfl (by decide)
        have l2 := tm_lk el l2 rfl (by decide)
        have l3 := tm_lk el l3 rfl (by decide)
        have l4 := tm_lk el l4 rfl (by decide)
        have l5 := tm_lk el l5 rfl (by decide)
        have l6 := tm_lk el l6 rfl (by decide)
        have l7 : lv.lookup 7 = some (.int 0) := tm_lks el
        clear el
        refine m_ild (pc' := 115) cd_Mo_takeList rfl (Or.inl ⟨rfl, rfl⟩) l7 rfl ?_
        refine m_if1 (t := 121) (pc' := 118) cd_Mo_takeList rfl rfl rfl (fun c115 => ?_) (fun c115 => ?_)
        · exact absurd (show ¬ (0 : Int32) = 0 from c115) (by decide)
        · have c115 : (0 : Int32) = 0 := Classical.not_not.mp c115
          refine m_k2 (v := (-16)) (pc' := 120) cd_Mo_takeList rfl (by decide) rfl ?_
          exact m_reti cd_Mo_takeList rfl ⟨_, rfl, (kN (fun q => q.2.2.1 c67))⟩
      · have c67 : ¬ (nu (pt X 1) 1) ≤ ve := c67
        refine m_ild (pc' := 72) cd_Mo_takeList rfl (Or.inl ⟨rfl, rfl⟩) l5 rfl ?_
        refine m_ild (pc' := 74) cd_Mo_takeList rfl (Or.inl ⟨rfl, rfl⟩) l4 rfl ?_
        refine m_pure (pc' := 75) (st' := [.int ((nu (pt X 1) 2) >>> ((nI g) &&& 31))]) cd_Mo_takeList rfl rfl (fun _ _ => rfl) ?_
        refine m_k1 (v := 1) (pc' := 76) cd_Mo_takeList rfl (by decide) rfl ?_
        refine m_pure (pc' := 77) (st' := [.int (((nu (pt X 1) 2) >>> ((nI g) &&& 31)) &&& 1)]) cd_Mo_takeList rfl rfl (fun _ _ => rfl) ?_
        refine m_k1 (v := 1) (pc' := 78) cd_Mo_takeList rfl (by decide) rfl ?_
        refine m_if2 (t := 110) (pc' := 81) cd_Mo_takeList rfl rfl rfl (fun c78 => ?_) (fun c78 => ?_)
        · have c78 : ¬ (((nu (pt X 1) 2) >>> ((nI g) &&& 31)) &&& 1) = 1 := c78
          refine m_k1 (v := 0) (pc' := 111) cd_Mo_takeList rfl (by decide) rfl ?_
          refine m_ist (pc' := 113) cd_Mo_takeList rfl (Or.inl ⟨rfl, rfl⟩) (by decide) rfl (fun lv el => ?_)
          have l0 := tm_lk el l0 rfl (by decide)
          have l1 := tm_lk el l1 rfl (by decide)
          have l2 := tm_lk el l2 rfl (by decide)
          have l3 := tm_lk el l3 rfl (by decide)
          have l4 := tm_lk el l4 rfl (by decide)
          have l5 := tm_lk el l5 rfl (by decide)
          have l6 := tm_lk el l6 rfl (by decide)
          have l7 : lv.lookup 7 = some (.int 0) := tm_lks el
          clear el
          refine m_ild (pc' := 115) cd_Mo_takeList rfl (Or.inl ⟨rfl, rfl⟩) l7 rfl ?_
          refine m_if1 (t := 121) (pc' := 118) cd_Mo_takeList rfl rfl rfl (fun c115 => ?_) (fun c115 => ?_)
          · exact absurd (show ¬ (0 : Int32) = 0 from c115) (by decide)
          · have c115 : (0 : Int32) = 0 := Classical.not_not.mp c115
            refine m_k2 (v := (-16)) (pc' := 120) cd_Mo_takeList rfl (by decide) rfl ?_
            exact m_reti cd_Mo_takeList rfl ⟨_, rfl, (kN (fun q => Bool.noConfusion ((hbit_0 c78).symm.trans q.2.2.2.1)))⟩
        · have c78 : (((nu (pt X 1) 2) >>> ((nI g) &&& 31)) &&& 1) = 1 := Classical.not_not.mp c78
          refine m_ild (pc' := 83) cd_Mo_takeList rfl (Or.inl ⟨rfl, rfl⟩) l5 rfl ?_
          refine m_ild (pc' := 84) cd_Mo_takeList rfl (Or.inr ⟨_, rfl, rfl, rfl⟩) l1 rfl ?_
          refine m_pure (pc' := 85) (st' := [.int ((nu (pt X 1) 2) >>> ((nI q) &&& 31))]) cd_Mo_takeList rfl rfl (fun _ _ => rfl) ?_
          refine m_k1 (v := 1) (pc' := 86) cd_Mo_takeList rfl (by decide) rfl ?_
          refine m_pure (pc' := 87) (st' := [.int (((nu (pt X 1) 2) >>> ((nI q) &&& 31)) &&& 1)]) cd_Mo_takeList rfl rfl (fun _ _ => rfl) ?_
          refine m_k1 (v := 1) (pc' := 88) cd_Mo_takeList rfl (by decide) rfl ?_
          refine m_if2 (t := 110) (pc' := 91) cd_Mo_takeList rfl rfl rfl (fun c88 => ?_) (fun c88 => ?_)
          · have c88 : ¬ (((nu (pt X 1) 2) >>> ((nI q) &&& 31)) &&& 1) = 1 := c88
            refine m_k1 (v := 0) (pc' := 111) cd_Mo_takeList rfl (by decide) rfl ?_
            refine m_ist (pc' := 113) cd_Mo_takeList rfl (Or.inl ⟨rfl, rfl⟩) (by decide) rfl (fun lv el => ?_)
            have l0 := tm_lk el l0 rfl (by decide)
            have l1 := tm_lk el l1 rfl (by decide)
            have l2 := tm_lk el l2 rfl (by decide)
            have l3 := tm_lk el l3 rfl (by decide)
            have l4 := tm_lk el l4 rfl (by decide)
            have l5 := tm_lk el l5 rfl (by decide)
            have l6 := tm_lk el l6 rfl (by decide)
            have l7 : lv.lookup 7 = some (.int 0) := tm_lks el
            clear el
            refine m_ild (pc' := 115) cd_Mo_takeList rfl (Or.inl ⟨rfl, rfl⟩) l7 rfl ?_
            refine m_if1 (t := 121) (pc' := 118) cd_Mo_takeList rfl rfl rfl (fun c115 => ?_) (fun c115 => ?_)
            · exact absurd (show ¬ (0 : Int32) = 0 from c115) (by decide)
            · have c115 : (0 : Int32) = 0 := Classical.not_not.mp c115
              refine m_k2 (v := (-16)) (pc' := 120) cd_Mo_takeList rfl (by decide) rfl ?_
              exact m_reti cd_Mo_takeList rfl ⟨_, rfl, (kN (fun q => Bool.noConfusion ((hbit_0 c88).symm.trans q.2.2.2.2.1)))⟩
          · have c88 : (((nu (pt X 1) 2) >>> ((nI q) &&& 31)) &&& 1) = 1 := Classical.not_not.mp c88
            refine m_ild (pc' := 93) cd_Mo_takeList rfl (Or.inl ⟨rfl, rfl⟩) l5 rfl ?_
            refine m_ald (pc' := 94) cd_Mo_takeList rfl (Or.inr ⟨_, rfl, rfl, rfl⟩) l0 rfl rfl ?_
            refine m_fR (r := 14) (a := 15) (ad := 1497) (pc' := 97) rfl rfl cd_Mo_takeList rfl rfl rfl rfl rfl ?_
            refine m_ild (pc' := 99) cd_Mo_takeList rfl (Or.inl ⟨rfl, rfl⟩) l6 rfl ?_
            refine m_k1 (v := 2) (pc' := 100) cd_Mo_takeList rfl (by decide) rfl ?_
            refine m_pure (pc' := 101) (st' := [.int ((nI (486 + g * 279)) + 2), .ref 1497, .int (nu (pt X 1) 2)]) cd_Mo_takeList rfl rfl (fun _ _ => rfl) ?_
            refine m_eq (show ((nI (486 + g * 279)) + 2 : Int32) = nI ((486 + g * 279) + 2) from nI_add (486 + g * 279) 2) ?_
            refine m_aI (r := 14) (a := 15) (g := (A 15)) (x := go) (pc' := 102) rfl rfl cd_Mo_takeList rfl rfl rfl (vp_in_nI (by omega) (by decide)) (by rw [(nI_clamp (by omega))]; exact hgo) ?_
            refine m_pure (pc' := 103) (st' := [.int ((nu (pt X 1) 2) &&& go)]) cd_Mo_takeList rfl rfl (fun _ _ => rfl) ?_
            refine m_if1 (t := 110) (pc' := 106) cd_Mo_takeList rfl rfl rfl (fun c103 => ?_) (fun c103 => ?_)
            · have c103 : ¬ ((nu (pt X 1) 2) &&& go) = 0 := c103
              refine m_k1 (v := 0) (pc' := 111) cd_Mo_takeList rfl (by decide) rfl ?_
              refine m_ist (pc' := 113) cd_Mo_takeList rfl (Or.inl ⟨rfl, rfl⟩) (by decide) rfl (fun lv el => ?_)
              have l0 := tm_lk el l0 rfl (by decide)
              have l1 := tm_lk el l1 rfl (by decide)
              have l2 := tm_lk el l2 rfl (by decide)
              have l3 := tm_lk el l3 rfl (by decide)
              have l4 := tm_lk el l4 rfl (by decide)
              have l5 := tm_lk el l5 rfl (by decide)
              have l6 := tm_lk el l6 rfl (by decide)
              have l7 : lv.lookup 7 = some (.int 0) := tm_lks el
              clear el
              refine m_ild (pc' := 115) cd_Mo_takeList rfl (Or.inl ⟨rfl, rfl⟩) l7 rfl ?_
              refine m_if1 (t := 121) (pc' := 118) cd_Mo_takeList rfl rfl rfl (fun c115 => ?_) (fun c115 => ?_)
              · exact absurd (show ¬ (0 : Int32) = 0 from c115) (by decide)
              · have c115 : (0 : Int32) = 0 := Classical.not_not.mp c115
                refine m_k2 (v := (-16)) (pc' := 120) cd_Mo_takeList rfl (by decide) rfl ?_
                exact m_reti cd_Mo_takeList rfl ⟨_, rfl, (kN (fun q => c103 q.2.2.2.2.2))⟩
            · have c103 : ((nu (pt X 1) 2) &&& go) = 0 := Classical.not_not.mp c103
              refine m_k1 (v := 1) (pc' := 107) cd_Mo_takeList rfl (by decide) rfl ?_
              refine m_pure (pc' := 111) (st' := [.int 1]) cd_Mo_takeList rfl rfl (fun _ _ => rfl) ?_
              refine m_ist (pc' := 113) cd_Mo_takeList rfl (Or.inl ⟨rfl, rfl⟩) (by decide) rfl (fun lv el => ?_)
              have l0 := tm_lk el l0 rfl (by decide)
              have l1 := tm_lk el l1 rfl (by decide)
              have l2 := tm_lk el l2 rfl (by decide)
              have l3 := tm_lk el l3 rfl (by decide)
              have l4 := tm_lk el l4 rfl (by decide)
              have l5 := tm_lk el l5 rfl (by decide)
              have l6 := tm_lk el l6 rfl (by decide)
              have l7 : lv.lookup 7 = some (.int 1) := tm_lks el
              clear el
              refine m_ild (pc' := 115) cd_Mo_takeList rfl (Or.inl ⟨rfl, rfl⟩) l7 rfl ?_
              refine m_if1 (t := 121) (pc' := 118) cd_Mo_takeList rfl rfl rfl (fun c115 => ?_) (fun c115 => ?_)
              · have c115 : ¬ (1 : Int32) = 0 := c115
                refine m_ald (pc' := 122) cd_Mo_takeList rfl (Or.inr ⟨_, rfl, rfl, rfl⟩) l0 rfl rfl ?_
                refine m_ild (pc' := 124) cd_Mo_takeList rfl (Or.inl ⟨rfl, rfl⟩) l4 rfl ?_
                refine m_ald (pc' := 125) cd_Mo_takeList rfl (Or.inr ⟨_, rfl, rfl, rfl⟩) l0 rfl rfl ?_
                refine m_ild (pc' := 126) cd_Mo_takeList rfl (Or.inr ⟨_, rfl, rfl, rfl⟩) l3 rfl ?_
                refine m_k1 (v := 1) (pc' := 127) cd_Mo_takeList rfl (by decide) rfl ?_
                refine m_ci (pc' := 130) cd_Mo_takeList rfl rfl rfl rfl rfl cd_Mo_cell rfl (Nat.le_of_ble_eq_true rfl) (m_cellN (k := 1) hM hH k7 (by decide) ?_)
                show mg _ _ _ 130 _ [.int (nu (pt X 1) 1), .int (nI g), .ref 1482] _ _
                refine m_ild (pc' := 132) cd_Mo_takeList rfl (Or.inl ⟨rfl, rfl⟩) l5 rfl ?_
                refine m_cv (pc' := 135) cd_Mo_takeList rfl rfl rfl rfl rfl cd_Mo_listed rfl (Nat.le_of_ble_eq_true rfl) (m_listed hg hG (fun h hm hf => ?_))
                show mg _ _ _ 135 _ [] _ _
                refine m_k1 (v := 3) (pc' := 136) cd_Mo_takeList rfl (by decide) rfl ?_
                exact m_reti cd_Mo_takeList rfl ⟨_, rfl, (kk ⟨fun e => c33 (by rw [e]), (MT_eq hM h0 (hid g (by omega))).mp c49, c67, hbit_1 c78, hbit_1 c88, c103⟩ h hm hf)⟩
              · exact absurd (show ¬ (¬ (1 : Int32) = 0) from c115) (by decide)
set_option maxRecDepth 100000 in
theorem m_stepMail {sc : tm_X} {d : Nat} {f : Nat → Int32} {A : Nat → Nat → Int32} {T : List Tm} {DL : List (Int32 × Int32)} {G Kw : Tm → Prop} {th ch : Tm} {nn : Nat} {le : List (Tm × Int32 × Tm)} {gen : Int32} {o : Bool} {Q : MS → Prop} (hM : MT f A T DL G Kw) (hl : T.length + 1 ≤ 4000) (hr : rc (A 1) T.length < 1000) (hS : qGv (A 44) T 0 ((th, ch, nI nn, le), gen, o)) (kk : ∀ f1 A1 T1, T <+: T1 → T1.length ≤ T.length + 1 → rc (A1 1) T1.length ≤ rc (A 1) T.length →  MT (mjKf f1 f) (mjKA A1 A) T1 DL G Kw → f1 61 = f 61 → qGv (A1 44) T1 0 ((th, Tmx 7 ch tz, nI (nn + 1), le), gen, o) → Q (mjKf f1 f, mjKA A1 A)) : mGv sc (d + 4) 245 [.ref 1482] (f, A) Q := by
  have hTl := MT_len hM
  have hS2 := hS
  obtain ⟨⟨a1, a2, a3, a4⟩, ⟨a5, a6⟩, a7, a8⟩ := hS
  show mg sc (d + 4) 245 0 [(0, .ref 1482)] [] (f, A) _
  generalize elv : ([(0, .ref 1482)] : tm_L) = lv
  have l0 : lv.lookup 0 = some (.ref 1482) := by rw [← elv]; rfl
  clear elv
  refine m_ald (pc' := 1) cd_Mo_stepMail rfl (Or.inr ⟨_, rfl, rfl, rfl⟩) l0 rfl rfl ?_
  refine m_fR (r := 43) (a := 44) (ad := 1526) (pc' := 4) rfl rfl cd_Mo_stepMail rfl rfl rfl rfl rfl ?_
  refine m_k1 (v := 1) (pc' := 5) cd_Mo_stepMail rfl (by decide) rfl ?_
  refine m_ald (pc' := 6) cd_Mo_stepMail rfl (Or.inr ⟨_, rfl, rfl, rfl⟩) l0 rfl rfl ?_
  refine m_k2 (v := 7) (pc' := 8) cd_Mo_stepMail rfl (by decide) rfl ?_
  refine m_ald (pc' := 9) cd_Mo_stepMail rfl (Or.inr ⟨_, rfl, rfl, rfl⟩) l0 rfl rfl ?_
  refine m_fR (r := 43) (a := 44) (ad := 1526) (pc' := 12) rfl rfl cd_Mo_stepMail rfl rfl rfl rfl rfl ?_
  refine m_k1 (v := 1) (pc' := 13) cd_Mo_stepMail rfl (by decide) rfl ?_
  refine m_aI (r := 43) (a := 44) (g := (A 44)) (x := ((A 44) 1)) (pc' := 14) rfl rfl cd_Mo_stepMail rfl rfl rfl (vp_in_nI (n := 1) (by decide) (by decide)) (congrArg (A 44) (show (1 : Int32).toNatClampNeg = 1 by decide)) ?_
  refine m_k1 (v := 0) (pc' := 15) cd_Mo_stepMail rfl (by decide) rfl ?_
  refine m_ci (pc' := 18) cd_Mo_stepMail rfl rfl rfl rfl rfl cd_Mo_mix rfl (Nat.le_of_ble_eq_true rfl) (m_mix (by exact MT_i hM rfl rfl rfl rfl rfl rfl rfl rfl rfl rfl) (by omega) (by show rc (A 1) T.length < 1000; omega) a2 (MT_z hM) (fun f1 A1 T1 r1 hx1 hr1 => ?_))
  obtain ⟨p1, q1, s1, hM1⟩ := hx1
  have hM1 : MT f1 A1 T1 _ _ _ := MT_i hM1 rfl rfl rfl rfl rfl rfl rfl rfl rfl rfl
  have s1 : rc (A1 1) T1.length ≤ rc (A 1) T.length + 0 := s1
  show mg _ _ _ 18 _ [.int r1, .int 1, .ref 1526] _ _
  refine m_aS (r := 43) (a := 44) (g := (A 44)) (p := 1) (pc' := 19) rfl rfl cd_Mo_stepMail rfl rfl rfl (vp_in_nI (n := 1) (by decide) (by decide)) (show (1 : Int32).toNatClampNeg = 1 by decide) ?_
  refine m_ald (pc' := 20) cd_Mo_stepMail rfl (Or.inr ⟨_, rfl, rfl, rfl⟩) l0 rfl rfl ?_
  refine m_fR (r := 43) (a := 44) (ad := 1526) (pc' := 23) rfl rfl cd_Mo_stepMail rfl rfl rfl rfl rfl ?_
  refine m_k1 (v := 3) (pc' := 24) cd_Mo_stepMail rfl (by decide) rfl ?_
  refine m_pure (pc' := 25) (st' := [.int 3, .ref 1526, .int 3, .ref 1526]) cd_Mo_stepMail rfl rfl (fun _ _ => rfl) ?_
  refine m_aI (r := 43) (a := 44) (g := (upd (A 44) 1 r1)) (x := nI nn) (pc' := 26) rfl rfl cd_Mo_stepMail rfl rfl rfl (vp_in_nI (n := 3) (by decide) (by decide)) (by rw [(show (3 : Int32).toNatClampNeg = 3 by decide), upd_ne (by omega)]; exact a4) ?_
  refine m_k1 (v := 1) (pc' := 27) cd_Mo_stepMail rfl (by decide) rfl ?_
  refine m_pure (pc' := 28) (st' := [.int ((nI nn) + 1), .int 3, .ref 1526]) cd_Mo_stepMail rfl rfl (fun _ _ => rfl) ?_
  refine m_eq (show ((nI nn) + 1 : Int32) = nI (nn + 1) from nI_add nn 1) ?_
  refine m_aS (r := 43) (a := 44) (g := (upd (A 44) 1 r1)) (p := 3) (pc' := 29) rfl rfl cd_Mo_stepMail rfl rfl rfl (vp_in_nI (n := 3) (by decide) (by decide)) (show (3 : Int32).toNatClampNeg = 3 by decide) ?_
  rw [fset_fset]
  have hse : qGv (upd (upd (A 44) 1 r1) 3 (nI (nn + 1))) T1 0 ((th, Tmx 7 ch tz, nI (nn + 1), le), gen, o) := by
    refine qGv_r p1 hS2 (fun k k1 k2 k3 => by rw [upd_ne (by omega), upd_ne (by omega)]) ?_ ?_
    · rw [upd_ne (by omega), upd_same]; exact hr1
    · rw [upd_same]
  exact m_retv cd_Mo_stepMail rfl ⟨rfl, (mK_end (f := f) (A := A) (fun k q => by have e0 : ¬ k = 0 := (by omega); have e7 : ¬ k = 7 := (by omega); have e61 : ¬ k = 61 := (by omega); simp only [fset, mjF, mjKf, e0, e7, e61, or_self, if_false]) (fun j q => by have e0 : ¬ (1 ≤ j ∧ j ≤ 8) := (by omega); have e43 : ¬ j = 43 := (by omega); have e44 : ¬ j = 44 := (by omega); simp only [fset, mjA, mjKA, e0, e43, e44, or_self, if_false]) (kk _ _ _ p1 (by omega) (show rc (A1 1) _ ≤ _ by omega) (by exact MT_i hM1 rfl rfl rfl rfl rfl rfl rfl rfl rfl rfl) rfl hse))⟩
set_option maxRecDepth 100000 in
theorem l_mmail0 {sc : tm_X} {d : Nat} {f : Nat → Int32} {A : Nat → Nat → Int32} {m : Nat} {Q : Option Value → MS → Prop} (kk : ∀ lv : tm_L, lv.lookup 0 = some (.ref 1482) → lv.lookup 1 = some (.int (nI m)) →  mg sc (d + 5) 244 172 lv [] (f, fset A 44 (shW 2 (A 44) 5 19)) Q) : ∀ (r k : Nat), k + r = 14 → ∀ lv : tm_L, lv.lookup 0 = some (.ref 1482) → lv.lookup 1 = some (.int (nI m)) →  lv.lookup 2 = some (.int (nI k)) → mg sc (d + 5) 244 143 lv [] (f, fset A 44 (shW 2 (A 44) 5 (5 + k))) Q := by
  intro r
  induction r with
  | zero =>
    intro k hk lv l0 l1 l2
    have hk2 : k = 14 := by omega
    subst hk2
    refine m_ild (pc' := 144) cd_Mo_mailKey rfl (Or.inr ⟨_, rfl, rfl, rfl⟩) l2 rfl ?_
    refine m_k2 (v := 14) (pc' := 146) cd_Mo_mailKey rfl (by decide) rfl ?_
    refine m_if2 (t := 172) (pc' := 149) cd_Mo_mailKey rfl rfl rfl (fun c146 => ?_) (fun c146 => ?_)
    · have c146 : (14 : Int32) ≤ (nI 14) := c146
      exact kk lv l0 l1
    · have c146 : ¬ (14 : Int32) ≤ (nI 14) := c146
      exact absurd (show (14 : Int32) ≤ nI 14 from by decide) c146
  | succ r ih =>
    intro k hk lv l0 l1 l2
    refine m_ild (pc' := 144) cd_Mo_mailKey rfl (Or.inr ⟨_, rfl, rfl, rfl⟩) l2 rfl ?_
    refine m_k2 (v := 14) (pc' := 146) cd_Mo_mailKey rfl (by decide) rfl ?_
    refine m_if2 (t := 172) (pc' := 149) cd_Mo_mailKey rfl rfl rfl (fun c146 => ?_) (fun c146 => ?_)
    · have c146 : (14 : Int32) ≤ (nI k) := c146
      exact absurd c146 (nI_ge (b := 14) (by omega) (by decide))
    · have c146 : ¬ (14 : Int32) ≤ (nI k) := c146
      refine m_ald (pc' := 150) cd_Mo_mailKey rfl (Or.inr ⟨_, rfl, rfl, rfl⟩) l0 rfl rfl ?_
      refine m_fR (r := 43) (a := 44) (ad := 1526) (pc' := 153) rfl rfl cd_Mo_mailKey rfl rfl rfl rfl rfl ?_
      refine m_k1 (v := 5) (pc' := 154) cd_Mo_mailKey rfl (by decide) rfl ?_
      refine m_ild (pc' := 155) cd_Mo_mailKey rfl (Or.inr ⟨_, rfl, rfl, rfl⟩) l2 rfl ?_
      refine m_pure (pc' := 156) (st' := [.int ((5 : Int32) + (nI k)), .ref 1526]) cd_Mo_mailKey rfl rfl (fun _ _ => rfl) ?_
      refine m_eq (show ((5 : Int32) + (nI k) : Int32) = nI (5 + k) from nI_add 5 k) ?_
      refine m_ald (pc' := 157) cd_Mo_mailKey rfl (Or.inr ⟨_, rfl, rfl, rfl⟩) l0 rfl rfl ?_
      refine m_fR (r := 43) (a := 44) (ad := 1526) (pc' := 160) rfl rfl cd_Mo_mailKey rfl rfl rfl rfl rfl ?_
      refine m_k2 (v := 7) (pc' := 162) cd_Mo_mailKey rfl (by decide) rfl ?_
      refine m_ild (pc' := 163) cd_Mo_mailKey rfl (Or.inr ⟨_, rfl, rfl, rfl⟩) l2 rfl ?_
      refine m_pure (pc' := 164) (st' := [.int ((7 : Int32) + (nI k)), .ref 1526, .int (nI (5 + k)), .ref 1526]) cd_Mo_mailKey rfl rfl (fun _ _ => rfl) ?_
      refine m_eq (show ((7 : Int32) + (nI k) : Int32) = nI (7 + k) from nI_add 7 k) ?_
      refine m_aI (r := 43) (a := 44) (g := (shW 2 (A 44) 5 (5 + k))) (x := (A 44 (5 + k + 2))) (pc' := 165) rfl rfl cd_Mo_mailKey rfl rfl rfl (vp_in_nI (by omega) (by decide)) (by rw [(nI_clamp (by omega)), show 7 + k = 5 + k + 2 by omega, shW_n]) ?_
      refine m_aS (r := 43) (a := 44) (g := (shW 2 (A 44) 5 (5 + k))) (p := (5 + k)) (pc' := 166) rfl rfl cd_Mo_mailKey rfl rfl rfl (vp_in_nI (by omega) (by decide)) (nI_clamp (by omega)) ?_
      refine m_inc (y := nI (k + 1)) (pc' := 169) cd_Mo_mailKey rfl l2 (by decide) (nI_add k 1) rfl (fun lv el => ?_)
      have l0 := tm_lk el l0 rfl (by decide)
      have l1 := tm_lk el l1 rfl (by decide)
      have l2 : lv.lookup 2 = some (.int (nI (k + 1))) := tm_lks el
      clear el
      refine m_pure (pc' := 143) (st' := []) cd_Mo_mailKey rfl rfl (fun _ _ => rfl) ?_
      rw [fset_fset, shW_s 2 (A 44) (by omega), Nat.add_assoc 5 k 1]
      exact ih (k + 1) (by omega) lv l0 l1 l2
set_option maxRecDepth 100000 in
theorem l_mmail1 {sc : tm_X} {d : Nat} {f : Nat → Int32} {A : Nat → Nat → Int32} {T : List Tm} {DL : List (Int32 × Int32)} {G Kw : Tm → Prop} {th ch : Tm} {nn : Nat} {le : List (Tm × Int32 × Tm)} {gen : Int32} {o : Bool} {m : Nat} {Q : Option Value → MS → Prop} (hM : MT f A T DL G Kw) (hl : T.length + 2 ≤ 4000) (hr : rc (A 1) T.length < 1000) (hS : qGv (A 44) T 0 ((th, ch, nI nn, le), gen, o)) (h8 : le.length < 8) (kk : ∀ f1 A1 T1 (lv : tm_L), T <+: T1 → T1.length ≤ T.length + 2 → rc (A1 1) T1.length ≤ rc (A 1) T.length →  MT f1 A1 T1 DL G Kw → (∀ k, ¬ (k = 0 ∨ k = 7 ∨ k = 61) → f1 k = f k) → (∀ j, ¬ ((1 ≤ j ∧ j ≤ 8) ∨ j = 43 ∨ j = 44) → A1 j = A j) → qGv (A1 44) T1 0 ((th, Tmx 7 ch tz, nI (nn + 1), le ++ [(th, nI nn, Tmx 6 ch tz)]), gen, o) → lv.lookup 0 = some (.ref 1482) → lv.lookup 1 = some (.int (nI m)) →  mg sc (d + 5) 244 120 lv [] (f1, A1) Q) : ∀ lv : tm_L, lv.lookup 0 = some (.ref 1482) → lv.lookup 1 = some (.int (nI m)) →  mg sc (d + 5) 244 182 lv [] (f, A) Q := by
  intro lv l0 l1
  have hTl := MT_len hM
  have hS2 := hS
  obtain ⟨⟨a1, a2, a3, a4⟩, ⟨a5, a6⟩, a7, a8⟩ := hS
  have a5 : A 44 (0 + 4) = nI le.length := a5
  refine m_k1 (v := 5) (pc' := 183) cd_Mo_mailKey rfl (by decide) rfl ?_
  refine m_k1 (v := 2) (pc' := 184) cd_Mo_mailKey rfl (by decide) rfl ?_
  refine m_ald (pc' := 185) cd_Mo_mailKey rfl (Or.inr ⟨_, rfl, rfl, rfl⟩) l0 rfl rfl ?_
  refine m_fR (r := 43) (a := 44) (ad := 1526) (pc' := 188) rfl rfl cd_Mo_mailKey rfl rfl rfl rfl rfl ?_
  refine m_k1 (v := 4) (pc' := 189) cd_Mo_mailKey rfl (by decide) rfl ?_
  refine m_aI (r := 43) (a := 44) (g := (A 44)) (x := nI le.length) (pc' := 190) rfl rfl cd_Mo_mailKey rfl rfl rfl (vp_in_nI (n := 4) (by decide) (by decide)) (by rw [(show (4 : Int32).toNatClampNeg = 4 by decide)]; exact a5) ?_
  refine m_pure (pc' := 191) (st' := [.int ((2 : Int32) * (nI le.length)), .int 5]) cd_Mo_mailKey rfl rfl (fun _ _ => rfl) ?_
  refine m_eq (show ((2 : Int32) * (nI le.length) : Int32) = nI (2 * le.length) from pk_mul 2 le.length) ?_
  refine m_pure (pc' := 192) (st' := [.int ((5 : Int32) + (nI (2 * le.length)))]) cd_Mo_mailKey rfl rfl (fun _ _ => rfl) ?_
  refine m_eq (show ((5 : Int32) + (nI (2 * le.length)) : Int32) = nI (5 + (2 * le.length)) from nI_add 5 (2 * le.length)) ?_
  refine m_ist (pc' := 193) cd_Mo_mailKey rfl (Or.inr ⟨_, rfl, rfl, rfl⟩) (by decide) rfl (fun lv el => ?_)
  have l0 := tm_lk el l0 rfl (by decide)
  have l1 := tm_lk el l1 rfl (by decide)
  have l2 : lv.lookup 2 = some (.int (nI (5 + (2 * le.length)))) := tm_lks el
  clear el
  refine m_ald (pc' := 194) cd_Mo_mailKey rfl (Or.inr ⟨_, rfl, rfl, rfl⟩) l0 rfl rfl ?_
  refine m_fR (r := 43) (a := 44) (ad := 1526) (pc' := 197) rfl rfl cd_Mo_mailKey rfl rfl rfl rfl rfl ?_
  refine m_ild (pc' := 198) cd_Mo_mailKey rfl (Or.inr ⟨_, rfl, rfl, rfl⟩) l2 rfl ?_
  refine m_ald (pc' := 199) cd_Mo_mailKey rfl (Or.inr ⟨_, rfl, rfl, rfl⟩) l0 rfl rfl ?_
  refine m_fR (r := 43) (a := 44) (ad := 1526) (pc' := 202) rfl rfl cd_Mo_mailKey rfl rfl rfl rfl rfl ?_
  refine m_k1 (v := 3) (pc' := 203) cd_Mo_mailKey rfl (by decide) rfl ?_
  refine m_aI (r := 43) (a := 44) (g := (A 44)) (x := nI nn) (pc' := 204) rfl rfl cd_Mo_mailKey rfl rfl rfl (vp_in_nI (n := 3) (by decide) (by decide)) (by rw [(show (3 : Int32).toNatClampNeg = 3 by decide)]; exact a4) ?_
  refine m_aS (r := 43) (a := 44) (g := (A 44)) (p := (5 + (2 * le.length))) (pc' := 205) rfl rfl cd_Mo_mailKey rfl rfl rfl (vp_in_nI (by omega) (by decide)) (nI_clamp (by omega)) ?_
  refine m_ald (pc' := 206) cd_Mo_mailKey rfl (Or.inr ⟨_, rfl, rfl, rfl⟩) l0 rfl rfl ?_
  refine m_fR (r := 43) (a := 44) (ad := 1526) (pc' := 209) rfl rfl cd_Mo_mailKey rfl rfl rfl rfl rfl ?_
  refine m_ild (pc' := 210) cd_Mo_mailKey rfl (Or.inr ⟨_, rfl, rfl, rfl⟩) l2 rfl ?_
  refine m_k1 (v := 1) (pc' := 211) cd_Mo_mailKey rfl (by decide) rfl ?_
  refine m_pure (pc' := 212) (st' := [.int ((nI (5 + (2 * le.length))) + 1), .ref 1526]) cd_Mo_mailKey rfl rfl (fun _ _ => rfl) ?_
  refine m_eq (show ((nI (5 + (2 * le.length))) + 1 : Int32) = nI ((5 + (2 * le.length)) + 1) from nI_add (5 + (2 * le.length)) 1) ?_
  refine m_ald (pc' := 213) cd_Mo_mailKey rfl (Or.inr ⟨_, rfl, rfl, rfl⟩) l0 rfl rfl ?_
  refine m_k2 (v := 6) (pc' := 215) cd_Mo_mailKey rfl (by decide) rfl ?_
  refine m_ald (pc' := 216) cd_Mo_mailKey rfl (Or.inr ⟨_, rfl, rfl, rfl⟩) l0 rfl rfl ?_
  refine m_fR (r := 43) (a := 44) (ad := 1526) (pc' := 219) rfl rfl cd_Mo_mailKey rfl rfl rfl rfl rfl ?_
  refine m_k1 (v := 1) (pc' := 220) cd_Mo_mailKey rfl (by decide) rfl ?_
  refine m_aI (r := 43) (a := 44) (g := (upd (A 44) (5 + (2 * le.length)) (nI nn))) (x := ((A 44) 1)) (pc' := 221) rfl rfl cd_Mo_mailKey rfl rfl rfl (vp_in_nI (n := 1) (by decide) (by decide)) (by rw [(show (1 : Int32).toNatClampNeg = 1 by decide), upd_ne (by omega)]) ?_
  refine m_k1 (v := 0) (pc' := 222) cd_Mo_mailKey rfl (by decide) rfl ?_
  refine m_ci (pc' := 225) cd_Mo_mailKey rfl rfl rfl rfl rfl cd_Mo_mix rfl (Nat.le_of_ble_eq_true rfl) (m_mix (by exact MT_i hM rfl rfl rfl rfl rfl rfl rfl rfl rfl rfl) (by omega) (by show rc (A 1) T.length < 1000; omega) a2 (MT_z hM) (fun f1 A1 T1 r1 hx1 hr1 => ?_))
  obtain ⟨p1, q1, s1, hM1⟩ := hx1
  have hM1 : MT f1 A1 T1 _ _ _ := MT_i hM1 rfl rfl rfl rfl rfl rfl rfl rfl rfl rfl
  have s1 : rc (A1 1) T1.length ≤ rc (A 1) T.length + 0 := s1
  show mg _ _ _ 225 _ [.int r1, .int (nI ((5 + (2 * le.length)) + 1)), .ref 1526] _ _
  refine m_aS (r := 43) (a := 44) (g := (upd (A 44) (5 + (2 * le.length)) (nI nn))) (p := ((5 + (2 * le.length)) + 1)) (pc' := 226) rfl rfl cd_Mo_mailKey rfl rfl rfl (vp_in_nI (by omega) (by decide)) (nI_clamp (by omega)) ?_
  refine m_ald (pc' := 227) cd_Mo_mailKey rfl (Or.inr ⟨_, rfl, rfl, rfl⟩) l0 rfl rfl ?_
  refine m_fR (r := 43) (a := 44) (ad := 1526) (pc' := 230) rfl rfl cd_Mo_mailKey rfl rfl rfl rfl rfl ?_
  refine m_k1 (v := 4) (pc' := 231) cd_Mo_mailKey rfl (by decide) rfl ?_
  refine m_pure (pc' := 232) (st' := [.int 4, .ref 1526, .int 4, .ref 1526]) cd_Mo_mailKey rfl rfl (fun _ _ => rfl) ?_
  refine m_aI (r := 43) (a := 44) (g := (upd (upd (A 44) (5 + (2 * le.length)) (nI nn)) ((5 + (2 * le.length)) + 1) r1)) (x := nI le.length) (pc' := 233) rfl rfl cd_Mo_mailKey rfl rfl rfl (vp_in_nI (n := 4) (by decide) (by decide)) (by rw [(show (4 : Int32).toNatClampNeg = 4 by decide), upd_ne (by omega), upd_ne (by omega)]; exact a5) ?_
  refine m_k1 (v := 1) (pc' := 234) cd_Mo_mailKey rfl (by decide) rfl ?_
  refine m_pure (pc' := 235) (st' := [.int ((nI le.length) + 1), .int 4, .ref 1526]) cd_Mo_mailKey rfl rfl (fun _ _ => rfl) ?_
  refine m_eq (show ((nI le.length) + 1 : Int32) = nI (le.length + 1) from nI_add le.length 1) ?_
  refine m_aS (r := 43) (a := 44) (g := (upd (upd (A 44) (5 + (2 * le.length)) (nI nn)) ((5 + (2 * le.length)) + 1) r1)) (p := 4) (pc' := 236) rfl rfl cd_Mo_mailKey rfl rfl rfl (vp_in_nI (n := 4) (by decide) (by decide)) (show (4 : Int32).toNatClampNeg = 4 by decide) ?_
  rw [fset_fset]
  refine m_ald (pc' := 237) cd_Mo_mailKey rfl (Or.inr ⟨_, rfl, rfl, rfl⟩) l0 rfl rfl ?_
  have hq : qGv (upd (upd (upd (A 44) (5 + (2 * le.length)) (nI nn)) ((5 + (2 * le.length)) + 1) r1) 4 (nI (le.length + 1))) T1 0 ((th, ch, nI nn, le ++ [(th, nI nn, Tmx 6 ch tz)]), gen, o) := by
    refine qGv_le p1 hS2 (fun k hk => by rw [upd_ne (by omega), upd_ne (by omega), upd_ne (by omega)]) ?_ (by simp; omega) ?_
    · rw [upd_same]; congr 1; simp
    · refine qGl_push p1 h8 a7 (fun k k1 k2 => by rw [upd_ne (by omega), upd_ne (by omega), upd_ne (by omega)]) ?_ ?_
      · rw [upd_ne (by omega), upd_ne (by omega), upd_same]
      · rw [upd_ne (by omega), upd_same]; exact hr1
  refine m_cv (pc' := 240) cd_Mo_mailKey rfl rfl rfl rfl rfl cd_Mo_stepMail rfl (Nat.le_of_ble_eq_true rfl) (m_stepMail (by exact MT_i hM1 rfl rfl rfl rfl rfl rfl rfl rfl rfl rfl) (by omega) (by show rc (A1 1) T1.length < 1000; omega) hq (fun f2 A2 T2 p2 q2 s2 hM2 _ hq2 => ?_))
  show mg _ _ _ 240 _ [] _ _
  refine m_pure (pc' := 120) (st' := []) cd_Mo_mailKey rfl rfl (fun _ _ => rfl) ?_
  have s2 : rc (A2 1) T2.length ≤ rc (A1 1) T1.length := s2
  exact kk _ _ _ lv (p1.trans p2) (by omega) (show rc (A2 1) _ ≤ _ by omega) hM2 (fun k q => by have e0 : ¬ k = 0 := (by omega); have e7 : ¬ k = 7 := (by omega); have e61 : ¬ k = 61 := (by omega); simp only [fset, mjF, mjKf, e0, e7, e61, or_self, if_false]) (fun j q => by have e0 : ¬ (1 ≤ j ∧ j ≤ 8) := (by omega); have e43 : ¬ j = 43 := (by omega); have e44 : ¬ j = 44 := (by omega); simp only [fset, mjA, mjKA, e0, e43, e44, or_self, if_false]) hq2 l0 l1
set_option maxRecDepth 100000 in
theorem l_mmail {sc : tm_X} {d : Nat} {DL : List (Int32 × Int32)} {G Kw : Tm → Prop} {th : Tm} {gen : Int32} {o : Bool} {m : Nat} {Q : Option Value → MS → Prop} (hm : m ≤ 9999) : ∀ (r : Nat) (f : Nat → Int32) (A : Nat → Nat → Int32) (T : List Tm) (ch : Tm) (nn : Nat) (le : List (Tm × Int32 × Tm)), m ≤ nn + r → nn ≤ 10000 → MT f A T DL G Kw → T.length + 2 * r ≤ 4000 → rc (A 1) T.length < 1000 → qGv (A 44) T 0 ((th, ch, nI nn, le), gen, o) → (∀ f1 A1 T1 (lv : tm_L), T <+: T1 → T1.length ≤ T.length + 2 * r → rc (A1 1) T1.length ≤ rc (A 1) T.length →  MT f1 A1 T1 DL G Kw → (∀ k, ¬ (k = 0 ∨ k = 7 ∨ k = 61) → f1 k = f k) → (∀ j, ¬ ((1 ≤ j ∧ j ≤ 8) ∨ j = 43 ∨ j = 44) → A1 j = A j) → qGv (A1 44) T1 0 (ib_skipN (nI m) r (th, ch, nI nn, le), gen, o) → lv.lookup 0 = some (.ref 1482) → lv.lookup 1 = some (.int (nI m)) →  mg sc (d + 5) 244 243 lv [] (f1, A1) Q) → ∀ lv : tm_L, lv.lookup 0 = some (.ref 1482) → lv.lookup 1 = some (.int (nI m)) →  mg sc (d + 5) 244 120 lv [] (f, A) Q := by
  intro r
  induction r with
  | zero =>
    intro f A T ch nn le hmn hnn hM hl hr hS kk lv l0 l1
    have hTl := MT_len hM
    have hS2 := hS
    obtain ⟨⟨a1, a2, a3, a4⟩, ⟨a5, a6⟩, a7, a8⟩ := hS
    have a4 : A 44 3 = nI nn := a4
    have a5 : A 44 4 = nI le.length := a5
    have a6 : le.length ≤ 8 := a6
    have a7 : qGl (A 44) T 0 le := a7
    refine m_ald (pc' := 121) cd_Mo_mailKey rfl (Or.inr ⟨_, rfl, rfl, rfl⟩) l0 rfl rfl ?_
    refine m_fR (r := 43) (a := 44) (ad := 1526) (pc' := 124) rfl rfl cd_Mo_mailKey rfl rfl rfl rfl rfl ?_
    refine m_k1 (v := 3) (pc' := 125) cd_Mo_mailKey rfl (by decide) rfl ?_
    refine m_aI (r := 43) (a := 44) (g := (A 44)) (x := nI nn) (pc' := 126) rfl rfl cd_Mo_mailKey rfl rfl rfl (vp_in_nI (n := 3) (by decide) (by decide)) (by rw [(show (3 : Int32).toNatClampNeg = 3 by decide)]; exact a4) ?_
    refine m_ild (pc' := 127) cd_Mo_mailKey rfl (Or.inr ⟨_, rfl, rfl, rfl⟩) l1 rfl ?_
    refine m_if2 (t := 243) (pc' := 130) cd_Mo_mailKey rfl rfl rfl (fun c127 => ?_) (fun c127 => ?_)
    · have c127 : (nI m) ≤ (nI nn) := c127
      exact kk f A T lv (List.prefix_refl T) (by omega) (Nat.le_refl _) hM (fun _ _ => rfl) (fun _ _ => rfl) hS2 l0 l1
    · have c127 : ¬ (nI m) ≤ (nI nn) := c127
      exact absurd (nI_le (by omega) (by omega)) c127
  | succ r ih =>
    intro f A T ch nn le hmn hnn hM hl hr hS kk lv l0 l1
    have hTl := MT_len hM
    have hS2 := hS
    obtain ⟨⟨a1, a2, a3, a4⟩, ⟨a5, a6⟩, a7, a8⟩ := hS
    have a4 : A 44 3 = nI nn := a4
    have a5 : A 44 4 = nI le.length := a5
    have a6 : le.length ≤ 8 := a6
    have a7 : qGl (A 44) T 0 le := a7
    refine m_ald (pc' := 121) cd_Mo_mailKey rfl (Or.inr ⟨_, rfl, rfl, rfl⟩) l0 rfl rfl ?_
    refine m_fR (r := 43) (a := 44) (ad := 1526) (pc' := 124) rfl rfl cd_Mo_mailKey rfl rfl rfl rfl rfl ?_
    refine m_k1 (v := 3) (pc' := 125) cd_Mo_mailKey rfl (by decide) rfl ?_
    refine m_aI (r := 43) (a := 44) (g := (A 44)) (x := nI nn) (pc' := 126) rfl rfl cd_Mo_mailKey rfl rfl rfl (vp_in_nI (n := 3) (by decide) (by decide)) (by rw [(show (3 : Int32).toNatClampNeg = 3 by decide)]; exact a4) ?_
    refine m_ild (pc' := 127) cd_Mo_mailKey rfl (Or.inr ⟨_, rfl, rfl, rfl⟩) l1 rfl ?_
    refine m_if2 (t := 243) (pc' := 130) cd_Mo_mailKey rfl rfl rfl (fun c127 => ?_) (fun c127 => ?_)
    · have c127 : (nI m) ≤ (nI nn) := c127
      have es : ib_skipN (nI m) (r + 1) (th, ch, nI nn, le) = (th, ch, nI nn, le) := if_pos c127
      rw [es] at kk
      exact kk f A T lv (List.prefix_refl T) (by omega) (Nat.le_refl _) hM (fun _ _ => rfl) (fun _ _ => rfl) hS2 l0 l1
    · have c127 : ¬ (nI m) ≤ (nI nn) := c127
      refine m_ald (pc' := 131) cd_Mo_mailKey rfl (Or.inr ⟨_, rfl, rfl, rfl⟩) l0 rfl rfl ?_
      refine m_fR (r := 43) (a := 44) (ad := 1526) (pc' := 134) rfl rfl cd_Mo_mailKey rfl rfl rfl rfl rfl ?_
      refine m_k1 (v := 4) (pc' := 135) cd_Mo_mailKey rfl (by decide) rfl ?_
      refine m_aI (r := 43) (a := 44) (g := (A 44)) (x := nI le.length) (pc' := 136) rfl rfl cd_Mo_mailKey rfl rfl rfl (vp_in_nI (n := 4) (by decide) (by decide)) (by rw [(show (4 : Int32).toNatClampNeg = 4 by decide)]; exact a5) ?_
      refine m_k2 (v := 8) (pc' := 138) cd_Mo_mailKey rfl (by decide) rfl ?_
      refine m_if2 (t := 182) (pc' := 141) cd_Mo_mailKey rfl rfl rfl (fun c138 => ?_) (fun c138 => ?_)
      · have c138 : ¬ (nI le.length) = 8 := c138
        have cL : ¬ le.length = 8 := fun q => c138 (by rw [q]; rfl)
        have hnm : nn < m := Nat.lt_of_not_le (fun q => c127 (nI_le q (by omega)))
        have es := (show ib_skipN (nI m) (r + 1) (th, ch, nI nn, le) = ib_skipN (nI m) r (th, Tmx 7 ch tz, nI (nn + 1), le ++ [(th, nI nn, Tmx 6 ch tz)]) from (if_neg c127).trans (by unfold ib_step; rw [if_neg cL]; rw [nI_s1]))
        rw [es] at kk
        refine l_mmail1 (f := f) (A := A) (by exact MT_i hM rfl rfl rfl rfl rfl rfl rfl rfl rfl rfl) (by omega) (by exact hr) hS2 (by omega) (fun f1 A1 T1 lv p1 q1 s1 hM1 ef eA hq1 l0 l1 => ?_) lv l0 l1
        have s1 : rc (A1 1) T1.length ≤ rc (A 1) T.length := s1
        have eA2 : ∀ j, ¬ ((1 ≤ j ∧ j ≤ 8) ∨ j = 43 ∨ j = 44) → A1 j = A j := fun j q => (eA j q)
        refine ih f1 A1 T1 _ (nn + 1) _ (by omega) (by omega) hM1 (by omega) (by omega) hq1 (fun f2 A2 T2 lv p2 q2 s2 hM2 ef2 eA3 hq2 l0 l1 => ?_) lv l0 l1
        exact kk f2 A2 T2 lv (p1.trans p2) (by omega) (by omega) hM2 (fun k q => (ef2 k q).trans (ef k q)) (fun j q => (eA3 j q).trans (eA2 j q)) hq2 l0 l1
      · have c138 : (nI le.length) = 8 := Classical.not_not.mp c138
        refine m_k1 (v := 0) (pc' := 142) cd_Mo_mailKey rfl (by decide) rfl ?_
        refine m_ist (pc' := 143) cd_Mo_mailKey rfl (Or.inr ⟨_, rfl, rfl, rfl⟩) (by decide) rfl (fun lv el => ?_)
        have l0 := tm_lk el l0 rfl (by decide)
        have l1 := tm_lk el l1 rfl (by decide)
        have l2 : lv.lookup 2 = some (.int 0) := tm_lks el
        clear el
        have cL : le.length = 8 := nI_cxl (by omega) (by omega) c138
        rw [show A = fset A 44 (shW 2 (A 44) 5 (5 + 0)) from (by rw [Nat.add_zero, shW_0, fset_id])]
        refine l_mmail0 (fun lv l0 l1 => ?_) 14 0 rfl lv l0 l1 l2
        refine m_ald (pc' := 173) cd_Mo_mailKey rfl (Or.inr ⟨_, rfl, rfl, rfl⟩) l0 rfl rfl ?_
        refine m_fR (r := 43) (a := 44) (ad := 1526) (pc' := 176) rfl rfl cd_Mo_mailKey rfl rfl rfl rfl rfl ?_
        refine m_k1 (v := 4) (pc' := 177) cd_Mo_mailKey rfl (by decide) rfl ?_
        refine m_pure (pc' := 178) (st' := [.int 4, .ref 1526, .int 4, .ref 1526]) cd_Mo_mailKey rfl rfl (fun _ _ => rfl) ?_
        refine m_aI (r := 43) (a := 44) (g := (shW 2 (A 44) 5 19)) (x := 8) (pc' := 179) rfl rfl cd_Mo_mailKey rfl rfl rfl (vp_in_nI (n := 4) (by decide) (by decide)) (by rw [(show (4 : Int32).toNatClampNeg = 4 by decide), shW_out (by omega)]; exact (a5.trans (by rw [cL]; rfl))) ?_
        refine m_k1 (v := 1) (pc' := 180) cd_Mo_mailKey rfl (by decide) rfl ?_
        refine m_pure (pc' := 181) (st' := [.int ((8 : Int32) - 1), .int 4, .ref 1526]) cd_Mo_mailKey rfl rfl (fun _ _ => rfl) ?_
        refine m_eq (show ((8 : Int32) - 1 : Int32) = 7 from by decide) ?_
        refine m_aS (r := 43) (a := 44) (g := (shW 2 (A 44) 5 19)) (p := 4) (pc' := 182) rfl rfl cd_Mo_mailKey rfl rfl rfl (vp_in_nI (n := 4) (by decide) (by decide)) (show (4 : Int32).toNatClampNeg = 4 by decide) ?_
        have hq : qGv (upd (shW 2 (A 44) 5 19) 4 7) T 0 ((th, ch, nI nn, le.drop 1), gen, o) := by
          rw [drop1_era]
          refine qGv_le (List.prefix_refl T) hS2 (fun k hk => by rw [upd_ne (by omega), shW_out (by omega)]) ?_ (by rw [← drop1_era, List.length_drop]; omega) ?_
          · rw [upd_same, ← drop1_era, List.length_drop, cL]; rfl
          · exact qGl_shift (i := 0) (by omega) a7 (fun k k1 k2 => by rw [upd_ne (by omega)])
        rw [fset_fset]
        have hnm : nn < m := Nat.lt_of_not_le (fun q => c127 (nI_le q (by omega)))
        have es := (show ib_skipN (nI m) (r + 1) (th, ch, nI nn, le) = ib_skipN (nI m) r (th, Tmx 7 ch tz, nI (nn + 1), le.drop 1 ++ [(th, nI nn, Tmx 6 ch tz)]) from (if_neg c127).trans (by unfold ib_step; rw [if_pos cL]; rw [nI_s1]))
        rw [es] at kk
        refine l_mmail1 (f := f) (A := (fset A 44 (upd (shW 2 (A 44) 5 19) 4 7))) (by exact MT_i hM rfl rfl rfl rfl rfl rfl rfl rfl rfl rfl) (by omega) (by exact hr) hq (by rw [List.length_drop]; omega) (fun f1 A1 T1 lv p1 q1 s1 hM1 ef eA hq1 l0 l1 => ?_) lv l0 l1
        have s1 : rc (A1 1) T1.length ≤ rc (A 1) T.length := s1
        have eA2 : ∀ j, ¬ ((1 ≤ j ∧ j ≤ 8) ∨ j = 43 ∨ j = 44) → A1 j = A j := fun j q => (eA j q).trans (fset_ne (by omega))
        refine ih f1 A1 T1 _ (nn + 1) _ (by omega) (by omega) hM1 (by omega) (by omega) hq1 (fun f2 A2 T2 lv p2 q2 s2 hM2 ef2 eA3 hq2 l0 l1 => ?_) lv l0 l1
        exact kk f2 A2 T2 lv (p1.trans p2) (by omega) (by omega) hM2 (fun k q => (ef2 k q).trans (ef k q)) (fun j q => (eA3 j q).trans (eA2 j q)) hq2 l0 l1
