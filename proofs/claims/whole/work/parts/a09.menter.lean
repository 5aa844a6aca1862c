/-! The reference: what a device enters -/
theorem en0 {g : Nat → Int32} {T : List Tm} {W : EN2} (h : EN g T (W ++ []) 0) : EN g T W 0 := by rw [List.append_nil] at h; exact h
theorem drop_c {α : Type} {l R : List α} {e : α} {i : Nat} (h : l.drop i = e :: R) : l[i]? = some e ∧ l.drop (i + 1) = R ∧ i < l.length := by
  have h1 : i < l.length := Classical.byContradiction fun q => by
    rw [List.drop_eq_nil_of_le (by omega)] at h; cases h
  rw [List.drop_eq_getElem_cons h1] at h
  injection h with a b
  exact ⟨by rw [List.getElem?_eq_getElem h1, a], b, h1⟩
theorem drop_n {α : Type} {l : List α} {i : Nat} (h : l.drop i = []) : l.length ≤ i := by
  have := congrArg List.length h
  simp at this
  omega
set_option maxRecDepth 100000 in
theorem m_enter {sc : tm_X} {d : Nat} {f : Nat → Int32} {A : Nat → Nat → Int32} {T : List Tm} {x y : Int32} {X Y : Tm} {W : EN2} {g : Nat → Int32} {Q : MS → Prop} (hg : EN g T W 0) (hW : W.length < 600) (hx : tv T x X) (hy : tv T y Y) (kk : ∀ g', EN g' T (W ++ [(X, Y)]) 0 → Q (fset f 38 (nI (W ++ [(X, Y)]).length), fset A 27 g')) : mGv sc (d + 0) 192 [.ref 1482, .int x, .int y] (fset f 38 (nI (W).length), fset A 27 g) Q := by
  have ef : ∀ (f : Nat → Int32) (a b : Int32), fset (fset f 38 a) 38 b = fset f 38 b := fun f a b => fset_fset f 38 a b
  show mg sc (d + 0) 192 0 [(0, .ref 1482), (1, .int x), (2, .int y)] [] (fset f 38 (nI (W).length), fset A 27 g) _
  generalize elv : ([(0, .ref 1482), (1, .int x), (2, .int y)] : tm_L) = lv
  have l0 : lv.lookup 0 = some (.ref 1482) := by rw [← elv]; rfl
  have l1 : lv.lookup 1 = some (.int x) := by rw [← elv]; rfl
  have l2 : lv.lookup 2 = some (.int y) := by rw [← elv]; rfl
  clear elv
  refine m_ald (pc' := 1) cd_Mo_enter rfl (Or.inr ⟨_, rfl, rfl, rfl⟩) l0 rfl rfl ?_
  refine m_fR (r := 26) (a := 27) (ad := 1509) (pc' := 4) rfl rfl cd_Mo_enter rfl rfl rfl rfl rfl ?_
  refine m_k1 (v := 2) (pc' := 5) cd_Mo_enter rfl (by decide) rfl ?_
  refine m_ald (pc' := 6) cd_Mo_enter rfl (Or.inr ⟨_, rfl, rfl, rfl⟩) l0 rfl rfl ?_
  refine m_fI (k := 38) (x := (nI (W).length)) (pc' := 9) cd_Mo_enter rfl rfl rfl rfl rfl rfl ?_
  refine m_pure (pc' := 10) (st' := [.int ((2 : Int32) * (nI (W).length)), .ref 1509]) cd_Mo_enter rfl rfl (fun _ _ => rfl) ?_
  refine m_eq (show ((2 : Int32) * (nI (W).length) : Int32) = nI (2 * (W).length) from pk_mul 2 (W).length) ?_
  refine m_ild (pc' := 11) cd_Mo_enter rfl (Or.inr ⟨_, rfl, rfl, rfl⟩) l1 rfl ?_
  refine m_aS (r := 26) (a := 27) (g := g) (p := (2 * (W).length)) (pc' := 12) rfl rfl cd_Mo_enter rfl rfl rfl (vp_in_nI (by omega) (by decide)) (nI_clamp (by omega)) ?_
  rw [fset_fset]
  refine m_ald (pc' := 13) cd_Mo_enter rfl (Or.inr ⟨_, rfl, rfl, rfl⟩) l0 rfl rfl ?_
  refine m_fR (r := 26) (a := 27) (ad := 1509) (pc' := 16) rfl rfl cd_Mo_enter rfl rfl rfl rfl rfl ?_
  refine m_k1 (v := 2) (pc' := 17) cd_Mo_enter rfl (by decide) rfl ?_
  refine m_ald (pc' := 18) cd_Mo_enter rfl (Or.inr ⟨_, rfl, rfl, rfl⟩) l0 rfl rfl ?_
  refine m_fI (k := 38) (x := (nI (W).length)) (pc' := 21) cd_Mo_enter rfl rfl rfl rfl rfl rfl ?_
  refine m_pure (pc' := 22) (st' := [.int ((2 : Int32) * (nI (W).length)), .ref 1509]) cd_Mo_enter rfl rfl (fun _ _ => rfl) ?_
  refine m_eq (show ((2 : Int32) * (nI (W).length) : Int32) = nI (2 * (W).length) from pk_mul 2 (W).length) ?_
  refine m_k1 (v := 1) (pc' := 23) cd_Mo_enter rfl (by decide) rfl ?_
  refine m_pure (pc' := 24) (st' := [.int ((nI (2 * (W).length)) + 1), .ref 1509]) cd_Mo_enter rfl rfl (fun _ _ => rfl) ?_
  refine m_eq (show ((nI (2 * (W).length)) + 1 : Int32) = nI ((2 * (W).length) + 1) from nI_add (2 * (W).length) 1) ?_
  refine m_ild (pc' := 25) cd_Mo_enter rfl (Or.inr ⟨_, rfl, rfl, rfl⟩) l2 rfl ?_
  refine m_aS (r := 26) (a := 27) (g := (upd g (2 * (W).length) x)) (p := ((2 * (W).length) + 1)) (pc' := 26) rfl rfl cd_Mo_enter rfl rfl rfl (vp_in_nI (by omega) (by decide)) (nI_clamp (by omega)) ?_
  rw [fset_fset]
  refine m_ald (pc' := 27) cd_Mo_enter rfl (Or.inr ⟨_, rfl, rfl, rfl⟩) l0 rfl rfl ?_
  refine m_pure (pc' := 28) (st' := [.ref 1482, .ref 1482]) cd_Mo_enter rfl rfl (fun _ _ => rfl) ?_
  refine m_fI (k := 38) (x := (nI (W).length)) (pc' := 31) cd_Mo_enter rfl rfl rfl rfl rfl rfl ?_
  refine m_k1 (v := 1) (pc' := 32) cd_Mo_enter rfl (by decide) rfl ?_
  refine m_pure (pc' := 33) (st' := [.int ((nI (W).length) + 1), .ref 1482]) cd_Mo_enter rfl rfl (fun _ _ => rfl) ?_
  refine m_eq (show ((nI (W).length) + 1 : Int32) = nI ((W).length + 1) from nI_add (W).length 1) ?_
  refine m_pI (k := 38) (pc' := 36) cd_Mo_enter rfl rfl rfl rfl (by simp [tm_okV, narrow, fits]) rfl rfl ?_
  rw [ef]
  have e : (W ++ [(X, Y)]).length = W.length + 1 := by simp
  rw [e] at kk
  exact m_retv cd_Mo_enter rfl ⟨rfl, (kk _ (EN_push hg hx hy))⟩
set_option maxRecDepth 100000 in
theorem l_enPk {sc : tm_X} {d : Nat} {f : Nat → Int32} {A : Nat → Nat → Int32} {T : List Tm} {DL : List (Int32 × Int32)} {G Kw : Tm → Prop} {a : Nat} {K : PK} {Q : MS → Prop} (hM : MT f A T DL G Kw) (ha : a ≤ 7) (hK : qPk (A 15) T a K) : ∀ (R : List Tm) (i : Nat) (W : EN2) (g : Nat → Int32), K.2.2.drop i = R → EN g T W 0 → W.length + R.length ≤ 600 → (∀ g', EN g' T (W ++ R.map fun X => (X, tz)) 0 → Q (fset f 38 (nI (W ++ R.map fun X => (X, tz)).length), fset A 27 g')) → i ≤ 4 → ∀ lv : tm_L, lv.lookup 0 = some (.ref 1482) → lv.lookup 1 = some (.int (nI a)) → lv.lookup 2 = some (.int (nI i)) → mg sc (d + 1) 193 23 lv [] (fset f 38 (nI (W).length), fset A 27 g) (fun r s' => r = none ∧ Q s') := by
  intro R
  induction R with
  | nil =>
    intro i W g hR hg hW kk hi4 lv l0 l1 l2
    have hl := drop_n hR
    have hl4 := hK.1.2.2.2
    refine m_ild (pc' := 24) cd_Mo_enterPrekey rfl (Or.inr ⟨_, rfl, rfl, rfl⟩) l2 rfl ?_
    refine m_ald (pc' := 25) cd_Mo_enterPrekey rfl (Or.inr ⟨_, rfl, rfl, rfl⟩) l0 rfl rfl ?_
    refine m_fR (r := 14) (a := 15) (ad := 1497) (pc' := 28) rfl rfl cd_Mo_enterPrekey rfl rfl rfl rfl rfl ?_
    refine m_ild (pc' := 29) cd_Mo_enterPrekey rfl (Or.inr ⟨_, rfl, rfl, rfl⟩) l1 rfl ?_
    refine m_k1 (v := 2) (pc' := 30) cd_Mo_enterPrekey rfl (by decide) rfl ?_
    refine m_pure (pc' := 31) (st' := [.int ((nI a) + 2), .ref 1497, .int (nI i)]) cd_Mo_enterPrekey rfl rfl (fun _ _ => rfl) ?_
    refine m_eq (show ((nI a) + 2 : Int32) = nI (a + 2) from nI_add a 2) ?_
    refine m_aI (r := 14) (a := 15) (g := (A 15)) (x := (nI K.2.2.length)) (pc' := 32) rfl rfl cd_Mo_enterPrekey rfl rfl rfl (vp_in_nI (by omega) (by decide)) (by rw [(nI_clamp (by omega))]; exact hK.1.2.2.1) ?_
    refine m_if2 (t := 56) (pc' := 35) cd_Mo_enterPrekey rfl rfl rfl (fun c32 => ?_) (fun c32 => ?_)
    · have c32 : (nI K.2.2.length) ≤ (nI i) := c32
      exact m_retv cd_Mo_enterPrekey rfl ⟨rfl, (by have k2 := kk g; rw [List.map_nil, List.append_nil] at k2; exact k2 hg)⟩
    · have c32 : ¬ (nI K.2.2.length) ≤ (nI i) := c32
      exact absurd (nI_le hl (by omega)) c32
  | cons X R ih =>
    intro i W g hR hg hW kk hi4 lv l0 l1 l2
    obtain ⟨hX, hR2, hil⟩ := drop_c hR
    have hl4 := hK.1.2.2.2
    rw [List.length_cons] at hW
    refine m_ild (pc' := 24) cd_Mo_enterPrekey rfl (Or.inr ⟨_, rfl, rfl, rfl⟩) l2 rfl ?_
    refine m_ald (pc' := 25) cd_Mo_enterPrekey rfl (Or.inr ⟨_, rfl, rfl, rfl⟩) l0 rfl rfl ?_
    refine m_fR (r := 14) (a := 15) (ad := 1497) (pc' := 28) rfl rfl cd_Mo_enterPrekey rfl rfl rfl rfl rfl ?_
    refine m_ild (pc' := 29) cd_Mo_enterPrekey rfl (Or.inr ⟨_, rfl, rfl, rfl⟩) l1 rfl ?_
    refine m_k1 (v := 2) (pc' := 30) cd_Mo_enterPrekey rfl (by decide) rfl ?_
    refine m_pure (pc' := 31) (st' := [.int ((nI a) + 2), .ref 1497, .int (nI i)]) cd_Mo_enterPrekey rfl rfl (fun _ _ => rfl) ?_
    refine m_eq (show ((nI a) + 2 : Int32) = nI (a + 2) from nI_add a 2) ?_
    refine m_aI (r := 14) (a := 15) (g := (A 15)) (x := (nI K.2.2.length)) (pc' := 32) rfl rfl cd_Mo_enterPrekey rfl rfl rfl (vp_in_nI (by omega) (by decide)) (by rw [(nI_clamp (by omega))]; exact hK.1.2.2.1) ?_
    refine m_if2 (t := 56) (pc' := 35) cd_Mo_enterPrekey rfl rfl rfl (fun c32 => ?_) (fun c32 => ?_)
    · have c32 : (nI K.2.2.length) ≤ (nI i) := c32
      exact absurd c32 (nI_ge hil (by omega))
    · have c32 : ¬ (nI K.2.2.length) ≤ (nI i) := c32
      refine m_ald (pc' := 36) cd_Mo_enterPrekey rfl (Or.inr ⟨_, rfl, rfl, rfl⟩) l0 rfl rfl ?_
      refine m_ald (pc' := 37) cd_Mo_enterPrekey rfl (Or.inr ⟨_, rfl, rfl, rfl⟩) l0 rfl rfl ?_
      refine m_fR (r := 14) (a := 15) (ad := 1497) (pc' := 40) rfl rfl cd_Mo_enterPrekey rfl rfl rfl rfl rfl ?_
      refine m_ild (pc' := 41) cd_Mo_enterPrekey rfl (Or.inr ⟨_, rfl, rfl, rfl⟩) l1 rfl ?_
      refine m_k1 (v := 3) (pc' := 42) cd_Mo_enterPrekey rfl (by decide) rfl ?_
      refine m_pure (pc' := 43) (st' := [.int ((nI a) + 3), .ref 1497, .ref 1482]) cd_Mo_enterPrekey rfl rfl (fun _ _ => rfl) ?_
      refine m_eq (show ((nI a) + 3 : Int32) = nI (a + 3) from nI_add a 3) ?_
      refine m_ild (pc' := 44) cd_Mo_enterPrekey rfl (Or.inr ⟨_, rfl, rfl, rfl⟩) l2 rfl ?_
      refine m_pure (pc' := 45) (st' := [.int ((nI (a + 3)) + (nI i)), .ref 1497, .ref 1482]) cd_Mo_enterPrekey rfl rfl (fun _ _ => rfl) ?_
      refine m_eq (show ((nI (a + 3)) + (nI i) : Int32) = nI ((a + 3) + i) from nI_add (a + 3) i) ?_
      refine m_aI (r := 14) (a := 15) (g := (A 15)) (x := ((A 15) ((a + 3) + i))) (pc' := 46) rfl rfl cd_Mo_enterPrekey rfl rfl rfl (vp_in_nI (by omega) (by decide)) (congrArg (A 15) (nI_clamp (by omega))) ?_
      refine m_k1 (v := 0) (pc' := 47) cd_Mo_enterPrekey rfl (by decide) rfl ?_
      refine m_cv (pc' := 50) cd_Mo_enterPrekey rfl rfl rfl rfl rfl cd_Mo_enter rfl (Nat.le_of_ble_eq_true rfl) (m_enter hg (by omega) (hK.2 i X hX) (MT_z hM) (fun g1 hg1 => ?_))
      show mg _ _ _ 50 _ [] _ _
      refine m_inc (y := nI (i + 1)) (pc' := 53) cd_Mo_enterPrekey rfl l2 (by decide) (nI_add i 1) rfl (fun lv el => ?_)
      have l0 := tm_lk el l0 rfl (by decide)
      have l1 := tm_lk el l1 rfl (by decide)
      have l2 : lv.lookup 2 = some (.int (nI (i + 1))) := tm_lks el
      clear el
      refine m_pure (pc' := 23) (st' := []) cd_Mo_enterPrekey rfl rfl (fun _ _ => rfl) ?_
      exact ih (i + 1) (W ++ [(X, tz)]) g1 hR2 hg1 (by simp; omega) (fun g' q => by have k2 := kk g'; rw [List.map_cons, List.append_cons] at k2; exact k2 q) (by omega) lv l0 l1 l2
set_option maxRecDepth 100000 in
theorem m_enPk {sc : tm_X} {d : Nat} {f : Nat → Int32} {A : Nat → Nat → Int32} {T : List Tm} {DL : List (Int32 × Int32)} {G Kw : Tm → Prop} {a : Nat} {K : PK} {W : EN2} {g : Nat → Int32} {Q : MS → Prop} (hM : MT f A T DL G Kw) (ha : a ≤ 7) (hK : qPk (A 15) T a K) (hz : K.1 = tz ↔ K.2.1 = 0) (hg : EN g T W 0) (hW : W.length + (pk_en K).length ≤ 600) (kk : ∀ g', EN g' T (W ++ pk_en K) 0 → Q (fset f 38 (nI (W ++ pk_en K).length), fset A 27 g')) : mGv sc (d + 1) 193 [.ref 1482, .int (nI a)] (fset f 38 (nI (W).length), fset A 27 g) Q := by
  show mg sc (d + 1) 193 0 [(0, .ref 1482), (1, .int (nI a))] [] (fset f 38 (nI (W).length), fset A 27 g) _
  generalize elv : ([(0, .ref 1482), (1, .int (nI a))] : tm_L) = lv
  have l0 : lv.lookup 0 = some (.ref 1482) := by rw [← elv]; rfl
  have l1 : lv.lookup 1 = some (.int (nI a)) := by rw [← elv]; rfl
  clear elv
  refine m_ald (pc' := 1) cd_Mo_enterPrekey rfl (Or.inr ⟨_, rfl, rfl, rfl⟩) l0 rfl rfl ?_
  refine m_fR (r := 14) (a := 15) (ad := 1497) (pc' := 4) rfl rfl cd_Mo_enterPrekey rfl rfl rfl rfl rfl ?_
  refine m_ild (pc' := 5) cd_Mo_enterPrekey rfl (Or.inr ⟨_, rfl, rfl, rfl⟩) l1 rfl ?_
  refine m_aI (r := 14) (a := 15) (g := (A 15)) (x := ((A 15) a)) (pc' := 6) rfl rfl cd_Mo_enterPrekey rfl rfl rfl (vp_in_nI (by omega) (by decide)) (congrArg (A 15) (nI_clamp (by omega))) ?_
  refine m_if1 (t := 10) (pc' := 9) cd_Mo_enterPrekey rfl rfl rfl (fun c6 => ?_) (fun c6 => ?_)
  · have c6 : ¬ ((A 15) a) = 0 := c6
    refine m_ald (pc' := 11) cd_Mo_enterPrekey rfl (Or.inr ⟨_, rfl, rfl, rfl⟩) l0 rfl rfl ?_
    refine m_ald (pc' := 12) cd_Mo_enterPrekey rfl (Or.inr ⟨_, rfl, rfl, rfl⟩) l0 rfl rfl ?_
    refine m_fR (r := 14) (a := 15) (ad := 1497) (pc' := 15) rfl rfl cd_Mo_enterPrekey rfl rfl rfl rfl rfl ?_
    refine m_ild (pc' := 16) cd_Mo_enterPrekey rfl (Or.inr ⟨_, rfl, rfl, rfl⟩) l1 rfl ?_
    refine m_aI (r := 14) (a := 15) (g := (A 15)) (x := ((A 15) a)) (pc' := 17) rfl rfl cd_Mo_enterPrekey rfl rfl rfl (vp_in_nI (by omega) (by decide)) (congrArg (A 15) (nI_clamp (by omega))) ?_
    refine m_k1 (v := 0) (pc' := 18) cd_Mo_enterPrekey rfl (by decide) rfl ?_
    have hKz : ¬ K.2.1 = 0 := fun q => c6 ((MT_0 hM hK.1.1).mpr (hz.mpr q))
    have hpk : pk_en K = (K.1, tz) :: K.2.2.map fun X => (X, tz) := if_neg hKz
    rw [hpk] at kk hW
    rw [List.length_cons, List.length_map] at hW
    refine m_cv (pc' := 21) cd_Mo_enterPrekey rfl rfl rfl rfl rfl cd_Mo_enter rfl (Nat.le_of_ble_eq_true rfl) (m_enter hg (by omega) hK.1.1 (MT_z hM) (fun g1 hg1 => ?_))
    show mg _ _ _ 21 _ [] _ _
    refine m_k1 (v := 0) (pc' := 22) cd_Mo_enterPrekey rfl (by decide) rfl ?_
    refine m_ist (pc' := 23) cd_Mo_enterPrekey rfl (Or.inr ⟨_, rfl, rfl, rfl⟩) (by decide) rfl (fun lv el => ?_)
    have l0 := tm_lk el l0 rfl (by decide)
    have l1 := tm_lk el l1 rfl (by decide)
    have l2 : lv.lookup 2 = some (.int 0) := tm_lks el
    clear el
    exact l_enPk hM ha hK K.2.2 0 (W ++ [(K.1, tz)]) g1 rfl hg1 (by simp; omega) (fun g' q => by have k2 := kk g'; rw [List.append_cons] at k2; exact k2 q) (by omega) lv l0 l1 l2
  · have c6 : ((A 15) a) = 0 := Classical.not_not.mp c6
    exact m_retv cd_Mo_enterPrekey rfl ⟨rfl, (by have k2 := kk g; rw [show pk_en K = [] from if_pos (hz.mp ((MT_0 hM hK.1.1).mp c6)), List.append_nil] at k2; exact k2 hg)⟩
set_option maxRecDepth 100000 in
theorem l_enSe {sc : tm_X} {d : Nat} {f : Nat → Int32} {A : Nat → Nat → Int32} {T : List Tm} {DL : List (Int32 × Int32)} {G Kw : Tm → Prop} {a : Nat} {le : List (Tm × Int32 × Tm)} {Q : MS → Prop} (hM : MT f A T DL G Kw) (ha : a + 38 ≤ 1602) (hle : A 15 (a + 12) = nI le.length ∧ le.length ≤ 8) (hL : qLf (A 15) T a le) : ∀ (R : List (Tm × Int32 × Tm)) (i : Nat) (W : EN2) (g : Nat → Int32), le.drop i = R → EN g T W 0 → W.length + R.length ≤ 600 → (∀ g', EN g' T (W ++ ((R).map fun e => (e.2.2, e.1))) 0 → Q (fset f 38 (nI (W ++ ((R).map fun e => (e.2.2, e.1))).length), fset A 27 g')) → i ≤ 8 → ∀ lv : tm_L, lv.lookup 0 = some (.ref 1482) → lv.lookup 1 = some (.int (nI a)) → lv.lookup 2 = some (.int (nI i)) → mg sc (d + 1) 195 150 lv [] (fset f 38 (nI (W).length), fset A 27 g) (fun r s' => r = none ∧ Q s') := by
  intro R
  induction R with
  | nil =>
    intro i W g hR hg hW kk hi8 lv l0 l1 l2
    have hl := drop_n hR
    have hl8 := hle.2
    refine m_ild (pc' := 151) cd_Mo_enterSession rfl (Or.inr ⟨_, rfl, rfl, rfl⟩) l2 rfl ?_
    refine m_ald (pc' := 152) cd_Mo_enterSession rfl (Or.inr ⟨_, rfl, rfl, rfl⟩) l0 rfl rfl ?_
    refine m_fR (r := 14) (a := 15) (ad := 1497) (pc' := 155) rfl rfl cd_Mo_enterSession rfl rfl rfl rfl rfl ?_
    refine m_ild (pc' := 156) cd_Mo_enterSession rfl (Or.inr ⟨_, rfl, rfl, rfl⟩) l1 rfl ?_
    refine m_k2 (v := 12) (pc' := 158) cd_Mo_enterSession rfl (by decide) rfl ?_
    refine m_pure (pc' := 159) (st' := [.int ((nI a) + 12), .ref 1497, .int (nI i)]) cd_Mo_enterSession rfl rfl (fun _ _ => rfl) ?_
    refine m_eq (show ((nI a) + 12 : Int32) = nI (a + 12) from nI_add a 12) ?_
    refine m_aI (r := 14) (a := 15) (g := (A 15)) (x := (nI le.length)) (pc' := 160) rfl rfl cd_Mo_enterSession rfl rfl rfl (vp_in_nI (by omega) (by decide)) (by rw [(nI_clamp (by omega))]; exact hle.1) ?_
    refine m_if2 (t := 201) (pc' := 163) cd_Mo_enterSession rfl rfl rfl (fun c160 => ?_) (fun c160 => ?_)
    · have c160 : (nI le.length) ≤ (nI i) := c160
      exact m_retv cd_Mo_enterSession rfl ⟨rfl, (by have k2 := kk g; rw [List.map_nil, List.append_nil] at k2; exact k2 hg)⟩
    · have c160 : ¬ (nI le.length) ≤ (nI i) := c160
      exact absurd (nI_le hl (by omega)) c160
  | cons X R ih =>
    intro i W g hR hg hW kk hi8 lv l0 l1 l2
    obtain ⟨hX, hR2, hil⟩ := drop_c hR
    have hl8 := hle.2
    rw [List.length_cons] at hW
    obtain ⟨x1, x2, x3⟩ := hL i X hX
    refine m_ild (pc' := 151) cd_Mo_enterSession rfl (Or.inr ⟨_, rfl, rfl, rfl⟩) l2 rfl ?_
    refine m_ald (pc' := 152) cd_Mo_enterSession rfl (Or.inr ⟨_, rfl, rfl, rfl⟩) l0 rfl rfl ?_
    refine m_fR (r := 14) (a := 15) (ad := 1497) (pc' := 155) rfl rfl cd_Mo_enterSession rfl rfl rfl rfl rfl ?_
    refine m_ild (pc' := 156) cd_Mo_enterSession rfl (Or.inr ⟨_, rfl, rfl, rfl⟩) l1 rfl ?_
    refine m_k2 (v := 12) (pc' := 158) cd_Mo_enterSession rfl (by decide) rfl ?_
    refine m_pure (pc' := 159) (st' := [.int ((nI a) + 12), .ref 1497, .int (nI i)]) cd_Mo_enterSession rfl rfl (fun _ _ => rfl) ?_
    refine m_eq (show ((nI a) + 12 : Int32) = nI (a + 12) from nI_add a 12) ?_
    refine m_aI (r := 14) (a := 15) (g := (A 15)) (x := (nI le.length)) (pc' := 160) rfl rfl cd_Mo_enterSession rfl rfl rfl (vp_in_nI (by omega) (by decide)) (by rw [(nI_clamp (by omega))]; exact hle.1) ?_
    refine m_if2 (t := 201) (pc' := 163) cd_Mo_enterSession rfl rfl rfl (fun c160 => ?_) (fun c160 => ?_)
    · have c160 : (nI le.length) ≤ (nI i) := c160
      exact absurd c160 (nI_ge hil (by omega))
    · have c160 : ¬ (nI le.length) ≤ (nI i) := c160
      refine m_ald (pc' := 164) cd_Mo_enterSession rfl (Or.inr ⟨_, rfl, rfl, rfl⟩) l0 rfl rfl ?_
      refine m_ald (pc' := 165) cd_Mo_enterSession rfl (Or.inr ⟨_, rfl, rfl, rfl⟩) l0 rfl rfl ?_
      refine m_fR (r := 14) (a := 15) (ad := 1497) (pc' := 168) rfl rfl cd_Mo_enterSession rfl rfl rfl rfl rfl ?_
      refine m_ild (pc' := 169) cd_Mo_enterSession rfl (Or.inr ⟨_, rfl, rfl, rfl⟩) l1 rfl ?_
      refine m_k2 (v := 13) (pc' := 171) cd_Mo_enterSession rfl (by decide) rfl ?_
      refine m_pure (pc' := 172) (st' := [.int ((nI a) + 13), .ref 1497, .ref 1482]) cd_Mo_enterSession rfl rfl (fun _ _ => rfl) ?_
      refine m_eq (show ((nI a) + 13 : Int32) = nI (a + 13) from nI_add a 13) ?_
      refine m_k1 (v := 3) (pc' := 173) cd_Mo_enterSession rfl (by decide) rfl ?_
      refine m_ild (pc' := 174) cd_Mo_enterSession rfl (Or.inr ⟨_, rfl, rfl, rfl⟩) l2 rfl ?_
      refine m_pure (pc' := 175) (st' := [.int ((3 : Int32) * (nI i)), .int (nI (a + 13)), .ref 1497, .ref 1482]) cd_Mo_enterSession rfl rfl (fun _ _ => rfl) ?_
      refine m_eq (show ((3 : Int32) * (nI i) : Int32) = nI (3 * i) from pk_mul 3 i) ?_
      refine m_pure (pc' := 176) (st' := [.int ((nI (a + 13)) + (nI (3 * i))), .ref 1497, .ref 1482]) cd_Mo_enterSession rfl rfl (fun _ _ => rfl) ?_
      refine m_eq (show ((nI (a + 13)) + (nI (3 * i)) : Int32) = nI ((a + 13) + (3 * i)) from nI_add (a + 13) (3 * i)) ?_
      refine m_k1 (v := 2) (pc' := 177) cd_Mo_enterSession rfl (by decide) rfl ?_
      refine m_pure (pc' := 178) (st' := [.int ((nI ((a + 13) + (3 * i))) + 2), .ref 1497, .ref 1482]) cd_Mo_enterSession rfl rfl (fun _ _ => rfl) ?_
      refine m_eq (show ((nI ((a + 13) + (3 * i))) + 2 : Int32) = nI (((a + 13) + (3 * i)) + 2) from nI_add ((a + 13) + (3 * i)) 2) ?_
      refine m_aI (r := 14) (a := 15) (g := (A 15)) (x := (A 15 (a + 15 + 3 * i))) (pc' := 179) rfl rfl cd_Mo_enterSession rfl rfl rfl (vp_in_nI (by omega) (by decide)) (by rw [(nI_clamp (by omega))]; congr 1; omega) ?_
      refine m_ald (pc' := 180) cd_Mo_enterSession rfl (Or.inr ⟨_, rfl, rfl, rfl⟩) l0 rfl rfl ?_
      refine m_fR (r := 14) (a := 15) (ad := 1497) (pc' := 183) rfl rfl cd_Mo_enterSession rfl rfl rfl rfl rfl ?_
      refine m_ild (pc' := 184) cd_Mo_enterSession rfl (Or.inr ⟨_, rfl, rfl, rfl⟩) l1 rfl ?_
      refine m_k2 (v := 13) (pc' := 186) cd_Mo_enterSession rfl (by decide) rfl ?_
      refine m_pure (pc' := 187) (st' := [.int ((nI a) + 13), .ref 1497, .int ((A 15 (a + 15 + 3 * i))), .ref 1482]) cd_Mo_enterSession rfl rfl (fun _ _ => rfl) ?_
      refine m_eq (show ((nI a) + 13 : Int32) = nI (a + 13) from nI_add a 13) ?_
      refine m_k1 (v := 3) (pc' := 188) cd_Mo_enterSession rfl (by decide) rfl ?_
      refine m_ild (pc' := 189) cd_Mo_enterSession rfl (Or.inr ⟨_, rfl, rfl, rfl⟩) l2 rfl ?_
      refine m_pure (pc' := 190) (st' := [.int ((3 : Int32) * (nI i)), .int (nI (a + 13)), .ref 1497, .int ((A 15 (a + 15 + 3 * i))), .ref 1482]) cd_Mo_enterSession rfl rfl (fun _ _ => rfl) ?_
      refine m_eq (show ((3 : Int32) * (nI i) : Int32) = nI (3 * i) from pk_mul 3 i) ?_
      refine m_pure (pc' := 191) (st' := [.int ((nI (a + 13)) + (nI (3 * i))), .ref 1497, .int ((A 15 (a + 15 + 3 * i))), .ref 1482]) cd_Mo_enterSession rfl rfl (fun _ _ => rfl) ?_
      refine m_eq (show ((nI (a + 13)) + (nI (3 * i)) : Int32) = nI ((a + 13) + (3 * i)) from nI_add (a + 13) (3 * i)) ?_
      refine m_aI (r := 14) (a := 15) (g := (A 15)) (x := (A 15 (a + 13 + 3 * i))) (pc' := 192) rfl rfl cd_Mo_enterSession rfl rfl rfl (vp_in_nI (by omega) (by decide)) (by rw [(nI_clamp (by omega))]) ?_
      refine m_cv (pc' := 195) cd_Mo_enterSession rfl rfl rfl rfl rfl cd_Mo_enter rfl (Nat.le_of_ble_eq_true rfl) (m_enter hg (by omega) x3 x1 (fun g1 hg1 => ?_))
      show mg _ _ _ 195 _ [] _ _
      refine m_inc (y := nI (i + 1)) (pc' := 198) cd_Mo_enterSession rfl l2 (by decide) (nI_add i 1) rfl (fun lv el => ?_)
      have l0 := tm_lk el l0 rfl (by decide)
      have l1 := tm_lk el l1 rfl (by decide)
      have l2 : lv.lookup 2 = some (.int (nI (i + 1))) := tm_lks el
      clear el
      refine m_pure (pc' := 150) (st' := []) cd_Mo_enterSession rfl rfl (fun _ _ => rfl) ?_
      exact ih (i + 1) (W ++ [(X.2.2, X.1)]) g1 hR2 hg1 (by simp; omega) (fun g' q => by have k2 := kk g'; rw [List.map_cons, List.append_cons] at k2; exact k2 q) (by omega) lv l0 l1 l2
set_option maxRecDepth 100000 in
theorem m_enSe {sc : tm_X} {d : Nat} {f : Nat → Int32} {A : Nat → Nat → Int32} {T : List Tm} {DL : List (Int32 × Int32)} {G Kw : Tm → Prop} {a : Nat} {S : SS} {W : EN2} {g : Nat → Int32} {Q : MS → Prop} (hM : MT f A T DL G Kw) (ha : a + 38 ≤ 1602) (hS : qSe (A 15) T a S) (hg : EN g T W 0) (hW : W.length + (se_en S).length ≤ 600) (kk : ∀ g', EN g' T (W ++ se_en S) 0 → Q (fset f 38 (nI (W ++ se_en S).length), fset A 27 g')) : mGv sc (d + 1) 195 [.ref 1482, .int (nI a)] (fset f 38 (nI (W).length), fset A 27 g) Q := by
  obtain ⟨⟨th, ch, nx, le⟩, ba, ro, mi, sd, n, b, br, bp, bo, on⟩ := S
  obtain ⟨⟨h1, h2, h3, h4, h5, h6⟩, ⟨h7, h8, h9⟩, ⟨h10, h11⟩, h12, h14, h15⟩ := hS
  have hW2 : W.length + 3 + (en_any th).length + (en_any sd).length + (en_any ch).length + (if br = true then [(bp, bo)] else []).length + le.length ≤ 600 := by unfold se_en at hW; simp only [List.length_append, List.length_map, List.length_cons, List.length_nil] at hW; omega
  show mg sc (d + 1) 195 0 [(0, .ref 1482), (1, .int (nI a))] [] (fset f 38 (nI (W).length), fset A 27 g) _
  generalize elv : ([(0, .ref 1482), (1, .int (nI a))] : tm_L) = lv
  have l0 : lv.lookup 0 = some (.ref 1482) := by rw [← elv]; rfl
  have l1 : lv.lookup 1 = some (.int (nI a)) := by rw [← elv]; rfl
  clear elv
  refine m_ald (pc' := 1) cd_Mo_enterSession rfl (Or.inr ⟨_, rfl, rfl, rfl⟩) l0 rfl rfl ?_
  refine m_ald (pc' := 2) cd_Mo_enterSession rfl (Or.inr ⟨_, rfl, rfl, rfl⟩) l0 rfl rfl ?_
  refine m_fR (r := 14) (a := 15) (ad := 1497) (pc' := 5) rfl rfl cd_Mo_enterSession rfl rfl rfl rfl rfl ?_
  refine m_ild (pc' := 6) cd_Mo_enterSession rfl (Or.inr ⟨_, rfl, rfl, rfl⟩) l1 rfl ?_
  refine m_k1 (v := 0) (pc' := 7) cd_Mo_enterSession rfl (by decide) rfl ?_
  refine m_pure (pc' := 8) (st' := [.int ((nI a) + 0), .ref 1497, .ref 1482]) cd_Mo_enterSession rfl rfl (fun _ _ => rfl) ?_
  refine m_eq (show ((nI a) + 0 : Int32) = nI (a + 0) from nI_add a 0) ?_
  refine m_aI (r := 14) (a := 15) (g := (A 15)) (x := ((A 15) (a + 0))) (pc' := 9) rfl rfl cd_Mo_enterSession rfl rfl rfl (vp_in_nI (by omega) (by decide)) (congrArg (A 15) (nI_clamp (by omega))) ?_
  refine m_k1 (v := 0) (pc' := 10) cd_Mo_enterSession rfl (by decide) rfl ?_
  refine m_cv (pc' := 13) cd_Mo_enterSession rfl rfl rfl rfl rfl cd_Mo_enter rfl (Nat.le_of_ble_eq_true rfl) (m_enter hg (by (try simp only [List.length_append, List.length_cons, List.length_nil]); omega) h1 (MT_z hM) (fun g1 hg1 => ?_))
  show mg _ _ _ 13 _ [] _ _
  refine m_ald (pc' := 14) cd_Mo_enterSession rfl (Or.inr ⟨_, rfl, rfl, rfl⟩) l0 rfl rfl ?_
  refine m_ald (pc' := 15) cd_Mo_enterSession rfl (Or.inr ⟨_, rfl, rfl, rfl⟩) l0 rfl rfl ?_
  refine m_fR (r := 14) (a := 15) (ad := 1497) (pc' := 18) rfl rfl cd_Mo_enterSession rfl rfl rfl rfl rfl ?_
  refine m_ild (pc' := 19) cd_Mo_enterSession rfl (Or.inr ⟨_, rfl, rfl, rfl⟩) l1 rfl ?_
  refine m_k1 (v := 1) (pc' := 20) cd_Mo_enterSession rfl (by decide) rfl ?_
  refine m_pure (pc' := 21) (st' := [.int ((nI a) + 1), .ref 1497, .ref 1482]) cd_Mo_enterSession rfl rfl (fun _ _ => rfl) ?_
  refine m_eq (show ((nI a) + 1 : Int32) = nI (a + 1) from nI_add a 1) ?_
  refine m_aI (r := 14) (a := 15) (g := (A 15)) (x := ((A 15) (a + 1))) (pc' := 22) rfl rfl cd_Mo_enterSession rfl rfl rfl (vp_in_nI (by omega) (by decide)) (congrArg (A 15) (nI_clamp (by omega))) ?_
  refine m_k1 (v := 0) (pc' := 23) cd_Mo_enterSession rfl (by decide) rfl ?_
  refine m_cv (pc' := 26) cd_Mo_enterSession rfl rfl rfl rfl rfl cd_Mo_enter rfl (Nat.le_of_ble_eq_true rfl) (m_enter hg1 (by (try simp only [List.length_append, List.length_cons, List.length_nil]); omega) h2 (MT_z hM) (fun g2 hg2 => ?_))
  show mg _ _ _ 26 _ [] _ _
  refine m_ald (pc' := 27) cd_Mo_enterSession rfl (Or.inr ⟨_, rfl, rfl, rfl⟩) l0 rfl rfl ?_
  refine m_ald (pc' := 28) cd_Mo_enterSession rfl (Or.inr ⟨_, rfl, rfl, rfl⟩) l0 rfl rfl ?_
  refine m_fR (r := 14) (a := 15) (ad := 1497) (pc' := 31) rfl rfl cd_Mo_enterSession rfl rfl rfl rfl rfl ?_
  refine m_ild (pc' := 32) cd_Mo_enterSession rfl (Or.inr ⟨_, rfl, rfl, rfl⟩) l1 rfl ?_
  refine m_k1 (v := 2) (pc' := 33) cd_Mo_enterSession rfl (by decide) rfl ?_
  refine m_pure (pc' := 34) (st' := [.int ((nI a) + 2), .ref 1497, .ref 1482]) cd_Mo_enterSession rfl rfl (fun _ _ => rfl) ?_
  refine m_eq (show ((nI a) + 2 : Int32) = nI (a + 2) from nI_add a 2) ?_
  refine m_aI (r := 14) (a := 15) (g := (A 15)) (x := ((A 15) (a + 2))) (pc' := 35) rfl rfl cd_Mo_enterSession rfl rfl rfl (vp_in_nI (by omega) (by decide)) (congrArg (A 15) (nI_clamp (by omega))) ?_
  refine m_k1 (v := 0) (pc' := 36) cd_Mo_enterSession rfl (by decide) rfl ?_
  refine m_cv (pc' := 39) cd_Mo_enterSession rfl rfl rfl rfl rfl cd_Mo_enter rfl (Nat.le_of_ble_eq_true rfl) (m_enter hg2 (by (try simp only [List.length_append, List.length_cons, List.length_nil]); omega) h3 (MT_z hM) (fun g3 hg3 => ?_))
  show mg _ _ _ 39 _ [] _ _
  refine m_ald (pc' := 40) cd_Mo_enterSession rfl (Or.inr ⟨_, rfl, rfl, rfl⟩) l0 rfl rfl ?_
  refine m_fR (r := 14) (a := 15) (ad := 1497) (pc' := 43) rfl rfl cd_Mo_enterSession rfl rfl rfl rfl rfl ?_
  refine m_ild (pc' := 44) cd_Mo_enterSession rfl (Or.inr ⟨_, rfl, rfl, rfl⟩) l1 rfl ?_
  refine m_k1 (v := 3) (pc' := 45) cd_Mo_enterSession rfl (by decide) rfl ?_
  refine m_pure (pc' := 46) (st' := [.int ((nI a) + 3), .ref 1497]) cd_Mo_enterSession rfl rfl (fun _ _ => rfl) ?_
  refine m_eq (show ((nI a) + 3 : Int32) = nI (a + 3) from nI_add a 3) ?_
  refine m_aI (r := 14) (a := 15) (g := (A 15)) (x := ((A 15) (a + 3))) (pc' := 47) rfl rfl cd_Mo_enterSession rfl rfl rfl (vp_in_nI (by omega) (by decide)) (congrArg (A 15) (nI_clamp (by omega))) ?_
  refine m_if1 (t := 63) (pc' := 50) cd_Mo_enterSession rfl rfl rfl (fun c47 => ?_) (fun c47 => ?_)
  · have c47 : ((A 15) (a + 3)) = 0 := c47
    refine m_ald (pc' := 64) cd_Mo_enterSession rfl (Or.inr ⟨_, rfl, rfl, rfl⟩) l0 rfl rfl ?_
    refine m_fR (r := 14) (a := 15) (ad := 1497) (pc' := 67) rfl rfl cd_Mo_enterSession rfl rfl rfl rfl rfl ?_
    refine m_ild (pc' := 68) cd_Mo_enterSession rfl (Or.inr ⟨_, rfl, rfl, rfl⟩) l1 rfl ?_
    refine m_k1 (v := 4) (pc' := 69) cd_Mo_enterSession rfl (by decide) rfl ?_
    refine m_pure (pc' := 70) (st' := [.int ((nI a) + 4), .ref 1497]) cd_Mo_enterSession rfl rfl (fun _ _ => rfl) ?_
    refine m_eq (show ((nI a) + 4 : Int32) = nI (a + 4) from nI_add a 4) ?_
    refine m_aI (r := 14) (a := 15) (g := (A 15)) (x := ((A 15) (a + 4))) (pc' := 71) rfl rfl cd_Mo_enterSession rfl rfl rfl (vp_in_nI (by omega) (by decide)) (congrArg (A 15) (nI_clamp (by omega))) ?_
    refine m_if1 (t := 87) (pc' := 74) cd_Mo_enterSession rfl rfl rfl (fun c71 => ?_) (fun c71 => ?_)
    · have c71 : ((A 15) (a + 4)) = 0 := c71
      refine m_ald (pc' := 88) cd_Mo_enterSession rfl (Or.inr ⟨_, rfl, rfl, rfl⟩) l0 rfl rfl ?_
      refine m_fR (r := 14) (a := 15) (ad := 1497) (pc' := 91) rfl rfl cd_Mo_enterSession rfl rfl rfl rfl rfl ?_
      refine m_ild (pc' := 92) cd_Mo_enterSession rfl (Or.inr ⟨_, rfl, rfl, rfl⟩) l1 rfl ?_
      refine m_k2 (v := 7) (pc' := 94) cd_Mo_enterSession rfl (by decide) rfl ?_
      refine m_pure (pc' := 95) (st' := [.int ((nI a) + 7), .ref 1497]) cd_Mo_enterSession rfl rfl (fun _ _ => rfl) ?_
      refine m_eq (show ((nI a) + 7 : Int32) = nI (a + 7) from nI_add a 7) ?_
      refine m_aI (r := 14) (a := 15) (g := (A 15)) (x := ((A 15) (a + 7))) (pc' := 96) rfl rfl cd_Mo_enterSession rfl rfl rfl (vp_in_nI (by omega) (by decide)) (congrArg (A 15) (nI_clamp (by omega))) ?_
      refine m_if1 (t := 113) (pc' := 99) cd_Mo_enterSession rfl rfl rfl (fun c96 => ?_) (fun c96 => ?_)
      · have c96 : ((A 15) (a + 7)) = 0 := c96
        refine m_ald (pc' := 114) cd_Mo_enterSession rfl (Or.inr ⟨_, rfl, rfl, rfl⟩) l0 rfl rfl ?_
        refine m_fR (r := 14) (a := 15) (ad := 1497) (pc' := 117) rfl rfl cd_Mo_enterSession rfl rfl rfl rfl rfl ?_
        refine m_ild (pc' := 118) cd_Mo_enterSession rfl (Or.inr ⟨_, rfl, rfl, rfl⟩) l1 rfl ?_
        refine m_k2 (v := 9) (pc' := 120) cd_Mo_enterSession rfl (by decide) rfl ?_
        refine m_pure (pc' := 121) (st' := [.int ((nI a) + 9), .ref 1497]) cd_Mo_enterSession rfl rfl (fun _ _ => rfl) ?_
        refine m_eq (show ((nI a) + 9 : Int32) = nI (a + 9) from nI_add a 9) ?_
        refine m_aI (r := 14) (a := 15) (g := (A 15)) (x := ((A 15) (a + 9))) (pc' := 122) rfl rfl cd_Mo_enterSession rfl rfl rfl (vp_in_nI (by omega) (by decide)) (congrArg (A 15) (nI_clamp (by omega))) ?_
        refine m_k1 (v := 1) (pc' := 123) cd_Mo_enterSession rfl (by decide) rfl ?_
        refine m_if2 (t := 148) (pc' := 126) cd_Mo_enterSession rfl rfl rfl (fun c123 => ?_) (fun c123 => ?_)
        · have c123 : ¬ ((A 15) (a + 9)) = 1 := c123
          refine m_k1 (v := 0) (pc' := 149) cd_Mo_enterSession rfl (by decide) rfl ?_
          refine m_ist (pc' := 150) cd_Mo_enterSession rfl (Or.inr ⟨_, rfl, rfl, rfl⟩) (by decide) rfl (fun lv el => ?_)
          have l0 := tm_lk el l0 rfl (by decide)
          have l1 := tm_lk el l1 rfl (by decide)
          have l2 : lv.lookup 2 = some (.int 0) := tm_lks el
          clear el
          have n4 : en_any th = [] := if_pos (tnil_iff.mpr ((MT_0 hM h4).mp c47))
          have n5 : en_any sd = [] := if_pos (tnil_iff.mpr ((MT_0 hM h5).mp c71))
          have n6 : en_any ch = [] := if_pos (tnil_iff.mpr ((MT_0 hM h6).mp c96))
          have hbr : br = false := by
            cases br
            · rfl
            · exact absurd h10 c123
          refine l_enSe hM ha h12 h14 le 0 (((W ++ [(ba, tz)]) ++ [(ro, tz)]) ++ [(mi, tz)]) g3 rfl hg3 (by simp only [List.length_append, List.length_cons, List.length_nil]; omega) (fun g' q => ?_) (by omega) lv l0 l1 l2
          have k2 := kk g'
          unfold se_en at k2
          dsimp only at k2
          rw [n4, n5, n6, hbr] at k2
          simp only [List.append_assoc, List.cons_append, List.nil_append, List.append_nil, if_true, Bool.false_eq_true, if_false] at k2 q ⊢
          exact k2 q
        · have c123 : ((A 15) (a + 9)) = 1 := Classical.not_not.mp c123
          refine m_ald (pc' := 127) cd_Mo_enterSession rfl (Or.inr ⟨_, rfl, rfl, rfl⟩) l0 rfl rfl ?_
          refine m_ald (pc' := 128) cd_Mo_enterSession rfl (Or.inr ⟨_, rfl, rfl, rfl⟩) l0 rfl rfl ?_
          refine m_fR (r := 14) (a := 15) (ad := 1497) (pc' := 131) rfl rfl cd_Mo_enterSession rfl rfl rfl rfl rfl ?_
          refine m_ild (pc' := 132) cd_Mo_enterSession rfl (Or.inr ⟨_, rfl, rfl, rfl⟩) l1 rfl ?_
          refine m_k2 (v := 10) (pc' := 134) cd_Mo_enterSession rfl (by decide) rfl ?_
          refine m_pure (pc' := 135) (st' := [.int ((nI a) + 10), .ref 1497, .ref 1482]) cd_Mo_enterSession rfl rfl (fun _ _ => rfl) ?_
          refine m_eq (show ((nI a) + 10 : Int32) = nI (a + 10) from nI_add a 10) ?_
          refine m_aI (r := 14) (a := 15) (g := (A 15)) (x := ((A 15) (a + 10))) (pc' := 136) rfl rfl cd_Mo_enterSession rfl rfl rfl (vp_in_nI (by omega) (by decide)) (congrArg (A 15) (nI_clamp (by omega))) ?_
          refine m_ald (pc' := 137) cd_Mo_enterSession rfl (Or.inr ⟨_, rfl, rfl, rfl⟩) l0 rfl rfl ?_
          refine m_fR (r := 14) (a := 15) (ad := 1497) (pc' := 140) rfl rfl cd_Mo_enterSession rfl rfl rfl rfl rfl ?_
          refine m_ild (pc' := 141) cd_Mo_enterSession rfl (Or.inr ⟨_, rfl, rfl, rfl⟩) l1 rfl ?_
          refine m_k2 (v := 11) (pc' := 143) cd_Mo_enterSession rfl (by decide) rfl ?_
          refine m_pure (pc' := 144) (st' := [.int ((nI a) + 11), .ref 1497, .int (((A 15) (a + 10))), .ref 1482]) cd_Mo_enterSession rfl rfl (fun _ _ => rfl) ?_
          refine m_eq (show ((nI a) + 11 : Int32) = nI (a + 11) from nI_add a 11) ?_
          refine m_aI (r := 14) (a := 15) (g := (A 15)) (x := ((A 15) (a + 11))) (pc' := 145) rfl rfl cd_Mo_enterSession rfl rfl rfl (vp_in_nI (by omega) (by decide)) (congrArg (A 15) (nI_clamp (by omega))) ?_
          have hbr : br = true := by
            cases br
            · exact absurd (h10.symm.trans c123) (by decide)
            · rfl
          have h1011 := h11 hbr
          rw [if_pos hbr] at hW2
          simp only [List.length_cons, List.length_nil] at hW2
          refine m_cv (pc' := 148) cd_Mo_enterSession rfl rfl rfl rfl rfl cd_Mo_enter rfl (Nat.le_of_ble_eq_true rfl) (m_enter hg3 (by (try simp only [List.length_append, List.length_cons, List.length_nil]); omega) h1011.1 h1011.2 (fun g4 hg4 => ?_))
          show mg _ _ _ 148 _ [] _ _
          refine m_k1 (v := 0) (pc' := 149) cd_Mo_enterSession rfl (by decide) rfl ?_
          refine m_ist (pc' := 150) cd_Mo_enterSession rfl (Or.inr ⟨_, rfl, rfl, rfl⟩) (by decide) rfl (fun lv el => ?_)
          have l0 := tm_lk el l0 rfl (by decide)
          have l1 := tm_lk el l1 rfl (by decide)
          have l2 : lv.lookup 2 = some (.int 0) := tm_lks el
          clear el
          have n4 : en_any th = [] := if_pos (tnil_iff.mpr ((MT_0 hM h4).mp c47))
          have n5 : en_any sd = [] := if_pos (tnil_iff.mpr ((MT_0 hM h5).mp c71))
          have n6 : en_any ch = [] := if_pos (tnil_iff.mpr ((MT_0 hM h6).mp c96))
          refine l_enSe hM ha h12 h14 le 0 ((((W ++ [(ba, tz)]) ++ [(ro, tz)]) ++ [(mi, tz)]) ++ [(bp, bo)]) g4 rfl hg4 (by simp only [List.length_append, List.length_cons, List.length_nil]; omega) (fun g' q => ?_) (by omega) lv l0 l1 l2
          have k2 := kk g'
          unfold se_en at k2
          dsimp only at k2
          rw [n4, n5, n6, hbr] at k2
          simp only [List.append_assoc, List.cons_append, List.nil_append, List.append_nil, if_true, Bool.false_eq_true, if_false] at k2 q ⊢
          exact k2 q
      · have c96 : ¬ ((A 15) (a + 7)) = 0 := c96
        refine m_ald (pc' := 100) cd_Mo_enterSession rfl (Or.inr ⟨_, rfl, rfl, rfl⟩) l0 rfl rfl ?_
        refine m_ald (pc' := 101) cd_Mo_enterSession rfl (Or.inr ⟨_, rfl, rfl, rfl⟩) l0 rfl rfl ?_
        refine m_fR (r := 14) (a := 15) (ad := 1497) (pc' := 104) rfl rfl cd_Mo_enterSession rfl rfl rfl rfl rfl ?_
        refine m_ild (pc' := 105) cd_Mo_enterSession rfl (Or.inr ⟨_, rfl, rfl, rfl⟩) l1 rfl ?_
        refine m_k2 (v := 7) (pc' := 107) cd_Mo_enterSession rfl (by decide) rfl ?_
        refine m_pure (pc' := 108) (st' := [.int ((nI a) + 7), .ref 1497, .ref 1482]) cd_Mo_enterSession rfl rfl (fun _ _ => rfl) ?_
        refine m_eq (show ((nI a) + 7 : Int32) = nI (a + 7) from nI_add a 7) ?_
        refine m_aI (r := 14) (a := 15) (g := (A 15)) (x := ((A 15) (a + 7))) (pc' := 109) rfl rfl cd_Mo_enterSession rfl rfl rfl (vp_in_nI (by omega) (by decide)) (congrArg (A 15) (nI_clamp (by omega))) ?_
        refine m_k1 (v := 0) (pc' := 110) cd_Mo_enterSession rfl (by decide) rfl ?_
        have n6 : en_any ch = [(ch, tz)] := if_neg (by rw [Bool.eq_false_iff.mpr (fun q => c96 ((MT_0 hM h6).mpr (tnil_iff.mp q)))]; decide)
        rw [n6] at hW2
        simp only [List.length_cons, List.length_nil] at hW2
        refine m_cv (pc' := 113) cd_Mo_enterSession rfl rfl rfl rfl rfl cd_Mo_enter rfl (Nat.le_of_ble_eq_true rfl) (m_enter hg3 (by (try simp only [List.length_append, List.length_cons, List.length_nil]); omega) h6 (MT_z hM) (fun g5 hg5 => ?_))
        show mg _ _ _ 113 _ [] _ _
        refine m_ald (pc' := 114) cd_Mo_enterSession rfl (Or.inr ⟨_, rfl, rfl, rfl⟩) l0 rfl rfl ?_
        refine m_fR (r := 14) (a := 15) (ad := 1497) (pc' := 117) rfl rfl cd_Mo_enterSession rfl rfl rfl rfl rfl ?_
        refine m_ild (pc' := 118) cd_Mo_enterSession rfl (Or.inr ⟨_, rfl, rfl, rfl⟩) l1 rfl ?_
        refine m_k2 (v := 9) (pc' := 120) cd_Mo_enterSession rfl (by decide) rfl ?_
        refine m_pure (pc' := 121) (st' := [.int ((nI a) + 9), .ref 1497]) cd_Mo_enterSession rfl rfl (fun _ _ => rfl) ?_
        refine m_eq (show ((nI a) + 9 : Int32) = nI (a + 9) from nI_add a 9) ?_
        refine m_aI (r := 14) (a := 15) (g := (A 15)) (x := ((A 15) (a + 9))) (pc' := 122) rfl rfl cd_Mo_enterSession rfl rfl rfl (vp_in_nI (by omega) (by decide)) (congrArg (A 15) (nI_clamp (by omega))) ?_
        refine m_k1 (v := 1) (pc' := 123) cd_Mo_enterSession rfl (by decide) rfl ?_
        refine m_if2 (t := 148) (pc' := 126) cd_Mo_enterSession rfl rfl rfl (fun c123 => ?_) (fun c123 => ?_)
        · have c123 : ¬ ((A 15) (a + 9)) = 1 := c123
          refine m_k1 (v := 0) (pc' := 149) cd_Mo_enterSession rfl (by decide) rfl ?_
          refine m_ist (pc' := 150) cd_Mo_enterSession rfl (Or.inr ⟨_, rfl, rfl, rfl⟩) (by decide) rfl (fun lv el => ?_)
          have l0 := tm_lk el l0 rfl (by decide)
          have l1 := tm_lk el l1 rfl (by decide)
          have l2 : lv.lookup 2 = some (.int 0) := tm_lks el
          clear el
          have n4 : en_any th = [] := if_pos (tnil_iff.mpr ((MT_0 hM h4).mp c47))
          have n5 : en_any sd = [] := if_pos (tnil_iff.mpr ((MT_0 hM h5).mp c71))
          have hbr : br = false := by
            cases br
            · rfl
            · exact absurd h10 c123
          refine l_enSe hM ha h12 h14 le 0 ((((W ++ [(ba, tz)]) ++ [(ro, tz)]) ++ [(mi, tz)]) ++ [(ch, tz)]) g5 rfl hg5 (by simp only [List.length_append, List.length_cons, List.length_nil]; omega) (fun g' q => ?_) (by omega) lv l0 l1 l2
          have k2 := kk g'
          unfold se_en at k2
          dsimp only at k2
          rw [n4, n5, n6, hbr] at k2
          simp only [List.append_assoc, List.cons_append, List.nil_append, List.append_nil, if_true, Bool.false_eq_true, if_false] at k2 q ⊢
          exact k2 q
        · have c123 : ((A 15) (a + 9)) = 1 := Classical.not_not.mp c123
          refine m_ald (pc' := 127) cd_Mo_enterSession rfl (Or.inr ⟨_, rfl, rfl, rfl⟩) l0 rfl rfl ?_
          refine m_ald (pc' := 128) cd_Mo_enterSession rfl (Or.inr ⟨_, rfl, rfl, rfl⟩) l0 rfl rfl ?_
          refine m_fR (r := 14) (a := 15) (ad := 1497) (pc' := 131) rfl rfl cd_Mo_enterSession rfl rfl rfl rfl rfl ?_
          refine m_ild (pc' := 132) cd_Mo_enterSession rfl (Or.inr ⟨_, rfl, rfl, rfl⟩) l1 rfl ?_
          refine m_k2 (v := 10) (pc' := 134) cd_Mo_enterSession rfl (by decide) rfl ?_
          refine m_pure (pc' := 135) (st' := [.int ((nI a) + 10), .ref 1497, .ref 1482]) cd_Mo_enterSession rfl rfl (fun _ _ => rfl) ?_
          refine m_eq (show ((nI a) + 10 : Int32) = nI (a + 10) from nI_add a 10) ?_
          refine m_aI (r := 14) (a := 15) (g := (A 15)) (x := ((A 15) (a + 10))) (pc' := 136) rfl rfl cd_Mo_enterSession rfl rfl rfl (vp_in_nI (by omega) (by decide)) (congrArg (A 15) (nI_clamp (by omega))) ?_
          refine m_ald (pc' := 137) cd_Mo_enterSession rfl (Or.inr ⟨_, rfl, rfl, rfl⟩) l0 rfl rfl ?_
          refine m_fR (r := 14) (a := 15) (ad := 1497) (pc' := 140) rfl rfl cd_Mo_enterSession rfl rfl rfl rfl rfl ?_
          refine m_ild (pc' := 141) cd_Mo_enterSession rfl (Or.inr ⟨_, rfl, rfl, rfl⟩) l1 rfl ?_
          refine m_k2 (v := 11) (pc' := 143) cd_Mo_enterSession rfl (by decide) rfl ?_
          refine m_pure (pc' := 144) (st' := [.int ((nI a) + 11), .ref 1497, .int (((A 15) (a + 10))), .ref 1482]) cd_Mo_enterSession rfl rfl (fun _ _ => rfl) ?_
          refine m_eq (show ((nI a) + 11 : Int32) = nI (a + 11) from nI_add a 11) ?_
          refine m_aI (r := 14) (a := 15) (g := (A 15)) (x := ((A 15) (a + 11))) (pc' := 145) rfl rfl cd_Mo_enterSession rfl rfl rfl (vp_in_nI (by omega) (by decide)) (congrArg (A 15) (nI_clamp (by omega))) ?_
          have hbr : br = true := by
            cases br
            · exact absurd (h10.symm.trans c123) (by decide)
            · rfl
          have h1011 := h11 hbr
          rw [if_pos hbr] at hW2
          simp only [List.length_cons, List.length_nil] at hW2
          refine m_cv (pc' := 148) cd_Mo_enterSession rfl rfl rfl rfl rfl cd_Mo_enter rfl (Nat.le_of_ble_eq_true rfl) (m_enter hg5 (by (try simp only [List.length_append, List.length_cons, List.length_nil]); omega) h1011.1 h1011.2 (fun g6 hg6 => ?_))
          show mg _ _ _ 148 _ [] _ _
          refine m_k1 (v := 0) (pc' := 149) cd_Mo_enterSession rfl (by decide) rfl ?_
          refine m_ist (pc' := 150) cd_Mo_enterSession rfl (Or.inr ⟨_, rfl, rfl, rfl⟩) (by decide) rfl (fun lv el => ?_)
          have l0 := tm_lk el l0 rfl (by decide)
          have l1 := tm_lk el l1 rfl (by decide)
          have l2 : lv.lookup 2 = some (.int 0) := tm_lks el
          clear el
          have n4 : en_any th = [] := if_pos (tnil_iff.mpr ((MT_0 hM h4).mp c47))
          have n5 : en_any sd = [] := if_pos (tnil_iff.mpr ((MT_0 hM h5).mp c71))
          refine l_enSe hM ha h12 h14 le 0 (((((W ++ [(ba, tz)]) ++ [(ro, tz)]) ++ [(mi, tz)]) ++ [(ch, tz)]) ++ [(bp, bo)]) g6 rfl hg6 (by simp only [List.length_append, List.length_cons, List.length_nil]; omega) (fun g' q => ?_) (by omega) lv l0 l1 l2
          have k2 := kk g'
          unfold se_en at k2
          dsimp only at k2
          rw [n4, n5, n6, hbr] at k2
          simp only [List.append_assoc, List.cons_append, List.nil_append, List.append_nil, if_true, Bool.false_eq_true, if_false] at k2 q ⊢
          exact k2 q
    · have c71 : ¬ ((A 15) (a + 4)) = 0 := c71
      refine m_ald (pc' := 75) cd_Mo_enterSession rfl (Or.inr ⟨_, rfl, rfl, rfl⟩) l0 rfl rfl ?_
      refine m_ald (pc' := 76) cd_Mo_enterSession rfl (Or.inr ⟨_, rfl, rfl, rfl⟩) l0 rfl rfl ?_
      refine m_fR (r := 14) (a := 15) (ad := 1497) (pc' := 79) rfl rfl cd_Mo_enterSession rfl rfl rfl rfl rfl ?_
      refine m_ild (pc' := 80) cd_Mo_enterSession rfl (Or.inr ⟨_, rfl, rfl, rfl⟩) l1 rfl ?_
      refine m_k1 (v := 4) (pc' := 81) cd_Mo_enterSession rfl (by decide) rfl ?_
      refine m_pure (pc' := 82) (st' := [.int ((nI a) + 4), .ref 1497, .ref 1482]) cd_Mo_enterSession rfl rfl (fun _ _ => rfl) ?_
      refine m_eq (show ((nI a) + 4 : Int32) = nI (a + 4) from nI_add a 4) ?_
      refine m_aI (r := 14) (a := 15) (g := (A 15)) (x := ((A 15) (a + 4))) (pc' := 83) rfl rfl cd_Mo_enterSession rfl rfl rfl (vp_in_nI (by omega) (by decide)) (congrArg (A 15) (nI_clamp (by omega))) ?_
      refine m_k1 (v := 0) (pc' := 84) cd_Mo_enterSession rfl (by decide) rfl ?_
      have n5 : en_any sd = [(sd, tz)] := if_neg (by rw [Bool.eq_false_iff.mpr (fun q => c71 ((MT_0 hM h5).mpr (tnil_iff.mp q)))]; decide)
      rw [n5] at hW2
      simp only [List.length_cons, List.length_nil] at hW2
      refine m_cv (pc' := 87) cd_Mo_enterSession rfl rfl rfl rfl rfl cd_Mo_enter rfl (Nat.le_of_ble_eq_true rfl) (m_enter hg3 (by (try simp only [List.length_append, List.length_cons, List.length_nil]); omega) h5 (MT_z hM) (fun g7 hg7 => ?_))
      show mg _ _ _ 87 _ [] _ _
      refine m_ald (pc' := 88) cd_Mo_enterSession rfl (Or.inr ⟨_, rfl, rfl, rfl⟩) l0 rfl rfl ?_
      refine m_fR (r := 14) (a := 15) (ad := 1497) (pc' := 91) rfl rfl cd_Mo_enterSession rfl rfl rfl rfl rfl ?_
      refine m_ild (pc' := 92) cd_Mo_enterSession rfl (Or.inr ⟨_, rfl, rfl, rfl⟩) l1 rfl ?_
      refine m_k2 (v := 7) (pc' := 94) cd_Mo_enterSession rfl (by decide) rfl ?_
      refine m_pure (pc' := 95) (st' := [.int ((nI a) + 7), .ref 1497]) cd_Mo_enterSession rfl rfl (fun _ _ => rfl) ?_
      refine m_eq (show ((nI a) + 7 : Int32) = nI (a + 7) from nI_add a 7) ?_
      refine m_aI (r := 14) (a := 15) (g := (A 15)) (x := ((A 15) (a + 7))) (pc' := 96) rfl rfl cd_Mo_enterSession rfl rfl rfl (vp_in_nI (by omega) (by decide)) (congrArg (A 15) (nI_clamp (by omega))) ?_
      refine m_if1 (t := 113) (pc' := 99) cd_Mo_enterSession rfl rfl rfl (fun c96 => ?_) (fun c96 => ?_)
      · have c96 : ((A 15) (a + 7)) = 0 := c96
        refine m_ald (pc' := 114) cd_Mo_enterSession rfl (Or.inr ⟨_, rfl, rfl, rfl⟩) l0 rfl rfl ?_
        refine m_fR (r := 14) (a := 15) (ad := 1497) (pc' := 117) rfl rfl cd_Mo_enterSession rfl rfl rfl rfl rfl ?_
        refine m_ild (pc' := 118) cd_Mo_enterSession rfl (Or.inr ⟨_, rfl, rfl, rfl⟩) l1 rfl ?_
        refine m_k2 (v := 9) (pc' := 120) cd_Mo_enterSession rfl (by decide) rfl ?_
        refine m_pure (pc' := 121) (st' := [.int ((nI a) + 9), .ref 1497]) cd_Mo_enterSession rfl rfl (fun _ _ => rfl) ?_
        refine m_eq (show ((nI a) + 9 : Int32) = nI (a + 9) from nI_add a 9) ?_
        refine m_aI (r := 14) (a := 15) (g := (A 15)) (x := ((A 15) (a + 9))) (pc' := 122) rfl rfl cd_Mo_enterSession rfl rfl rfl (vp_in_nI (by omega) (by decide)) (congrArg (A 15) (nI_clamp (by omega))) ?_
        refine m_k1 (v := 1) (pc' := 123) cd_Mo_enterSession rfl (by decide) rfl ?_
        refine m_if2 (t := 148) (pc' := 126) cd_Mo_enterSession rfl rfl rfl (fun c123 => ?_) (fun c123 => ?_)
        · have c123 : ¬ ((A 15) (a + 9)) = 1 := c123
          refine m_k1 (v := 0) (pc' := 149) cd_Mo_enterSession rfl (by decide) rfl ?_
          refine m_ist (pc' := 150) cd_Mo_enterSession rfl (Or.inr ⟨_, rfl, rfl, rfl⟩) (by decide) rfl (fun lv el => ?_)
          have l0 := tm_lk el l0 rfl (by decide)
          have l1 := tm_lk el l1 rfl (by decide)
          have l2 : lv.lookup 2 = some (.int 0) := tm_lks el
          clear el
          have n4 : en_any th = [] := if_pos (tnil_iff.mpr ((MT_0 hM h4).mp c47))
          have n6 : en_any ch = [] := if_pos (tnil_iff.mpr ((MT_0 hM h6).mp c96))
          have hbr : br = false := by
            cases br
            · rfl
            · exact absurd h10 c123
          refine l_enSe hM ha h12 h14 le 0 ((((W ++ [(ba, tz)]) ++ [(ro, tz)]) ++ [(mi, tz)]) ++ [(sd, tz)]) g7 rfl hg7 (by simp only [List.length_append, List.length_cons, List.length_nil]; omega) (fun g' q => ?_) (by omega) lv l0 l1 l2
          have k2 := kk g'
          unfold se_en at k2
          dsimp only at k2
          rw [n4, n5, n6, hbr] at k2
          simp only [List.append_assoc, List.cons_append, List.nil_append, List.append_nil, if_true, Bool.false_eq_true, if_false] at k2 q ⊢
          exact k2 q
        · have c123 : ((A 15) (a + 9)) = 1 := Classical.not_not.mp c123
          refine m_ald (pc' := 127) cd_Mo_enterSession rfl (Or.inr ⟨_, rfl, rfl, rfl⟩) l0 rfl rfl ?_
          refine m_ald (pc' := 128) cd_Mo_enterSession rfl (Or.inr ⟨_, rfl, rfl, rfl⟩) l0 rfl rfl ?_
          refine m_fR (r := 14) (a := 15) (ad := 1497) (pc' := 131) rfl rfl cd_Mo_enterSession rfl rfl rfl rfl rfl ?_
          refine m_ild (pc' := 132) cd_Mo_enterSession rfl (Or.inr ⟨_, rfl, rfl, rfl⟩) l1 rfl ?_
          refine m_k2 (v := 10) (pc' := 134) cd_Mo_enterSession rfl (by decide) rfl ?_
          refine m_pure (pc' := 135) (st' := [.int ((nI a) + 10), .ref 1497, .ref 1482]) cd_Mo_enterSession rfl rfl (fun _ _ => rfl) ?_
          refine m_eq (show ((nI a) + 10 : Int32) = nI (a + 10) from nI_add a 10) ?_
          refine m_aI (r := 14) (a := 15) (g := (A 15)) (x := ((A 15) (a + 10))) (pc' := 136) rfl rfl cd_Mo_enterSession rfl rfl rfl (vp_in_nI (by omega) (by decide)) (congrArg (A 15) (nI_clamp (by omega))) ?_
          refine m_ald (pc' := 137) cd_Mo_enterSession rfl (Or.inr ⟨_, rfl, rfl, rfl⟩) l0 rfl rfl ?_
          refine m_fR (r := 14) (a := 15) (ad := 1497) (pc' := 140) rfl rfl cd_Mo_enterSession rfl rfl rfl rfl rfl ?_
          refine m_ild (pc' := 141) cd_Mo_enterSession rfl (Or.inr ⟨_, rfl, rfl, rfl⟩) l1 rfl ?_
          refine m_k2 (v := 11) (pc' := 143) cd_Mo_enterSession rfl (by decide) rfl ?_
          refine m_pure (pc' := 144) (st' := [.int ((nI a) + 11), .ref 1497, .int (((A 15) (a + 10))), .ref 1482]) cd_Mo_enterSession rfl rfl (fun _ _ => rfl) ?_
          refine m_eq (show ((nI a) + 11 : Int32) = nI (a + 11) from nI_add a 11) ?_
          refine m_aI (r := 14) (a := 15) (g := (A 15)) (x := ((A 15) (a + 11))) (pc' := 145) rfl rfl cd_Mo_enterSession rfl rfl rfl (vp_in_nI (by omega) (by decide)) (congrArg (A 15) (nI_clamp (by omega))) ?_
          have hbr : br = true := by
            cases br
            · exact absurd (h10.symm.trans c123) (by decide)
            · rfl
          have h1011 := h11 hbr
          rw [if_pos hbr] at hW2
          simp only [List.length_cons, List.length_nil] at hW2
          refine m_cv (pc' := 148) cd_Mo_enterSession rfl rfl rfl rfl rfl cd_Mo_enter rfl (Nat.le_of_ble_eq_true rfl) (m_enter hg7 (by (try simp only [List.length_append, List.length_cons, List.length_nil]); omega) h1011.1 h1011.2 (fun g8 hg8 => ?_))
          show mg _ _ _ 148 _ [] _ _
          refine m_k1 (v := 0) (pc' := 149) cd_Mo_enterSession rfl (by decide) rfl ?_
          refine m_ist (pc' := 150) cd_Mo_enterSession rfl (Or.inr ⟨_, rfl, rfl, rfl⟩) (by decide) rfl (fun lv el => ?_)
          have l0 := tm_lk el l0 rfl (by decide)
          have l1 := tm_lk el l1 rfl (by decide)
          have l2 : lv.lookup 2 = some (.int 0) := tm_lks el
          clear el
          have n4 : en_any th = [] := if_pos (tnil_iff.mpr ((MT_0 hM h4).mp c47))
          have n6 : en_any ch = [] := if_pos (tnil_iff.mpr ((MT_0 hM h6).mp c96))
          refine l_enSe hM ha h12 h14 le 0 (((((W ++ [(ba, tz)]) ++ [(ro, tz)]) ++ [(mi, tz)]) ++ [(sd, tz)]) ++ [(bp, bo)]) g8 rfl hg8 (by simp only [List.length_append, List.length_cons, List.length_nil]; omega) (fun g' q => ?_) (by omega) lv l0 l1 l2
          have k2 := kk g'
          unfold se_en at k2
          dsimp only at k2
          rw [n4, n5, n6, hbr] at k2
          simp only [List.append_assoc, List.cons_append, List.nil_append, List.append_nil, if_true, Bool.false_eq_true, if_false] at k2 q ⊢
          exact k2 q
      · have c96 : ¬ ((A 15) (a + 7)) = 0 := c96
        refine m_ald (pc' := 100) cd_Mo_enterSession rfl (Or.inr ⟨_, rfl, rfl, rfl⟩) l0 rfl rfl ?_
        refine m_ald (pc' := 101) cd_Mo_enterSession rfl (Or.inr ⟨_, rfl, rfl, rfl⟩) l0 rfl rfl ?_
        refine m_fR (r := 14) (a := 15) (ad := 1497) (pc' := 104) rfl rfl cd_Mo_enterSession rfl rfl rfl rfl rfl ?_
        refine m_ild (pc' := 105) cd_Mo_enterSession rfl (Or.inr ⟨_, rfl, rfl, rfl⟩) l1 rfl ?_
        refine m_k2 (v := 7) (pc' := 107) cd_Mo_enterSession rfl (by decide) rfl ?_
        refine m_pure (pc' := 108) (st' := [.int ((nI a) + 7), .ref 1497, .ref 1482]) cd_Mo_enterSession rfl rfl (fun _ _ => rfl) ?_
        refine m_eq (show ((nI a) + 7 : Int32) = nI (a + 7) from nI_add a 7) ?_
        refine m_aI (r := 14) (a := 15) (g := (A 15)) (x := ((A 15) (a + 7))) (pc' := 109) rfl rfl cd_Mo_enterSession rfl rfl rfl (vp_in_nI (by omega) (by decide)) (congrArg (A 15) (nI_clamp (by omega))) ?_
        refine m_k1 (v := 0) (pc' := 110) cd_Mo_enterSession rfl (by decide) rfl ?_
        have n6 : en_any ch = [(ch, tz)] := if_neg (by rw [Bool.eq_false_iff.mpr (fun q => c96 ((MT_0 hM h6).mpr (tnil_iff.mp q)))]; decide)
        rw [n6] at hW2
        simp only [List.length_cons, List.length_nil] at hW2
        refine m_cv (pc' := 113) cd_Mo_enterSession rfl rfl rfl rfl rfl cd_Mo_enter rfl (Nat.le_of_ble_eq_true rfl) (m_enter hg7 (by (try simp only [List.length_append, List.length_cons, List.length_nil]); omega) h6 (MT_z hM) (fun g9 hg9 => ?_))
        show mg _ _ _ 113 _ [] _ _
        refine m_ald (pc' := 114) cd_Mo_enterSession rfl (Or.inr ⟨_, rfl, rfl, rfl⟩) l0 rfl rfl ?_
        refine m_fR (r := 14) (a := 15) (ad := 1497) (pc' := 117) rfl rfl cd_Mo_enterSession rfl rfl rfl rfl rfl ?_
        refine m_ild (pc' := 118) cd_Mo_enterSession rfl (Or.inr ⟨_, rfl, rfl, rfl⟩) l1 rfl ?_
        refine m_k2 (v := 9) (pc' := 120) cd_Mo_enterSession rfl (by decide) rfl ?_
        refine m_pure (pc' := 121) (st' := [.int ((nI a) + 9), .ref 1497]) cd_Mo_enterSession rfl rfl (fun _ _ => rfl) ?_
        refine m_eq (show ((nI a) + 9 : Int32) = nI (a + 9) from nI_add a 9) ?_
        refine m_aI (r := 14) (a := 15) (g := (A 15)) (x := ((A 15) (a + 9))) (pc' := 122) rfl rfl cd_Mo_enterSession rfl rfl rfl (vp_in_nI (by omega) (by decide)) (congrArg (A 15) (nI_clamp (by omega))) ?_
        refine m_k1 (v := 1) (pc' := 123) cd_Mo_enterSession rfl (by decide) rfl ?_
        refine m_if2 (t := 148) (pc' := 126) cd_Mo_enterSession rfl rfl rfl (fun c123 => ?_) (fun c123 => ?_)
        · have c123 : ¬ ((A 15) (a + 9)) = 1 := c123
          refine m_k1 (v := 0) (pc' := 149) cd_Mo_enterSession rfl (by decide) rfl ?_
          refine m_ist (pc' := 150) cd_Mo_enterSession rfl (Or.inr ⟨_, rfl, rfl, rfl⟩) (by decide) rfl (fun lv el => ?_)
          have l0 := tm_lk el l0 rfl (by decide)
          have l1 := tm_lk el l1 rfl (by decide)
          have l2 : lv.lookup 2 = some (.int 0) := tm_lks el
          clear el
          have n4 : en_any th = [] := if_pos (tnil_iff.mpr ((MT_0 hM h4).mp c47))
          have hbr : br = false := by
            cases br
            · rfl
            · exact absurd h10 c123
          refine l_enSe hM ha h12 h14 le 0 (((((W ++ [(ba, tz)]) ++ [(ro, tz)]) ++ [(mi, tz)]) ++ [(sd, tz)]) ++ [(ch, tz)]) g9 rfl hg9 (by simp only [List.length_append, List.length_cons, List.length_nil]; omega) (fun g' q => ?_) (by omega) lv l0 l1 l2
          have k2 := kk g'
          unfold se_en at k2
          dsimp only at k2
          rw [n4, n5, n6, hbr] at k2
          simp only [List.append_assoc, List.cons_append, List.nil_append, List.append_nil, if_true, Bool.false_eq_true, if_false] at k2 q ⊢
          exact k2 q
        · have c123 : ((A 15) (a + 9)) = 1 := Classical.not_not.mp c123
          refine m_ald (pc' := 127) cd_Mo_enterSession rfl (Or.inr ⟨_, rfl, rfl, rfl⟩) l0 rfl rfl ?_
          refine m_ald (pc' := 128) cd_Mo_enterSession rfl (Or.inr ⟨_, rfl, rfl, rfl⟩) l0 rfl rfl ?_
          refine m_fR (r := 14) (a := 15) (ad := 1497) (pc' := 131) rfl rfl cd_Mo_enterSession rfl rfl rfl rfl rfl ?_
          refine m_ild (pc' := 132) cd_Mo_enterSession rfl (Or.inr ⟨_, rfl, rfl, rfl⟩) l1 rfl ?_
          refine m_k2 (v := 10) (pc' := 134) cd_Mo_enterSession rfl (by decide) rfl ?_
          refine m_pure (pc' := 135) (st' := [.int ((nI a) + 10), .ref 1497, .ref 1482]) cd_Mo_enterSession rfl rfl (fun _ _ => rfl) ?_
          refine m_eq (show ((nI a) + 10 : Int32) = nI (a + 10) from nI_add a 10) ?_
          refine m_aI (r := 14) (a := 15) (g := (A 15)) (x := ((A 15) (a + 10))) (pc' := 136) rfl rfl cd_Mo_enterSession rfl rfl rfl (vp_in_nI (by omega) (by decide)) (congrArg (A 15) (nI_clamp (by omega))) ?_
          refine m_ald (pc' := 137) cd_Mo_enterSession rfl (Or.inr ⟨_, rfl, rfl, rfl⟩) l0 rfl rfl ?_
          refine m_fR (r := 14) (a := 15) (ad := 1497) (pc' := 140) rfl rfl cd_Mo_enterSession rfl rfl rfl rfl rfl ?_
          refine m_ild (pc' := 141) cd_Mo_enterSession rfl (Or.inr ⟨_, rfl, rfl, rfl⟩) l1 rfl ?_
          refine m_k2 (v := 11) (pc' := 143) cd_Mo_enterSession rfl (by decide) rfl ?_
          refine m_pure (pc' := 144) (st' := [.int ((nI a) + 11), .ref 1497, .int (((A 15) (a + 10))), .ref 1482]) cd_Mo_enterSession rfl rfl (fun _ _ => rfl) ?_
          refine m_eq (show ((nI a) + 11 : Int32) = nI (a + 11) from nI_add a 11) ?_
          refine m_aI (r := 14) (a := 15) (g := (A 15)) (x := ((A 15) (a + 11))) (pc' := 145) rfl rfl cd_Mo_enterSession rfl rfl rfl (vp_in_nI (by omega) (by decide)) (congrArg (A 15) (nI_clamp (by omega))) ?_
          have hbr : br = true := by
            cases br
            · exact absurd (h10.symm.trans c123) (by decide)
            · rfl
          have h1011 := h11 hbr
          rw [if_pos hbr] at hW2
          simp only [List.length_cons, List.length_nil] at hW2
          refine m_cv (pc' := 148) cd_Mo_enterSession rfl rfl rfl rfl rfl cd_Mo_enter rfl (Nat.le_of_ble_eq_true rfl) (m_enter hg9 (by (try simp only [List.length_append, List.length_cons, List.length_nil]); omega) h1011.1 h1011.2 (fun g10 hg10 => ?_))
          show mg _ _ _ 148 _ [] _ _
          refine m_k1 (v := 0) (pc' := 149) cd_Mo_enterSession rfl (by decide) rfl ?_
          refine m_ist (pc' := 150) cd_Mo_enterSession rfl (Or.inr ⟨_, rfl, rfl, rfl⟩) (by decide) rfl (fun lv el => ?_)
          have l0 := tm_lk el l0 rfl (by decide)
          have l1 := tm_lk el l1 rfl (by decide)
          have l2 : lv.lookup 2 = some (.int 0) := tm_lks el
          clear el
          have n4 : en_any th = [] := if_pos (tnil_iff.mpr ((MT_0 hM h4).mp c47))
          refine l_enSe hM ha h12 h14 le 0 ((((((W ++ [(ba, tz)]) ++ [(ro, tz)]) ++ [(mi, tz)]) ++ [(sd, tz)]) ++ [(ch, tz)]) ++ [(bp, bo)]) g10 rfl hg10 (by simp only [List.length_append, List.length_cons, List.length_nil]; omega) (fun g' q => ?_) (by omega) lv l0 l1 l2
          have k2 := kk g'
          unfold se_en at k2
          dsimp only at k2
          rw [n4, n5, n6, hbr] at k2
          simp only [List.append_assoc, List.cons_append, List.nil_append, List.append_nil, if_true, Bool.false_eq_true, if_false] at k2 q ⊢
          exact k2 q
  · have c47 : ¬ ((A 15) (a + 3)) = 0 := c47
    refine m_ald (pc' := 51) cd_Mo_enterSession rfl (Or.inr ⟨_, rfl, rfl, rfl⟩) l0 rfl rfl ?_
    refine m_ald (pc' := 52) cd_Mo_enterSession rfl (Or.inr ⟨_, rfl, rfl, rfl⟩) l0 rfl rfl ?_
    refine m_fR (r := 14) (a := 15) (ad := 1497) (pc' := 55) rfl rfl cd_Mo_enterSession rfl rfl rfl rfl rfl ?_
    refine m_ild (pc' := 56) cd_Mo_enterSession rfl (Or.inr ⟨_, rfl, rfl, rfl⟩) l1 rfl ?_
    refine m_k1 (v := 3) (pc' := 57) cd_Mo_enterSession rfl (by decide) rfl ?_
    refine m_pure (pc' := 58) (st' := [.int ((nI a) + 3), .ref 1497, .ref 1482]) cd_Mo_enterSession rfl rfl (fun _ _ => rfl) ?_
    refine m_eq (show ((nI a) + 3 : Int32) = nI (a + 3) from nI_add a 3) ?_
    refine m_aI (r := 14) (a := 15) (g := (A 15)) (x := ((A 15) (a + 3))) (pc' := 59) rfl rfl cd_Mo_enterSession rfl rfl rfl (vp_in_nI (by omega) (by decide)) (congrArg (A 15) (nI_clamp (by omega))) ?_
    refine m_k1 (v := 0) (pc' := 60) cd_Mo_enterSession rfl (by decide) rfl ?_
    have n4 : en_any th = [(th, tz)] := if_neg (by rw [Bool.eq_false_iff.mpr (fun q => c47 ((MT_0 hM h4).mpr (tnil_iff.mp q)))]; decide)
    rw [n4] at hW2
    simp only [List.length_cons, List.length_nil] at hW2
    refine m_cv (pc' := 63) cd_Mo_enterSession rfl rfl rfl rfl rfl cd_Mo_enter rfl (Nat.le_of_ble_eq_true rfl) (m_enter hg3 (by (try simp only [List.length_append, List.length_cons, List.length_nil]); omega) h4 (MT_z hM) (fun g11 hg11 => ?_))
    show mg _ _ _ 63 _ [] _ _
    refine m_ald (pc' := 64) cd_Mo_enterSession rfl (Or.inr ⟨_, rfl, rfl, rfl⟩) l0 rfl rfl ?_
    refine m_fR (r := 14) (a := 15) (ad := 1497) (pc' := 67) rfl rfl cd_Mo_enterSession rfl rfl rfl rfl rfl ?_
    refine m_ild (pc' := 68) cd_Mo_enterSession rfl (Or.inr ⟨_, rfl, rfl, rfl⟩) l1 rfl ?_
    refine m_k1 (v := 4) (pc' := 69) cd_Mo_enterSession rfl (by decide) rfl ?_
    refine m_pure (pc' := 70) (st' := [.int ((nI a) + 4), .ref 1497]) cd_Mo_enterSession rfl rfl (fun _ _ => rfl) ?_
    refine m_eq (show ((nI a) + 4 : Int32) = nI (a + 4) from nI_add a 4) ?_
    refine m_aI (r := 14) (a := 15) (g := (A 15)) (x := ((A 15) (a + 4))) (pc' := 71) rfl rfl cd_Mo_enterSession rfl rfl rfl (vp_in_nI (by omega) (by decide)) (congrArg (A 15) (nI_clamp (by omega))) ?_
    refine m_if1 (t := 87) (pc' := 74) cd_Mo_enterSession rfl rfl rfl (fun c71 => ?_) (fun c71 => ?_)
    · have c71 : ((A 15) (a + 4)) = 0 := c71
      refine m_ald (pc' := 88) cd_Mo_enterSession rfl (Or.inr ⟨_, rfl, rfl, rfl⟩) l0 rfl rfl ?_
      refine m_fR (r := 14) (a := 15) (ad := 1497) (pc' := 91) rfl rfl cd_Mo_enterSession rfl rfl rfl rfl rfl ?_
      refine m_ild (pc' := 92) cd_Mo_enterSession rfl (Or.inr ⟨_, rfl, rfl, rfl⟩) l1 rfl ?_
      refine m_k2 (v := 7) (pc' := 94) cd_Mo_enterSession rfl (by decide) rfl ?_
      refine m_pure (pc' := 95) (st' := [.int ((nI a) + 7), .ref 1497]) cd_Mo_enterSession rfl rfl (fun _ _ => rfl) ?_
      refine m_eq (show ((nI a) + 7 : Int32) = nI (a + 7) from nI_add a 7) ?_
      refine m_aI (r := 14) (a := 15) (g := (A 15)) (x := ((A 15) (a + 7))) (pc' := 96) rfl rfl cd_Mo_enterSession rfl rfl rfl (vp_in_nI (by omega) (by decide)) (congrArg (A 15) (nI_clamp (by omega))) ?_
      refine m_if1 (t := 113) (pc' := 99) cd_Mo_enterSession rfl rfl rfl (fun c96 => ?_) (fun c96 => ?_)
      · have c96 : ((A 15) (a + 7)) = 0 := c96
        refine m_ald (pc' := 114) cd_Mo_enterSession rfl (Or.inr ⟨_, rfl, rfl, rfl⟩) l0 rfl rfl ?_
        refine m_fR (r := 14) (a := 15) (ad := 1497) (pc' := 117) rfl rfl cd_Mo_enterSession rfl rfl rfl rfl rfl ?_
        refine m_ild (pc' := 118) cd_Mo_enterSession rfl (Or.inr ⟨_, rfl, rfl, rfl⟩) l1 rfl ?_
        refine m_k2 (v := 9) (pc' := 120) cd_Mo_enterSession rfl (by decide) rfl ?_
        refine m_pure (pc' := 121) (st' := [.int ((nI a) + 9), .ref 1497]) cd_Mo_enterSession rfl rfl (fun _ _ => rfl) ?_
        refine m_eq (show ((nI a) + 9 : Int32) = nI (a + 9) from nI_add a 9) ?_
        refine m_aI (r := 14) (a := 15) (g := (A 15)) (x := ((A 15) (a + 9))) (pc' := 122) rfl rfl cd_Mo_enterSession rfl rfl rfl (vp_in_nI (by omega) (by decide)) (congrArg (A 15) (nI_clamp (by omega))) ?_
        refine m_k1 (v := 1) (pc' := 123) cd_Mo_enterSession rfl (by decide) rfl ?_
        refine m_if2 (t := 148) (pc' := 126) cd_Mo_enterSession rfl rfl rfl (fun c123 => ?_) (fun c123 => ?_)
        · have c123 : ¬ ((A 15) (a + 9)) = 1 := c123
          refine m_k1 (v := 0) (pc' := 149) cd_Mo_enterSession rfl (by decide) rfl ?_
          refine m_ist (pc' := 150) cd_Mo_enterSession rfl (Or.inr ⟨_, rfl, rfl, rfl⟩) (by decide) rfl (fun lv el => ?_)
          have l0 := tm_lk el l0 rfl (by decide)
          have l1 := tm_lk el l1 rfl (by decide)
          have l2 : lv.lookup 2 = some (.int 0) := tm_lks el
          clear el
          have n5 : en_any sd = [] := if_pos (tnil_iff.mpr ((MT_0 hM h5).mp c71))
          have n6 : en_any ch = [] := if_pos (tnil_iff.mpr ((MT_0 hM h6).mp c96))
          have hbr : br = false := by
            cases br
            · rfl
            · exact absurd h10 c123
          refine l_enSe hM ha h12 h14 le 0 ((((W ++ [(ba, tz)]) ++ [(ro, tz)]) ++ [(mi, tz)]) ++ [(th, tz)]) g11 rfl hg11 (by simp only [List.length_append, List.length_cons, List.length_nil]; omega) (fun g' q => ?_) (by omega) lv l0 l1 l2
          have k2 := kk g'
          unfold se_en at k2
          dsimp only at k2
          rw [n4, n5, n6, hbr] at k2
          simp only [List.append_assoc, List.cons_append, List.nil_append, List.append_nil, if_true, Bool.false_eq_true, if_false] at k2 q ⊢
          exact k2 q
        · have c123 : ((A 15) (a + 9)) = 1 := Classical.not_not.mp c123
          refine m_ald (pc' := 127) cd_Mo_enterSession rfl (Or.inr ⟨_, rfl, rfl, rfl⟩) l0 rfl rfl ?_
          refine m_ald (pc' := 128) cd_Mo_enterSession rfl (Or.inr ⟨_, rfl, rfl, rfl⟩) l0 rfl rfl ?_
          refine m_fR (r := 14) (a := 15) (ad := 1497) (pc' := 131) rfl rfl cd_Mo_enterSession rfl rfl rfl rfl rfl ?_
          refine m_ild (pc' := 132) cd_Mo_enterSession rfl (Or.inr ⟨_, rfl, rfl, rfl⟩) l1 rfl ?_
          refine m_k2 (v := 10) (pc' := 134) cd_Mo_enterSession rfl (by decide) rfl ?_
          refine m_pure (pc' := 135) (st' := [.int ((nI a) + 10), .ref 1497, .ref 1482]) cd_Mo_enterSession rfl rfl (fun _ _ => rfl) ?_
          refine m_eq (show ((nI a) + 10 : Int32) = nI (a + 10) from nI_add a 10) ?_
          refine m_aI (r := 14) (a := 15) (g := (A 15)) (x := ((A 15) (a + 10))) (pc' := 136) rfl rfl cd_Mo_enterSession rfl rfl rfl (vp_in_nI (by omega) (by decide)) (congrArg (A 15) (nI_clamp (by omega))) ?_
          refine m_ald (pc' := 137) cd_Mo_enterSession rfl (Or.inr ⟨_, rfl, rfl, rfl⟩) l0 rfl rfl ?_
          refine m_fR (r := 14) (a := 15) (ad := 1497) (pc' := 140) rfl rfl cd_Mo_enterSession rfl rfl rfl rfl rfl ?_
          refine m_ild (pc' := 141) cd_Mo_enterSession rfl (Or.inr ⟨_, rfl, rfl, rfl⟩) l1 rfl ?_
          refine m_k2 (v := 11) (pc' := 143) cd_Mo_enterSession rfl (by decide) rfl ?_
          refine m_pure (pc' := 144) (st' := [.int ((nI a) + 11), .ref 1497, .int (((A 15) (a + 10))), .ref 1482]) cd_Mo_enterSession rfl rfl (fun _ _ => rfl) ?_
          refine m_eq (show ((nI a) + 11 : Int32) = nI (a + 11) from nI_add a 11) ?_
          refine m_aI (r := 14) (a := 15) (g := (A 15)) (x := ((A 15) (a + 11))) (pc' := 145) rfl rfl cd_Mo_enterSession rfl rfl rfl (vp_in_nI (by omega) (by decide)) (congrArg (A 15) (nI_clamp (by omega))) ?_
          have hbr : br = true := by
            cases br
            · exact absurd (h10.symm.trans c123) (by decide)
            · rfl
          have h1011 := h11 hbr
          rw [if_pos hbr] at hW2
          simp only [List.length_cons, List.length_nil] at hW2
          refine m_cv (pc' := 148) cd_Mo_enterSession rfl rfl rfl rfl rfl cd_Mo_enter rfl (Nat.le_of_ble_eq_true rfl) (m_enter hg11 (by (try simp only [List.length_append, List.length_cons, List.length_nil]); omega) h1011.1 h1011.2 (fun g12 hg12 => ?_))
          show mg _ _ _ 148 _ [] _ _
          refine m_k1 (v := 0) (pc' := 149) cd_Mo_enterSession rfl (by decide) rfl ?_
          refine m_ist (pc' := 150) cd_Mo_enterSession rfl (Or.inr ⟨_, rfl, rfl, rfl⟩) (by decide) rfl (fun lv el => ?_)
          have l0 := tm_lk el l0 rfl (by decide)
          have l1 := tm_lk el l1 rfl (by decide)
          have l2 : lv.lookup 2 = some (.int 0) := tm_lks el
          clear el
          have n5 : en_any sd = [] := if_pos (tnil_iff.mpr ((MT_0 hM h5).mp c71))
          have n6 : en_any ch = [] := if_pos (tnil_iff.mpr ((MT_0 hM h6).mp c96))
          refine l_enSe hM ha h12 h14 le 0 (((((W ++ [(ba, tz)]) ++ [(ro, tz)]) ++ [(mi, tz)]) ++ [(th, tz)]) ++ [(bp, bo)]) g12 rfl hg12 (by simp only [List.length_append, List.length_cons, List.length_nil]; omega) (fun g' q => ?_) (by omega) lv l0 l1 l2
          have k2 := kk g'
          unfold se_en at k2
          dsimp only at k2
          rw [n4, n5, n6, hbr] at k2
          simp only [List.append_assoc, List.cons_append, List.nil_append, List.append_nil, if_true, Bool.false_eq_true, if_false] at k2 q ⊢
          exact k2 q
      · have c96 : ¬ ((A 15) (a + 7)) = 0 := c96
        refine m_ald (pc' := 100) cd_Mo_enterSession rfl (Or.inr ⟨_, rfl, rfl, rfl⟩) l0 rfl rfl ?_
        refine m_ald (pc' := 101) cd_Mo_enterSession rfl (Or.inr ⟨_, rfl, rfl, rfl⟩) l0 rfl rfl ?_
        refine m_fR (r := 14) (a := 15) (ad := 1497) (pc' := 104) rfl rfl cd_Mo_enterSession rfl rfl rfl rfl rfl ?_
        refine m_ild (pc' := 105) cd_Mo_enterSession rfl (Or.inr ⟨_, rfl, rfl, rfl⟩) l1 rfl ?_
        refine m_k2 (v := 7) (pc' := 107) cd_Mo_enterSession rfl (by decide) rfl ?_
        refine m_pure (pc' := 108) (st' := [.int ((nI a) + 7), .ref 1497, .ref 1482]) cd_Mo_enterSession rfl rfl (fun _ _ => rfl) ?_
        refine m_eq (show ((nI a) + 7 : Int32) = nI (a + 7) from nI_add a 7) ?_
        refine m_aI (r := 14) (a := 15) (g := (A 15)) (x := ((A 15) (a + 7))) (pc' := 109) rfl rfl cd_Mo_enterSession rfl rfl rfl (vp_in_nI (by omega) (by decide)) (congrArg (A 15) (nI_clamp (by omega))) ?_
        refine m_k1 (v := 0) (pc' := 110) cd_Mo_enterSession rfl (by decide) rfl ?_
        have n6 : en_any ch = [(ch, tz)] := if_neg (by rw [Bool.eq_false_iff.mpr (fun q => c96 ((MT_0 hM h6).mpr (tnil_iff.mp q)))]; decide)
        rw [n6] at hW2
        simp only [List.length_cons, List.length_nil] at hW2
        refine m_cv (pc' := 113) cd_Mo_enterSession rfl rfl rfl rfl rfl cd_Mo_enter rfl (Nat.le_of_ble_eq_true rfl) (m_enter hg11 (by (try simp only [List.length_append, List.length_cons, List.length_nil]); omega) h6 (MT_z hM) (fun g13 hg13 => ?_))
        show mg _ _ _ 113 _ [] _ _
        refine m_ald (pc' := 114) cd_Mo_enterSession rfl (Or.inr ⟨_, rfl, rfl, rfl⟩) l0 rfl rfl ?_
        refine m_fR (r := 14) (a := 15) (ad := 1497) (pc' := 117) rfl rfl cd_Mo_enterSession rfl rfl rfl rfl rfl ?_
        refine m_ild (pc' := 118) cd_Mo_enterSession rfl (Or.inr ⟨_, rfl, rfl, rfl⟩) l1 rfl ?_
        refine m_k2 (v := 9) (pc' := 120) cd_Mo_enterSession rfl (by decide) rfl ?_
        refine m_pure (pc' := 121) (st' := [.int ((nI a) + 9), .ref 1497]) cd_Mo_enterSession rfl rfl (fun _ _ => rfl) ?_
        refine m_eq (show ((nI a) + 9 : Int32) = nI (a + 9) from nI_add a 9) ?_
        refine m_aI (r := 14) (a := 15) (g := (A 15)) (x := ((A 15) (a + 9))) (pc' := 122) rfl rfl cd_Mo_enterSession rfl rfl rfl (vp_in_nI (by omega) (by decide)) (congrArg (A 15) (nI_clamp (by omega))) ?_
        refine m_k1 (v := 1) (pc' := 123) cd_Mo_enterSession rfl (by decide) rfl ?_
        refine m_if2 (t := 148) (pc' := 126) cd_Mo_enterSession rfl rfl rfl (fun c123 => ?_) (fun c123 => ?_)
        · have c123 : ¬ ((A 15) (a + 9)) = 1 := c123
          refine m_k1 (v := 0) (pc' := 149) cd_Mo_enterSession rfl (by decide) rfl ?_
          refine m_ist (pc' := 150) cd_Mo_enterSession rfl (Or.inr ⟨_, rfl, rfl, rfl⟩) (by decide) rfl (fun lv el => ?_)
          have l0 := tm_lk el l0 rfl (by decide)
          have l1 := tm_lk el l1 rfl (by decide)
          have l2 : lv.lookup 2 = some (.int 0) := tm_lks el
          clear el
          have n5 : en_any sd = [] := if_pos (tnil_iff.mpr ((MT_0 hM h5).mp c71))
          have hbr : br = false := by
            cases br
            · rfl
            · exact absurd h10 c123
          refine l_enSe hM ha h12 h14 le 0 (((((W ++ [(ba, tz)]) ++ [(ro, tz)]) ++ [(mi, tz)]) ++ [(th, tz)]) ++ [(ch, tz)]) g13 rfl hg13 (by simp only [List.length_append, List.length_cons, List.length_nil]; omega) (fun g' q => ?_) (by omega) lv l0 l1 l2
          have k2 := kk g'
          unfold se_en at k2
          dsimp only at k2
          rw [n4, n5, n6, hbr] at k2
          simp only [List.append_assoc, List.cons_append, List.nil_append, List.append_nil, if_true, Bool.false_eq_true, if_false] at k2 q ⊢
          exact k2 q
        · have c123 : ((A 15) (a + 9)) = 1 := Classical.not_not.mp c123
          refine m_ald (pc' := 127) cd_Mo_enterSession rfl (Or.inr ⟨_, rfl, rfl, rfl⟩) l0 rfl rfl ?_
          refine m_ald (pc' := 128) cd_Mo_enterSession rfl (Or.inr ⟨_, rfl, rfl, rfl⟩) l0 rfl rfl ?_
          refine m_fR (r := 14) (a := 15) (ad := 1497) (pc' := 131) rfl rfl cd_Mo_enterSession rfl rfl rfl rfl rfl ?_
          refine m_ild (pc' := 132) cd_Mo_enterSession rfl (Or.inr ⟨_, rfl, rfl, rfl⟩) l1 rfl ?_
          refine m_k2 (v := 10) (pc' := 134) cd_Mo_enterSession rfl (by decide) rfl ?_
          refine m_pure (pc' := 135) (st' := [.int ((nI a) + 10), .ref 1497, .ref 1482]) cd_Mo_enterSession rfl rfl (fun _ _ => rfl) ?_
          refine m_eq (show ((nI a) + 10 : Int32) = nI (a + 10) from nI_add a 10) ?_
          refine m_aI (r := 14) (a := 15) (g := (A 15)) (x := ((A 15) (a + 10))) (pc' := 136) rfl rfl cd_Mo_enterSession rfl rfl rfl (vp_in_nI (by omega) (by decide)) (congrArg (A 15) (nI_clamp (by omega))) ?_
          refine m_ald (pc' := 137) cd_Mo_enterSession rfl (Or.inr ⟨_, rfl, rfl, rfl⟩) l0 rfl rfl ?_
          refine m_fR (r := 14) (a := 15) (ad := 1497) (pc' := 140) rfl rfl cd_Mo_enterSession rfl rfl rfl rfl rfl ?_
          refine m_ild (pc' := 141) cd_Mo_enterSession rfl (Or.inr ⟨_, rfl, rfl, rfl⟩) l1 rfl ?_
          refine m_k2 (v := 11) (pc' := 143) cd_Mo_enterSession rfl (by decide) rfl ?_
          refine m_pure (pc' := 144) (st' := [.int ((nI a) + 11), .ref 1497, .int (((A 15) (a + 10))), .ref 1482]) cd_Mo_enterSession rfl rfl (fun _ _ => rfl) ?_
          refine m_eq (show ((nI a) + 11 : Int32) = nI (a + 11) from nI_add a 11) ?_
          refine m_aI (r := 14) (a := 15) (g := (A 15)) (x := ((A 15) (a + 11))) (pc' := 145) rfl rfl cd_Mo_enterSession rfl rfl rfl (vp_in_nI (by omega) (by decide)) (congrArg (A 15) (nI_clamp (by omega))) ?_
          have hbr : br = true := by
            cases br
            · exact absurd (h10.symm.trans c123) (by decide)
            · rfl
          have h1011 := h11 hbr
          rw [if_pos hbr] at hW2
          simp only [List.length_cons, List.length_nil] at hW2
          refine m_cv (pc' := 148) cd_Mo_enterSession rfl rfl rfl rfl rfl cd_Mo_enter rfl (Nat.le_of_ble_eq_true rfl) (m_enter hg13 (by (try simp only [List.length_append, List.length_cons, List.length_nil]); omega) h1011.1 h1011.2 (fun g14 hg14 => ?_))
          show mg _ _ _ 148 _ [] _ _
          refine m_k1 (v := 0) (pc' := 149) cd_Mo_enterSession rfl (by decide) rfl ?_
          refine m_ist (pc' := 150) cd_Mo_enterSession rfl (Or.inr ⟨_, rfl, rfl, rfl⟩) (by decide) rfl (fun lv el => ?_)
          have l0 := tm_lk el l0 rfl (by decide)
          have l1 := tm_lk el l1 rfl (by decide)
          have l2 : lv.lookup 2 = some (.int 0) := tm_lks el
          clear el
          have n5 : en_any sd = [] := if_pos (tnil_iff.mpr ((MT_0 hM h5).mp c71))
          refine l_enSe hM ha h12 h14 le 0 ((((((W ++ [(ba, tz)]) ++ [(ro, tz)]) ++ [(mi, tz)]) ++ [(th, tz)]) ++ [(ch, tz)]) ++ [(bp, bo)]) g14 rfl hg14 (by simp only [List.length_append, List.length_cons, List.length_nil]; omega) (fun g' q => ?_) (by omega) lv l0 l1 l2
          have k2 := kk g'
          unfold se_en at k2
          dsimp only at k2
          rw [n4, n5, n6, hbr] at k2
          simp only [List.append_assoc, List.cons_append, List.nil_append, List.append_nil, if_true, Bool.false_eq_true, if_false] at k2 q ⊢
          exact k2 q
    · have c71 : ¬ ((A 15) (a + 4)) = 0 := c71
      refine m_ald (pc' := 75) cd_Mo_enterSession rfl (Or.inr ⟨_, rfl, rfl, rfl⟩) l0 rfl rfl ?_
      refine m_ald (pc' := 76) cd_Mo_enterSession rfl (Or.inr ⟨_, rfl, rfl, rfl⟩) l0 rfl rfl ?_
      refine m_fR (r := 14) (a := 15) (ad := 1497) (pc' := 79) rfl rfl cd_Mo_enterSession rfl rfl rfl rfl rfl ?_
      refine m_ild (pc' := 80) cd_Mo_enterSession rfl (Or.inr ⟨_, rfl, rfl, rfl⟩) l1 rfl ?_
      refine m_k1 (v := 4) (pc' := 81) cd_Mo_enterSession rfl (by decide) rfl ?_
      refine m_pure (pc' := 82) (st' := [.int ((nI a) + 4), .ref 1497, .ref 1482]) cd_Mo_enterSession rfl rfl (fun _ _ => rfl) ?_
      refine m_eq (show ((nI a) + 4 : Int32) = nI (a + 4) from nI_add a 4) ?_
      refine m_aI (r := 14) (a := 15) (g := (A 15)) (x := ((A 15) (a + 4))) (pc' := 83) rfl rfl cd_Mo_enterSession rfl rfl rfl (vp_in_nI (by omega) (by decide)) (congrArg (A 15) (nI_clamp (by omega))) ?_
      refine m_k1 (v := 0) (pc' := 84) cd_Mo_enterSession rfl (by decide) rfl ?_
      have n5 : en_any sd = [(sd, tz)] := if_neg (by rw [Bool.eq_false_iff.mpr (fun q => c71 ((MT_0 hM h5).mpr (tnil_iff.mp q)))]; decide)
      rw [n5] at hW2
      simp only [List.length_cons, List.length_nil] at hW2
      refine m_cv (pc' := 87) cd_Mo_enterSession rfl rfl rfl rfl rfl cd_Mo_enter rfl (Nat.le_of_ble_eq_true rfl) (m_enter hg11 (by (try simp only [List.length_append, List.length_cons, List.length_nil]); omega) h5 (MT_z hM) (fun g15 hg15 => ?_))
      show mg _ _ _ 87 _ [] _ _
      refine m_ald (pc' := 88) cd_Mo_enterSession rfl (Or.inr ⟨_, rfl, rfl, rfl⟩) l0 rfl rfl ?_
      refine m_fR (r := 14) (a := 15) (ad := 1497) (pc' := 91) rfl rfl cd_Mo_enterSession rfl rfl rfl rfl rfl ?_
      refine m_ild (pc' := 92) cd_Mo_enterSession rfl (Or.inr ⟨_, rfl, rfl, rfl⟩) l1 rfl ?_
      refine m_k2 (v := 7) (pc' := 94) cd_Mo_enterSession rfl (by decide) rfl ?_
      refine m_pure (pc' := 95) (st' := [.int ((nI a) + 7), .ref 1497]) cd_Mo_enterSession rfl rfl (fun _ _ => rfl) ?_
      refine m_eq (show ((nI a) + 7 : Int32) = nI (a + 7) from nI_add a 7) ?_
      refine m_aI (r := 14) (a := 15) (g := (A 15)) (x := ((A 15) (a + 7))) (pc' := 96) rfl rfl cd_Mo_enterSession rfl rfl rfl (vp_in_nI (by omega) (by decide)) (congrArg (A 15) (nI_clamp (by omega))) ?_
      refine m_if1 (t := 113) (pc' := 99) cd_Mo_enterSession rfl rfl rfl (fun c96 => ?_) (fun c96 => ?_)
      · have c96 : ((A 15) (a + 7)) = 0 := c96
        refine m_ald (pc' := 114) cd_Mo_enterSession rfl (Or.inr ⟨_, rfl, rfl, rfl⟩) l0 rfl rfl ?_
        refine m_fR (r := 14) (a := 15) (ad := 1497) (pc' := 117) rfl rfl cd_Mo_enterSession rfl rfl rfl rfl rfl ?_
        refine m_ild (pc' := 118) cd_Mo_enterSession rfl (Or.inr ⟨_, rfl, rfl, rfl⟩) l1 rfl ?_
        refine m_k2 (v := 9) (pc' := 120) cd_Mo_enterSession rfl (by decide) rfl ?_
        refine m_pure (pc' := 121) (st' := [.int ((nI a) + 9), .ref 1497]) cd_Mo_enterSession rfl rfl (fun _ _ => rfl) ?_
        refine m_eq (show ((nI a) + 9 : Int32) = nI (a + 9) from nI_add a 9) ?_
        refine m_aI (r := 14) (a := 15) (g := (A 15)) (x := ((A 15) (a + 9))) (pc' := 122) rfl rfl cd_Mo_enterSession rfl rfl rfl (vp_in_nI (by omega) (by decide)) (congrArg (A 15) (nI_clamp (by omega))) ?_
        refine m_k1 (v := 1) (pc' := 123) cd_Mo_enterSession rfl (by decide) rfl ?_
        refine m_if2 (t := 148) (pc' := 126) cd_Mo_enterSession rfl rfl rfl (fun c123 => ?_) (fun c123 => ?_)
        · have c123 : ¬ ((A 15) (a + 9)) = 1 := c123
          refine m_k1 (v := 0) (pc' := 149) cd_Mo_enterSession rfl (by decide) rfl ?_
          refine m_ist (pc' := 150) cd_Mo_enterSession rfl (Or.inr ⟨_, rfl, rfl, rfl⟩) (by decide) rfl (fun lv el => ?_)
          have l0 := tm_lk el l0 rfl (by decide)
          have l1 := tm_lk el l1 rfl (by decide)
          have l2 : lv.lookup 2 = some (.int 0) := tm_lks el
          clear el
          have n6 : en_any ch = [] := if_pos (tnil_iff.mpr ((MT_0 hM h6).mp c96))
          have hbr : br = false := by
            cases br
            · rfl
            · exact absurd h10 c123
          refine l_enSe hM ha h12 h14 le 0 (((((W ++ [(ba, tz)]) ++ [(ro, tz)]) ++ [(mi, tz)]) ++ [(th, tz)]) ++ [(sd, tz)]) g15 rfl hg15 (by simp only [List.length_append, List.length_cons, List.length_nil]; omega) (fun g' q => ?_) (by omega) lv l0 l1 l2
          have k2 := kk g'
          unfold se_en at k2
          dsimp only at k2
          rw [n4, n5, n6, hbr] at k2
          simp only [List.append_assoc, List.cons_append, List.nil_append, List.append_nil, if_true, Bool.false_eq_true, if_false] at k2 q ⊢
          exact k2 q
        · have c123 : ((A 15) (a + 9)) = 1 := Classical.not_not.mp c123
          refine m_ald (pc' := 127) cd_Mo_enterSession rfl (Or.inr ⟨_, rfl, rfl, rfl⟩) l0 rfl rfl ?_
          refine m_ald (pc' := 128) cd_Mo_enterSession rfl (Or.inr ⟨_, rfl, rfl, rfl⟩) l0 rfl rfl ?_
          refine m_fR (r := 14) (a := 15) (ad := 1497) (pc' := 131) rfl rfl cd_Mo_enterSession rfl rfl rfl rfl rfl ?_
          refine m_ild (pc' := 132) cd_Mo_enterSession rfl (Or.inr ⟨_, rfl, rfl, rfl⟩) l1 rfl ?_
          refine m_k2 (v := 10) (pc' := 134) cd_Mo_enterSession rfl (by decide) rfl ?_
          refine m_pure (pc' := 135) (st' := [.int ((nI a) + 10), .ref 1497, .ref 1482]) cd_Mo_enterSession rfl rfl (fun _ _ => rfl) ?_
          refine m_eq (show ((nI a) + 10 : Int32) = nI (a + 10) from nI_add a 10) ?_
          refine m_aI (r := 14) (a := 15) (g := (A 15)) (x := ((A 15) (a + 10))) (pc' := 136) rfl rfl cd_Mo_enterSession rfl rfl rfl (vp_in_nI (by omega) (by decide)) (congrArg (A 15) (nI_clamp (by omega))) ?_
          refine m_ald (pc' := 137) cd_Mo_enterSession rfl (Or.inr ⟨_, rfl, rfl, rfl⟩) l0 rfl rfl ?_
          refine m_fR (r := 14) (a := 15) (ad := 1497) (pc' := 140) rfl rfl cd_Mo_enterSession rfl rfl rfl rfl rfl ?_
          refine m_ild (pc' := 141) cd_Mo_enterSession rfl (Or.inr ⟨_, rfl, rfl, rfl⟩) l1 rfl ?_
          refine m_k2 (v := 11) (pc' := 143) cd_Mo_enterSession rfl (by decide) rfl ?_
          refine m_pure (pc' := 144) (st' := [.int ((nI a) + 11), .ref 1497, .int (((A 15) (a + 10))), .ref 1482]) cd_Mo_enterSession rfl rfl (fun _ _ => rfl) ?_
          refine m_eq (show ((nI a) + 11 : Int32) = nI (a + 11) from nI_add a 11) ?_
          refine m_aI (r := 14) (a := 15) (g := (A 15)) (x := ((A 15) (a + 11))) (pc' := 145) rfl rfl cd_Mo_enterSession rfl rfl rfl (vp_in_nI (by omega) (by decide)) (congrArg (A 15) (nI_clamp (by omega))) ?_
          have hbr : br = true := by
            cases br
            · exact absurd (h10.symm.trans c123) (by decide)
            · rfl
          have h1011 := h11 hbr
          rw [if_pos hbr] at hW2
          simp only [List.length_cons, List.length_nil] at hW2
          refine m_cv (pc' := 148) cd_Mo_enterSession rfl rfl rfl rfl rfl cd_Mo_enter rfl (Nat.le_of_ble_eq_true rfl) (m_enter hg15 (by (try simp only [List.length_append, List.length_cons, List.length_nil]); omega) h1011.1 h1011.2 (fun g16 hg16 => ?_))
          show mg _ _ _ 148 _ [] _ _
          refine m_k1 (v := 0) (pc' := 149) cd_Mo_enterSession rfl (by decide) rfl ?_
          refine m_ist (pc' := 150) cd_Mo_enterSession rfl (Or.inr ⟨_, rfl, rfl, rfl⟩) (by decide) rfl (fun lv el => ?_)
          have l0 := tm_lk el l0 rfl (by decide)
          have l1 := tm_lk el l1 rfl (by decide)
          have l2 : lv.lookup 2 = some (.int 0) := tm_lks el
          clear el
          have n6 : en_any ch = [] := if_pos (tnil_iff.mpr ((MT_0 hM h6).mp c96))
          refine l_enSe hM ha h12 h14 le 0 ((((((W ++ [(ba, tz)]) ++ [(ro, tz)]) ++ [(mi, tz)]) ++ [(th, tz)]) ++ [(sd, tz)]) ++ [(bp, bo)]) g16 rfl hg16 (by simp only [List.length_append, List.length_cons, List.length_nil]; omega) (fun g' q => ?_) (by omega) lv l0 l1 l2
          have k2 := kk g'
          unfold se_en at k2
          dsimp only at k2
          rw [n4, n5, n6, hbr] at k2
          simp only [List.append_assoc, List.cons_append, List.nil_append, List.append_nil, if_true, Bool.false_eq_true, if_false] at k2 q ⊢
          exact k2 q
      · have c96 : ¬ ((A 15) (a + 7)) = 0 := c96
        refine m_ald (pc' := 100) cd_Mo_enterSession rfl (Or.inr ⟨_, rfl, rfl, rfl⟩) l0 rfl rfl ?_
        refine m_ald (pc' := 101) cd_Mo_enterSession rfl (Or.inr ⟨_, rfl, rfl, rfl⟩) l0 rfl rfl ?_
        refine m_fR (r := 14) (a := 15) (ad := 1497) (pc' := 104) rfl rfl cd_Mo_enterSession rfl rfl rfl rfl rfl ?_
        refine m_ild (pc' := 105) cd_Mo_enterSession rfl (Or.inr ⟨_, rfl, rfl, rfl⟩) l1 rfl ?_
        refine m_k2 (v := 7) (pc' := 107) cd_Mo_enterSession rfl (by decide) rfl ?_
        refine m_pure (pc' := 108) (st' := [.int ((nI a) + 7), .ref 1497, .ref 1482]) cd_Mo_enterSession rfl rfl (fun _ _ => rfl) ?_
        refine m_eq (show ((nI a) + 7 : Int32) = nI (a + 7) from nI_add a 7) ?_
        refine m_aI (r := 14) (a := 15) (g := (A 15)) (x := ((A 15) (a + 7))) (pc' := 109) rfl rfl cd_Mo_enterSession rfl rfl rfl (vp_in_nI (by omega) (by decide)) (congrArg (A 15) (nI_clamp (by omega))) ?_
        refine m_k1 (v := 0) (pc' := 110) cd_Mo_enterSession rfl (by decide) rfl ?_
        have n6 : en_any ch = [(ch, tz)] := if_neg (by rw [Bool.eq_false_iff.mpr (fun q => c96 ((MT_0 hM h6).mpr (tnil_iff.mp q)))]; decide)
        rw [n6] at hW2
        simp only [List.length_cons, List.length_nil] at hW2
        refine m_cv (pc' := 113) cd_Mo_enterSession rfl rfl rfl rfl rfl cd_Mo_enter rfl (Nat.le_of_ble_eq_true rfl) (m_enter hg15 (by (try simp only [List.length_append, List.length_cons, List.length_nil]); omega) h6 (MT_z hM) (fun g17 hg17 => ?_))
        show mg _ _ _ 113 _ [] _ _
        refine m_ald (pc' := 114) cd_Mo_enterSession rfl (Or.inr ⟨_, rfl, rfl, rfl⟩) l0 rfl rfl ?_
        refine m_fR (r := 14) (a := 15) (ad := 1497) (pc' := 117) rfl rfl cd_Mo_enterSession rfl rfl rfl rfl rfl ?_
        refine m_ild (pc' := 118) cd_Mo_enterSession rfl (Or.inr ⟨_, rfl, rfl, rfl⟩) l1 rfl ?_
        refine m_k2 (v := 9) (pc' := 120) cd_Mo_enterSession rfl (by decide) rfl ?_
        refine m_pure (pc' := 121) (st' := [.int ((nI a) + 9), .ref 1497]) cd_Mo_enterSession rfl rfl (fun _ _ => rfl) ?_
        refine m_eq (show ((nI a) + 9 : Int32) = nI (a + 9) from nI_add a 9) ?_
        refine m_aI (r := 14) (a := 15) (g := (A 15)) (x := ((A 15) (a + 9))) (pc' := 122) rfl rfl cd_Mo_enterSession rfl rfl rfl (vp_in_nI (by omega) (by decide)) (congrArg (A 15) (nI_clamp (by omega))) ?_
        refine m_k1 (v := 1) (pc' := 123) cd_Mo_enterSession rfl (by decide) rfl ?_
        refine m_if2 (t := 148) (pc' := 126) cd_Mo_enterSession rfl rfl rfl (fun c123 => ?_) (fun c123 => ?_)
        · have c123 : ¬ ((A 15) (a + 9)) = 1 := c123
          refine m_k1 (v := 0) (pc' := 149) cd_Mo_enterSession rfl (by decide) rfl ?_
          refine m_ist (pc' := 150) cd_Mo_enterSession rfl (Or.inr ⟨_, rfl, rfl, rfl⟩) (by decide) rfl (fun lv el => ?_)
          have l0 := tm_lk el l0 rfl (by decide)
          have l1 := tm_lk el l1 rfl (by decide)
          have l2 : lv.lookup 2 = some (.int 0) := tm_lks el
          clear el
          have hbr : br = false := by
            cases br
            · rfl
            · exact absurd h10 c123
          refine l_enSe hM ha h12 h14 le 0 ((((((W ++ [(ba, tz)]) ++ [(ro, tz)]) ++ [(mi, tz)]) ++ [(th, tz)]) ++ [(sd, tz)]) ++ [(ch, tz)]) g17 rfl hg17 (by simp only [List.length_append, List.length_cons, List.length_nil]; omega) (fun g' q => ?_) (by omega) lv l0 l1 l2
          have k2 := kk g'
          unfold se_en at k2
          dsimp only at k2
          rw [n4, n5, n6, hbr] at k2
          simp only [List.append_assoc, List.cons_append, List.nil_append, List.append_nil, if_true, Bool.false_eq_true, if_false] at k2 q ⊢
          exact k2 q
        · have c123 : ((A 15) (a + 9)) = 1 := Classical.not_not.mp c123
          refine m_ald (pc' := 127) cd_Mo_enterSession rfl (Or.inr ⟨_, rfl, rfl, rfl⟩) l0 rfl rfl ?_
          refine m_ald (pc' := 128) cd_Mo_enterSession rfl (Or.inr ⟨_, rfl, rfl, rfl⟩) l0 rfl rfl ?_
          refine m_fR (r := 14) (a := 15) (ad := 1497) (pc' := 131) rfl rfl cd_Mo_enterSession rfl rfl rfl rfl rfl ?_
          refine m_ild (pc' := 132) cd_Mo_enterSession rfl (Or.inr ⟨_, rfl, rfl, rfl⟩) l1 rfl ?_
          refine m_k2 (v := 10) (pc' := 134) cd_Mo_enterSession rfl (by decide) rfl ?_
          refine m_pure (pc' := 135) (st' := [.int ((nI a) + 10), .ref 1497, .ref 1482]) cd_Mo_enterSession rfl rfl (fun _ _ => rfl) ?_
          refine m_eq (show ((nI a) + 10 : Int32) = nI (a + 10) from nI_add a 10) ?_
          refine m_aI (r := 14) (a := 15) (g := (A 15)) (x := ((A 15) (a + 10))) (pc' := 136) rfl rfl cd_Mo_enterSession rfl rfl rfl (vp_in_nI (by omega) (by decide)) (congrArg (A 15) (nI_clamp (by omega))) ?_
          refine m_ald (pc' := 137) cd_Mo_enterSession rfl (Or.inr ⟨_, rfl, rfl, rfl⟩) l0 rfl rfl ?_
          refine m_fR (r := 14) (a := 15) (ad := 1497) (pc' := 140) rfl rfl cd_Mo_enterSession rfl rfl rfl rfl rfl ?_
          refine m_ild (pc' := 141) cd_Mo_enterSession rfl (Or.inr ⟨_, rfl, rfl, rfl⟩) l1 rfl ?_
          refine m_k2 (v := 11) (pc' := 143) cd_Mo_enterSession rfl (by decide) rfl ?_
          refine m_pure (pc' := 144) (st' := [.int ((nI a) + 11), .ref 1497, .int (((A 15) (a + 10))), .ref 1482]) cd_Mo_enterSession rfl rfl (fun _ _ => rfl) ?_
          refine m_eq (show ((nI a) + 11 : Int32) = nI (a + 11) from nI_add a 11) ?_
          refine m_aI (r := 14) (a := 15) (g := (A 15)) (x := ((A 15) (a + 11))) (pc' := 145) rfl rfl cd_Mo_enterSession rfl rfl rfl (vp_in_nI (by omega) (by decide)) (congrArg (A 15) (nI_clamp (by omega))) ?_
          have hbr : br = true := by
            cases br
            · exact absurd (h10.symm.trans c123) (by decide)
            · rfl
          have h1011 := h11 hbr
          rw [if_pos hbr] at hW2
          simp only [List.length_cons, List.length_nil] at hW2
          refine m_cv (pc' := 148) cd_Mo_enterSession rfl rfl rfl rfl rfl cd_Mo_enter rfl (Nat.le_of_ble_eq_true rfl) (m_enter hg17 (by (try simp only [List.length_append, List.length_cons, List.length_nil]); omega) h1011.1 h1011.2 (fun g18 hg18 => ?_))
          show mg _ _ _ 148 _ [] _ _
          refine m_k1 (v := 0) (pc' := 149) cd_Mo_enterSession rfl (by decide) rfl ?_
          refine m_ist (pc' := 150) cd_Mo_enterSession rfl (Or.inr ⟨_, rfl, rfl, rfl⟩) (by decide) rfl (fun lv el => ?_)
          have l0 := tm_lk el l0 rfl (by decide)
          have l1 := tm_lk el l1 rfl (by decide)
          have l2 : lv.lookup 2 = some (.int 0) := tm_lks el
          clear el
          refine l_enSe hM ha h12 h14 le 0 (((((((W ++ [(ba, tz)]) ++ [(ro, tz)]) ++ [(mi, tz)]) ++ [(th, tz)]) ++ [(sd, tz)]) ++ [(ch, tz)]) ++ [(bp, bo)]) g18 rfl hg18 (by simp only [List.length_append, List.length_cons, List.length_nil]; omega) (fun g' q => ?_) (by omega) lv l0 l1 l2
          have k2 := kk g'
          unfold se_en at k2
          dsimp only at k2
          rw [n4, n5, n6, hbr] at k2
          simp only [List.append_assoc, List.cons_append, List.nil_append, List.append_nil, if_true, Bool.false_eq_true, if_false] at k2 q ⊢
          exact k2 q
