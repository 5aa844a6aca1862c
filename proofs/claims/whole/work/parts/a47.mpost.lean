/-! The reference: takePost -/
theorem qMm_set {w h : Nat → Int32} {T T' : List Tm} {g p k : Nat} {ve ma go ge ix ga : Int32} {ch si : Tm} {sl : Bool} {gv : Nat → List GV} {GN : GV} (hT : T <+: T') (hp : p < 6) (hk : k < (gv p).length) (hG : qMm w T (486 + g * 279) (ve, ma, go, ge, ch, si, ix, ga, sl, gv)) (e : ∀ j, ¬ (486 + g * 279 + 15 + (2 * p + k) * 22 ≤ j ∧ j < 486 + g * 279 + 15 + (2 * p + k) * 22 + 22) → h j = w j) (h0 : qGv h T' (486 + g * 279 + 15 + (2 * p + k) * 22) GN) : qMm h T' (486 + g * 279) (mm_set (ve, ma, go, ge, ch, si, ix, ga, sl, gv) p ((gv p).set k GN)) := by
  obtain ⟨⟨a1, a2, a3, a4⟩, ⟨a5, a6⟩, ⟨a7, a8, a9⟩, a10⟩ := hG
  have E : ∀ k, k < 15 → h (486 + g * 279 + k) = w (486 + g * 279 + k) := fun k hk => e _ (by omega)
  refine ⟨⟨(E 0 (by decide)).trans a1, (E 1 (by decide)).trans a2, (E 2 (by decide)).trans a3, (E 3 (by decide)).trans a4⟩, ⟨by rw [E 4 (by decide)]; exact tv_mono hT a5, by rw [E 5 (by decide)]; exact tv_mono hT a6⟩, ⟨(E 6 (by decide)).trans a7, (E 7 (by decide)).trans a8, (E 8 (by decide)).trans a9⟩, fun q hq => ?_⟩
  have h2 := (a10 p hp).1.2
  by_cases c : q = p
  · subst c
    rw [show fset gv q ((gv q).set k GN) q = (gv q).set k GN from fset_same _ _ _]
    refine ⟨⟨by rw [show 486 + g * 279 + 9 + q = 486 + g * 279 + (9 + q) by omega, E _ (by omega), ← Nat.add_assoc, List.length_set]; exact (a10 q hq).1.1, by rw [List.length_set]; exact h2⟩, fun j G hj => ?_⟩
    rw [List.getElem?_set] at hj
    by_cases c2 : k = j
    · rw [if_pos c2, if_pos hk] at hj
      cases hj
      rw [← c2]
      exact h0
    · rw [if_neg c2] at hj
      have hj1 := (List.getElem?_eq_some_iff.mp hj).1
      exact qGv_c hT (fun i hi => e _ (by omega)) ((a10 q hq).2 j G hj)
  · rw [show fset gv p ((gv p).set k GN) q = gv q from fset_ne c]
    have hq1 := a10 q hq
    refine ⟨⟨by rw [show 486 + g * 279 + 9 + q = 486 + g * 279 + (9 + q) by omega, E _ (by omega), ← Nat.add_assoc]; exact hq1.1.1, hq1.1.2⟩, fun j G hj => ?_⟩
    have hj1 := (List.getElem?_eq_some_iff.mp hj).1
    have h3 := hq1.1.2
    exact qGv_c hT (fun i hi => e _ (by omega)) (hq1.2 j G hj)
theorem hb0 {p : Nat} (hp : p < 6) : ((0 : Int32) >>> (nI p &&& 31)) &&& 1 = 0 := by
  rcases (show p = 0 ∨ p = 1 ∨ p = 2 ∨ p = 3 ∨ p = 4 ∨ p = 5 by omega) with rfl | rfl | rfl | rfl | rfl | rfl <;> decide
theorem good7_m {A : Tm} (h : Tgood 7 A = true) : ∃ m, m ≤ 9999 ∧ nu A 3 = nI m := by
  have q := good_gn h
  unfold gn at q
  simp only [Bool.and_eq_true] at q
  have hx := q.2
  unfold ib_idx at hx
  simp only [Bool.and_eq_true, Bool.not_eq_true', decide_eq_false_iff_not] at hx
  have h1 := Int32.le_iff_toInt_le.mp (Int32.not_lt.mp hx.1)
  have h2 := Int32.lt_iff_toInt_lt.mp (Int32.not_le.mp hx.2)
  have h3 : (0 : Int32).toInt = 0 := rfl
  have h4 : (10000 : Int32).toInt = 10000 := rfl
  rw [h3] at h1
  rw [h4] at h2
  refine ⟨(nu A 3).toInt.toNat, by omega, ?_⟩
  apply Int32.toInt_inj.mp
  rw [nI_toInt (by omega)]
  omega
set_option maxRecDepth 100000 in
theorem l_mtpF {sc : tm_X} {d : Nat} {f : Nat → Int32} {A : Nat → Nat → Int32} {T : List Tm} {DL : List (Int32 × Int32)} {G Kw : Tm → Prop} {q p g ti si_ hi : Nat} {H : Tm} {l : List GV} {Q : Option Value → MS → Prop} (hM : MT f A T DL G Kw) (hp : p < 6) (hg : g < 4) (hH : T[hi]? = some H) (k7 : kd H = 7) (hL : qGs (A 15) T (486 + g * 279) p l) (kn : (∀ (j : Nat) (S : GV), l[j]? = some S → S.2.1 ≠ nu H 2) → ∀ lv : tm_L, lv.lookup 0 = some (.ref 1482) → lv.lookup 1 = some (.int (nI q)) → lv.lookup 2 = some (.int (nI ti)) → lv.lookup 3 = some (.int (nI si_)) → lv.lookup 4 = some (.int (nI hi)) → lv.lookup 5 = some (.int (nI g)) → lv.lookup 6 = some (.int (nI p)) → lv.lookup 7 = some (.int (nI (486 + g * 279))) → lv.lookup 8 = some (.int (nI l.length)) → mg sc (d + 6) 243 132 lv [] (f, A) Q) (kf : ∀ (k : Nat) (S : GV), l[k]? = some S → S.2.1 = nu H 2 → (∀ (j : Nat) (S' : GV), j < k → l[j]? = some S' → S'.2.1 ≠ nu H 2) → ∀ lv : tm_L, lv.lookup 0 = some (.ref 1482) → lv.lookup 1 = some (.int (nI q)) → lv.lookup 2 = some (.int (nI ti)) → lv.lookup 3 = some (.int (nI si_)) → lv.lookup 4 = some (.int (nI hi)) → lv.lookup 5 = some (.int (nI g)) → lv.lookup 6 = some (.int (nI p)) → lv.lookup 7 = some (.int (nI (486 + g * 279))) → lv.lookup 8 = some (.int (nI k)) → mg sc (d + 6) 243 132 lv [] (f, A) Q) : ∀ (r k : Nat), k + r = l.length → (∀ (j : Nat) (S : GV), j < k → l[j]? = some S → S.2.1 ≠ nu H 2) → ∀ lv : tm_L, lv.lookup 0 = some (.ref 1482) → lv.lookup 1 = some (.int (nI q)) → lv.lookup 2 = some (.int (nI ti)) → lv.lookup 3 = some (.int (nI si_)) → lv.lookup 4 = some (.int (nI hi)) → lv.lookup 5 = some (.int (nI g)) → lv.lookup 6 = some (.int (nI p)) → lv.lookup 7 = some (.int (nI (486 + g * 279))) → lv.lookup 8 = some (.int (nI k)) → mg sc (d + 6) 243 84 lv [] (f, A) Q := by
  have h9 := hL.1.1
  have h2 := hL.1.2
  intro r
  induction r with
  | zero =>
    intro k hk hb lv l0 l1 l2 l3 l4 l5 l6 l7 l8
    refine m_ild (pc' := 86) cd_Mo_takePost rfl (Or.inl ⟨rfl, rfl⟩) l8 rfl ?_
    refine m_ald (pc' := 87) cd_Mo_takePost rfl (Or.inr ⟨_, rfl, rfl, rfl⟩) l0 rfl rfl ?_
    refine m_fR (r := 14) (a := 15) (ad := 1497) (pc' := 90) rfl rfl cd_Mo_takePost rfl rfl rfl rfl rfl ?_
    refine m_ild (pc' := 92) cd_Mo_takePost rfl (Or.inl ⟨rfl, rfl⟩) l7 rfl ?_
    refine m_k2 (v := 9) (pc' := 94) cd_Mo_takePost rfl (by decide) rfl ?_
    refine m_pure (pc' := 95) (st' := [.int ((nI (486 + g * 279)) + 9), .ref 1497, .int (nI k)]) cd_Mo_takePost rfl rfl (fun _ _ => rfl) ?_
    refine m_eq (show ((nI (486 + g * 279)) + 9 : Int32) = nI ((486 + g * 279) + 9) from nI_add (486 + g * 279) 9) ?_
    refine m_ild (pc' := 97) cd_Mo_takePost rfl (Or.inl ⟨rfl, rfl⟩) l6 rfl ?_
    refine m_pure (pc' := 98) (st' := [.int ((nI ((486 + g * 279) + 9)) + (nI p)), .ref 1497, .int (nI k)]) cd_Mo_takePost rfl rfl (fun _ _ => rfl) ?_
    refine m_eq (show ((nI ((486 + g * 279) + 9)) + (nI p) : Int32) = nI (((486 + g * 279) + 9) + p) from nI_add ((486 + g * 279) + 9) p) ?_
    refine m_aI (r := 14) (a := 15) (g := (A 15)) (x := nI l.length) (pc' := 99) rfl rfl cd_Mo_takePost rfl rfl rfl (vp_in_nI (by omega) (by decide)) (by rw [(nI_clamp (by omega))]; exact h9) ?_
    refine m_if2 (t := 132) (pc' := 102) cd_Mo_takePost rfl rfl rfl (fun c99 => ?_) (fun c99 => ?_)
    · have c99 : (nI l.length) ≤ (nI k) := c99
      have hk2 : k = l.length := by omega
      rw [hk2] at l8
      exact kn (fun j S hj => hb j S (by have := (List.getElem?_eq_some_iff.mp hj).1; omega) hj) lv l0 l1 l2 l3 l4 l5 l6 l7 l8
    · have c99 : ¬ (nI l.length) ≤ (nI k) := c99
      exact absurd (nI_le (by omega) (by omega)) c99
  | succ r ih =>
    intro k hk hb lv l0 l1 l2 l3 l4 l5 l6 l7 l8
    obtain ⟨S, hS⟩ : ∃ S, l[k]? = some S := ⟨_, List.getElem?_eq_getElem (by omega)⟩
    have g1 := (hL.2 k S hS).1.1
    refine m_ild (pc' := 86) cd_Mo_takePost rfl (Or.inl ⟨rfl, rfl⟩) l8 rfl ?_
    refine m_ald (pc' := 87) cd_Mo_takePost rfl (Or.inr ⟨_, rfl, rfl, rfl⟩) l0 rfl rfl ?_
    refine m_fR (r := 14) (a := 15) (ad := 1497) (pc' := 90) rfl rfl cd_Mo_takePost rfl rfl rfl rfl rfl ?_
    refine m_ild (pc' := 92) cd_Mo_takePost rfl (Or.inl ⟨rfl, rfl⟩) l7 rfl ?_
    refine m_k2 (v := 9) (pc' := 94) cd_Mo_takePost rfl (by decide) rfl ?_
    refine m_pure (pc' := 95) (st' := [.int ((nI (486 + g * 279)) + 9), .ref 1497, .int (nI k)]) cd_Mo_takePost rfl rfl (fun _ _ => rfl) ?_
    refine m_eq (show ((nI (486 + g * 279)) + 9 : Int32) = nI ((486 + g * 279) + 9) from nI_add (486 + g * 279) 9) ?_
    refine m_ild (pc' := 97) cd_Mo_takePost rfl (Or.inl ⟨rfl, rfl⟩) l6 rfl ?_
    refine m_pure (pc' := 98) (st' := [.int ((nI ((486 + g * 279) + 9)) + (nI p)), .ref 1497, .int (nI k)]) cd_Mo_takePost rfl rfl (fun _ _ => rfl) ?_
    refine m_eq (show ((nI ((486 + g * 279) + 9)) + (nI p) : Int32) = nI (((486 + g * 279) + 9) + p) from nI_add ((486 + g * 279) + 9) p) ?_
    refine m_aI (r := 14) (a := 15) (g := (A 15)) (x := nI l.length) (pc' := 99) rfl rfl cd_Mo_takePost rfl rfl rfl (vp_in_nI (by omega) (by decide)) (by rw [(nI_clamp (by omega))]; exact h9) ?_
    refine m_if2 (t := 132) (pc' := 102) cd_Mo_takePost rfl rfl rfl (fun c99 => ?_) (fun c99 => ?_)
    · have c99 : (nI l.length) ≤ (nI k) := c99
      exact absurd c99 (nI_ge (by omega) (by omega))
    · have c99 : ¬ (nI l.length) ≤ (nI k) := c99
      refine m_ald (pc' := 103) cd_Mo_takePost rfl (Or.inr ⟨_, rfl, rfl, rfl⟩) l0 rfl rfl ?_
      refine m_fR (r := 14) (a := 15) (ad := 1497) (pc' := 106) rfl rfl cd_Mo_takePost rfl rfl rfl rfl rfl ?_
      refine m_ild (pc' := 108) cd_Mo_takePost rfl (Or.inl ⟨rfl, rfl⟩) l5 rfl ?_
      refine m_ild (pc' := 110) cd_Mo_takePost rfl (Or.inl ⟨rfl, rfl⟩) l6 rfl ?_
      refine m_ild (pc' := 112) cd_Mo_takePost rfl (Or.inl ⟨rfl, rfl⟩) l8 rfl ?_
      refine m_si (pc' := 115) cd_Mo_takePost rfl rfl rfl rfl rfl cd_Mo_givenAt rfl (Nat.le_of_ble_eq_true rfl) (m_givenAt ?_)
      show mg _ _ _ 115 _ [.int (nI (486 + g * 279 + 15 + (2 * p + k) * 22)), .ref 1497] _ _
      refine m_aI (r := 14) (a := 15) (g := (A 15)) (x := S.2.1) (pc' := 116) rfl rfl cd_Mo_takePost rfl rfl rfl (vp_in_nI (by omega) (by decide)) (by rw [(nI_clamp (by omega))]; exact g1) ?_
      refine m_ald (pc' := 117) cd_Mo_takePost rfl (Or.inr ⟨_, rfl, rfl, rfl⟩) l0 rfl rfl ?_
      refine m_ild (pc' := 119) cd_Mo_takePost rfl (Or.inl ⟨rfl, rfl⟩) l4 rfl ?_
      refine m_k1 (v := 2) (pc' := 120) cd_Mo_takePost rfl (by decide) rfl ?_
      refine m_ci (pc' := 123) cd_Mo_takePost rfl rfl rfl rfl rfl cd_Mo_cell rfl (Nat.le_of_ble_eq_true rfl) (m_cellN (k := 2) hM hH k7 (by decide) ?_)
      show mg _ _ _ 123 _ [.int (nu H 2), .int S.2.1] _ _
      refine m_if2 (t := 132) (pc' := 126) cd_Mo_takePost rfl rfl rfl (fun c123 => ?_) (fun c123 => ?_)
      · have c123 : S.2.1 = (nu H 2) := c123
        exact kf k _ hS c123 hb lv l0 l1 l2 l3 l4 l5 l6 l7 l8
      · have c123 : ¬ S.2.1 = (nu H 2) := c123
        refine m_inc (y := nI (k + 1)) (pc' := 129) cd_Mo_takePost rfl l8 (by decide) (nI_add k 1) rfl (fun lv el => ?_)
        have l0 := tm_lk el l0 rfl (by decide)
        have l1 := tm_lk el l1 rfl (by decide)
        have l2 := tm_lk el l2 rfl (by decide)
        have l3 := tm_lk el l3 rfl (by decide)
        have l4 := tm_lk el l4 rfl (by decide)
        have l5 := tm_lk el l5 rfl (by decide)
        have l6 := tm_lk el l6 rfl (by decide)
        have l7 := tm_lk el l7 rfl (by decide)
        have l8 : lv.lookup 8 = some (.int (nI (k + 1))) := tm_lks el
        clear el
        refine m_pure (pc' := 84) (st' := []) cd_Mo_takePost rfl rfl (fun _ _ => rfl) ?_
        refine ih (k + 1) (by omega) (fun j S' hj hS' => ?_) lv l0 l1 l2 l3 l4 l5 l6 l7 l8
        by_cases q2 : j = k
        · rw [q2, hS] at hS'
          cases hS'
          exact c123
        · exact hb j S' (by omega) hS'
set_option maxRecDepth 100000 in
theorem l_mtpC {sc : tm_X} {d : Nat} {f : Nat → Int32} {A : Nat → Nat → Int32} {si_ hi v : Nat} {Q : Option Value → MS → Prop} (hv : v + 22 ≤ 1602) (kk : ∀ lv : tm_L, lv.lookup 0 = some (.ref 1482) → lv.lookup 3 = some (.int (nI si_)) → lv.lookup 4 = some (.int (nI hi)) → lv.lookup 9 = some (.int (nI v)) → mg sc (d + 6) 243 237 lv [] (f, fset A 44 (csW (A 44) (A 15) v 22)) Q) : ∀ (r i : Nat), i + r = 22 → ∀ lv : tm_L, lv.lookup 0 = some (.ref 1482) → lv.lookup 3 = some (.int (nI si_)) → lv.lookup 4 = some (.int (nI hi)) → lv.lookup 9 = some (.int (nI v)) → lv.lookup 10 = some (.int (nI i)) → mg sc (d + 6) 243 207 lv [] (f, fset A 44 (csW (A 44) (A 15) v i)) Q := by
  intro r
  induction r with
  | zero =>
    intro i hi2 lv l0 l3 l4 l9 l10
    have hi3 : i = 22 := by omega
    subst hi3
    refine m_ild (pc' := 209) cd_Mo_takePost rfl (Or.inl ⟨rfl, rfl⟩) l10 rfl ?_
    refine m_k2 (v := 22) (pc' := 211) cd_Mo_takePost rfl (by decide) rfl ?_
    refine m_if2 (t := 237) (pc' := 214) cd_Mo_takePost rfl rfl rfl (fun c211 => ?_) (fun c211 => ?_)
    · have c211 : (22 : Int32) ≤ (nI 22) := c211
      exact kk lv l0 l3 l4 l9
    · have c211 : ¬ (22 : Int32) ≤ (nI 22) := c211
      exact absurd (show (22 : Int32) ≤ nI 22 from by decide) c211
  | succ r ih =>
    intro i hi2 lv l0 l3 l4 l9 l10
    refine m_ild (pc' := 209) cd_Mo_takePost rfl (Or.inl ⟨rfl, rfl⟩) l10 rfl ?_
    refine m_k2 (v := 22) (pc' := 211) cd_Mo_takePost rfl (by decide) rfl ?_
    refine m_if2 (t := 237) (pc' := 214) cd_Mo_takePost rfl rfl rfl (fun c211 => ?_) (fun c211 => ?_)
    · have c211 : (22 : Int32) ≤ (nI i) := c211
      exact absurd c211 (nI_ge (b := 22) (by omega) (by decide))
    · have c211 : ¬ (22 : Int32) ≤ (nI i) := c211
      refine m_ald (pc' := 215) cd_Mo_takePost rfl (Or.inr ⟨_, rfl, rfl, rfl⟩) l0 rfl rfl ?_
      refine m_fR (r := 43) (a := 44) (ad := 1526) (pc' := 218) rfl rfl cd_Mo_takePost rfl rfl rfl rfl rfl ?_
      refine m_ild (pc' := 220) cd_Mo_takePost rfl (Or.inl ⟨rfl, rfl⟩) l10 rfl ?_
      refine m_ald (pc' := 221) cd_Mo_takePost rfl (Or.inr ⟨_, rfl, rfl, rfl⟩) l0 rfl rfl ?_
      refine m_fR (r := 14) (a := 15) (ad := 1497) (pc' := 224) rfl rfl cd_Mo_takePost rfl rfl rfl rfl rfl ?_
      refine m_ild (pc' := 226) cd_Mo_takePost rfl (Or.inl ⟨rfl, rfl⟩) l9 rfl ?_
      refine m_ild (pc' := 228) cd_Mo_takePost rfl (Or.inl ⟨rfl, rfl⟩) l10 rfl ?_
      refine m_pure (pc' := 229) (st' := [.int ((nI v) + (nI i)), .ref 1497, .int (nI i), .ref 1526]) cd_Mo_takePost rfl rfl (fun _ _ => rfl) ?_
      refine m_eq (show ((nI v) + (nI i) : Int32) = nI (v + i) from nI_add v i) ?_
      refine m_aI (r := 14) (a := 15) (g := (A 15)) (x := ((A 15) (v + i))) (pc' := 230) rfl rfl cd_Mo_takePost rfl rfl rfl (vp_in_nI (by omega) (by decide)) (congrArg (A 15) (nI_clamp (by omega))) ?_
      refine m_aS (r := 43) (a := 44) (g := (csW (A 44) (A 15) v i)) (p := i) (pc' := 231) rfl rfl cd_Mo_takePost rfl rfl rfl (vp_in_nI (by omega) (by decide)) (nI_clamp (by omega)) ?_
      refine m_inc (y := nI (i + 1)) (pc' := 234) cd_Mo_takePost rfl l10 (by decide) (nI_add i 1) rfl (fun lv el => ?_)
      have l0 := tm_lk el l0 rfl (by decide)
      have l3 := tm_lk el l3 rfl (by decide)
      have l4 := tm_lk el l4 rfl (by decide)
      have l9 := tm_lk el l9 rfl (by decide)
      have l10 : lv.lookup 10 = some (.int (nI (i + 1))) := tm_lks el
      clear el
      refine m_pure (pc' := 207) (st' := []) cd_Mo_takePost rfl rfl (fun _ _ => rfl) ?_
      rw [fset_fset, csW_s]
      exact ih (i + 1) (by omega) lv l0 l3 l4 l9 l10
set_option maxRecDepth 100000 in
theorem l_mtpW {sc : tm_X} {d : Nat} {f : Nat → Int32} {A : Nat → Nat → Int32} {v : Nat} {Q : Int32 → MS → Prop} (hv : v + 22 ≤ 1602) (kk : Q 1 (f, fset A 15 (cpW (A 15) (A 44) v 22))) : ∀ (r i : Nat), i + r = 22 → ∀ lv : tm_L, lv.lookup 0 = some (.ref 1482) → lv.lookup 9 = some (.int (nI v)) → lv.lookup 11 = some (.int (nI i)) → mg sc (d + 6) 243 294 lv [] (f, fset A 15 (cpW (A 15) (A 44) v i)) (fun r s' => ∃ v, r = some (.int v) ∧ Q v s') := by
  intro r
  induction r with
  | zero =>
    intro i hi2 lv l0 l9 l11
    have hi3 : i = 22 := by omega
    subst hi3
    refine m_ild (pc' := 296) cd_Mo_takePost rfl (Or.inl ⟨rfl, rfl⟩) l11 rfl ?_
    refine m_k2 (v := 22) (pc' := 298) cd_Mo_takePost rfl (by decide) rfl ?_
    refine m_if2 (t := 324) (pc' := 301) cd_Mo_takePost rfl rfl rfl (fun c298 => ?_) (fun c298 => ?_)
    · have c298 : (22 : Int32) ≤ (nI 22) := c298
      refine m_k1 (v := 1) (pc' := 325) cd_Mo_takePost rfl (by decide) rfl ?_
      exact m_reti cd_Mo_takePost rfl ⟨_, rfl, kk⟩
    · have c298 : ¬ (22 : Int32) ≤ (nI 22) := c298
      exact absurd (show (22 : Int32) ≤ nI 22 from by decide) c298
  | succ r ih =>
    intro i hi2 lv l0 l9 l11
    refine m_ild (pc' := 296) cd_Mo_takePost rfl (Or.inl ⟨rfl, rfl⟩) l11 rfl ?_
    refine m_k2 (v := 22) (pc' := 298) cd_Mo_takePost rfl (by decide) rfl ?_
    refine m_if2 (t := 324) (pc' := 301) cd_Mo_takePost rfl rfl rfl (fun c298 => ?_) (fun c298 => ?_)
    · have c298 : (22 : Int32) ≤ (nI i) := c298
      exact absurd c298 (nI_ge (b := 22) (by omega) (by decide))
    · have c298 : ¬ (22 : Int32) ≤ (nI i) := c298
      refine m_ald (pc' := 302) cd_Mo_takePost rfl (Or.inr ⟨_, rfl, rfl, rfl⟩) l0 rfl rfl ?_
      refine m_fR (r := 14) (a := 15) (ad := 1497) (pc' := 305) rfl rfl cd_Mo_takePost rfl rfl rfl rfl rfl ?_
      refine m_ild (pc' := 307) cd_Mo_takePost rfl (Or.inl ⟨rfl, rfl⟩) l9 rfl ?_
      refine m_ild (pc' := 309) cd_Mo_takePost rfl (Or.inl ⟨rfl, rfl⟩) l11 rfl ?_
      refine m_pure (pc' := 310) (st' := [.int ((nI v) + (nI i)), .ref 1497]) cd_Mo_takePost rfl rfl (fun _ _ => rfl) ?_
      refine m_eq (show ((nI v) + (nI i) : Int32) = nI (v + i) from nI_add v i) ?_
      refine m_ald (pc' := 311) cd_Mo_takePost rfl (Or.inr ⟨_, rfl, rfl, rfl⟩) l0 rfl rfl ?_
      refine m_fR (r := 43) (a := 44) (ad := 1526) (pc' := 314) rfl rfl cd_Mo_takePost rfl rfl rfl rfl rfl ?_
      refine m_ild (pc' := 316) cd_Mo_takePost rfl (Or.inl ⟨rfl, rfl⟩) l11 rfl ?_
      refine m_aI (r := 43) (a := 44) (g := (A 44)) (x := ((A 44) i)) (pc' := 317) rfl rfl cd_Mo_takePost rfl rfl rfl (vp_in_nI (by omega) (by decide)) (congrArg (A 44) (nI_clamp (by omega))) ?_
      refine m_aS (r := 14) (a := 15) (g := (cpW (A 15) (A 44) v i)) (p := (v + i)) (pc' := 318) rfl rfl cd_Mo_takePost rfl rfl rfl (vp_in_nI (by omega) (by decide)) (nI_clamp (by omega)) ?_
      refine m_inc (y := nI (i + 1)) (pc' := 321) cd_Mo_takePost rfl l11 (by decide) (nI_add i 1) rfl (fun lv el => ?_)
      have l0 := tm_lk el l0 rfl (by decide)
      have l9 := tm_lk el l9 rfl (by decide)
      have l11 : lv.lookup 11 = some (.int (nI (i + 1))) := tm_lks el
      clear el
      refine m_pure (pc' := 294) (st' := []) cd_Mo_takePost rfl rfl (fun _ _ => rfl) ?_
      rw [fset_fset, cpW_s]
      exact ih (i + 1) (by omega) lv l0 l9 l11
set_option maxRecDepth 100000 in
theorem m_takePost {sc : tm_X} {d : Nat} {f : Nat → Int32} {A : Nat → Nat → Int32} {T : List Tm} {DL : List (Int32 × Int32)} {G Kw : Tm → Prop} {ve ma go ge ix ga : Int32} {ch si : Tm} {sl : Bool} {gv : Nat → List GV} {q p g ti : Nat} {X : Tm} {Q : Int32 → MS → Prop} (hM : MT f A T DL G Kw) (hl : T.length + 13 ≤ 4000) (hr : rc (A 1) T.length < 1000) (hq : q < 6) (hp : p < 6) (hg : g < 4) (hX : T[ti]? = some X) (kX : kd X = 6) (kS : kd (pt X 1) = 5) (gH : Tgood 7 (pt (pt X 1) 1) = true) (eg : nu (pt (pt X 1) 1) 0 = nI g) (ep : nu (pt (pt X 1) 1) 1 = nI p) (hG : qMm (A 15) T (486 + g * 279) (ve, ma, go, ge, ch, si, ix, ga, sl, gv)) (hv0 : ve = 0 → ma = 0) (hgv : ∀ (k : Nat) (S : GV), (gv p)[k]? = some S → S.1.1 ≠ tz ∧ (∃ nn, nn ≤ 10000 ∧ S.1.2.2.1 = nI nn) ∧ ∀ e, e ∈ S.1.2.2.2 → e.1 = S.1.1) (kN : (tp_spec X q p (ve, ma, go, ge, ch, si, ix, ga, sl, gv)).1 < 0 → ∀ f1 A1 T1, T <+: T1 → T1.length ≤ T.length + 13 → rc (A1 1) T1.length ≤ rc (A 1) T.length →  MT (mjKf f1 f) (mjQA A1 A) T1 DL G Kw → Q (tp_spec X q p (ve, ma, go, ge, ch, si, ix, ga, sl, gv)).1 (mjKf f1 f, mjQA A1 A)) (kk : (tp_spec X q p (ve, ma, go, ge, ch, si, ix, ga, sl, gv)).1 = 1 → ∀ f1 A1 T1, T <+: T1 → T1.length ≤ T.length + 13 → rc (A1 1) T1.length ≤ rc (A 1) T.length →  MT (mjKf f1 f) (mjQA A1 A) T1 DL G Kw → qMm (A1 15) T1 (486 + g * 279) (tp_spec X q p (ve, ma, go, ge, ch, si, ix, ga, sl, gv)).2 → (∀ j, ¬ ((486 + g * 279) ≤ j ∧ j < (486 + g * 279) + 279) → A1 15 j = A 15 j) → A1 44 21 = bz (tp_one X p (ve, ma, go, ge, ch, si, ix, ga, sl, gv)) → Q 1 (mjKf f1 f, mjQA A1 A)) : mGi sc (d + 6) 243 [.ref 1482, .int (nI q), .int (nI ti)] (f, A) Q := by
  have hTl := MT_len hM
  have hti := tv_lt hX
  have k7 := good_k7 gH
  obtain ⟨m, hm, em⟩ := good7_m gH
  obtain ⟨si_, esi, hSi⟩ := MT_two hM hX (Or.inr (Or.inr kX))
  have hsi := tv_lt hSi
  obtain ⟨hi, ehi, hH⟩ := MT_two hM hSi (Or.inr (Or.inl kS))
  obtain ⟨oi, eoi, hoi⟩ := MT_one hM hX (Or.inr (Or.inr (Or.inr kX)))
  have hoil := tv_lt hoi
  have hko := MT_kd hM hoi
  have hve := hG.1.1
  have hma := hG.1.2.1
  have hL := hG.2.2.2 p hp
  have hl2 := hL.1.2
  have h9 := hL.1.1
  have hkS := MT_one hM hSi (Or.inr (Or.inr (Or.inl kS)))
  obtain ⟨bi, ebi, hbi⟩ := MT_three hM hSi kS
  show mg sc (d + 6) 243 0 [(0, .ref 1482), (1, .int (nI q)), (2, .int (nI ti))] [] (f, A) _
  generalize elv : ([(0, .ref 1482), (1, .int (nI q)), (2, .int (nI ti))] : tm_L) = lv
  have l0 : lv.lookup 0 = some (.ref 1482) := by rw [← elv]; rfl
  have l1 : lv.lookup 1 = some (.int (nI q)) := by rw [← elv]; rfl
  have l2 : lv.lookup 2 = some (.int (nI ti)) := by rw [← elv]; rfl
  clear elv
  refine m_ald (pc' := 1) cd_Mo_takePost rfl (Or.inr ⟨_, rfl, rfl, rfl⟩) l0 rfl rfl ?_
  refine m_fR (r := 2) (a := 3) (ad := 1485) (pc' := 4) rfl rfl cd_Mo_takePost rfl rfl rfl rfl rfl ?_
  refine m_ild (pc' := 5) cd_Mo_takePost rfl (Or.inr ⟨_, rfl, rfl, rfl⟩) l2 rfl ?_
  refine m_aI (r := 2) (a := 3) (g := (A 3)) (x := nI si_) (pc' := 6) rfl rfl cd_Mo_takePost rfl rfl rfl (vp_in_nI (by omega) (by decide)) ((congrArg (A 3) (nI_clamp (by omega))).trans esi) ?_
  refine m_ist (pc' := 7) cd_Mo_takePost rfl (Or.inr ⟨_, rfl, rfl, rfl⟩) (by decide) rfl (fun lv el => ?_)
  have l0 := tm_lk el l0 rfl (by decide)
  have l1 := tm_lk el l1 rfl (by decide)
  have l2 := tm_lk el l2 rfl (by decide)
  have l3 : lv.lookup 3 = some (.int (nI si_)) := tm_lks el
  clear el
  refine m_ald (pc' := 8) cd_Mo_takePost rfl (Or.inr ⟨_, rfl, rfl, rfl⟩) l0 rfl rfl ?_
  refine m_fR (r := 2) (a := 3) (ad := 1485) (pc' := 11) rfl rfl cd_Mo_takePost rfl rfl rfl rfl rfl ?_
  refine m_ild (pc' := 12) cd_Mo_takePost rfl (Or.inr ⟨_, rfl, rfl, rfl⟩) l3 rfl ?_
  refine m_aI (r := 2) (a := 3) (g := (A 3)) (x := nI hi) (pc' := 13) rfl rfl cd_Mo_takePost rfl rfl rfl (vp_in_nI (by omega) (by decide)) ((congrArg (A 3) (nI_clamp (by omega))).trans ehi) ?_
  refine m_ist (pc' := 15) cd_Mo_takePost rfl (Or.inl ⟨rfl, rfl⟩) (by decide) rfl (fun lv el => ?_)
  have l0 := tm_lk el l0 rfl (by decide)
  have l1 := tm_lk el l1 rfl (by decide)
  have l2 := tm_lk el l2 rfl (by decide)
  have l3 := tm_lk el l3 rfl (by decide)
  have l4 : lv.lookup 4 = some (.int (nI hi)) := tm_lks el
  clear el
  refine m_ald (pc' := 16) cd_Mo_takePost rfl (Or.inr ⟨_, rfl, rfl, rfl⟩) l0 rfl rfl ?_
  refine m_ild (pc' := 18) cd_Mo_takePost rfl (Or.inl ⟨rfl, rfl⟩) l4 rfl ?_
  refine m_k1 (v := 0) (pc' := 19) cd_Mo_takePost rfl (by decide) rfl ?_
  refine m_ci (pc' := 22) cd_Mo_takePost rfl rfl rfl rfl rfl cd_Mo_cell rfl (Nat.le_of_ble_eq_true rfl) (m_cellE (k := 0) hM hH k7 (by decide) eg ?_)
  show mg _ _ _ 22 _ [.int (nI g)] _ _
  refine m_ist (pc' := 24) cd_Mo_takePost rfl (Or.inl ⟨rfl, rfl⟩) (by decide) rfl (fun lv el => ?_)
  have l0 := tm_lk el l0 rfl (by decide)
  have l1 := tm_lk el l1 rfl (by decide)
  have l2 := tm_lk el l2 rfl (by decide)
  have l3 := tm_lk el l3 rfl (by decide)
  have l4 := tm_lk el l4 rfl (by decide)
  have l5 : lv.lookup 5 = some (.int (nI g)) := tm_lks el
  clear el
  refine m_ald (pc' := 25) cd_Mo_takePost rfl (Or.inr ⟨_, rfl, rfl, rfl⟩) l0 rfl rfl ?_
  refine m_ild (pc' := 27) cd_Mo_takePost rfl (Or.inl ⟨rfl, rfl⟩) l4 rfl ?_
  refine m_k1 (v := 1) (pc' := 28) cd_Mo_takePost rfl (by decide) rfl ?_
  refine m_ci (pc' := 31) cd_Mo_takePost rfl rfl rfl rfl rfl cd_Mo_cell rfl (Nat.le_of_ble_eq_true rfl) (m_cellE (k := 1) hM hH k7 (by decide) ep ?_)
  show mg _ _ _ 31 _ [.int (nI p)] _ _
  refine m_ist (pc' := 33) cd_Mo_takePost rfl (Or.inl ⟨rfl, rfl⟩) (by decide) rfl (fun lv el => ?_)
  have l0 := tm_lk el l0 rfl (by decide)
  have l1 := tm_lk el l1 rfl (by decide)
  have l2 := tm_lk el l2 rfl (by decide)
  have l3 := tm_lk el l3 rfl (by decide)
  have l4 := tm_lk el l4 rfl (by decide)
  have l5 := tm_lk el l5 rfl (by decide)
  have l6 : lv.lookup 6 = some (.int (nI p)) := tm_lks el
  clear el
  refine m_ild (pc' := 35) cd_Mo_takePost rfl (Or.inl ⟨rfl, rfl⟩) l6 rfl ?_
  refine m_ild (pc' := 36) cd_Mo_takePost rfl (Or.inr ⟨_, rfl, rfl, rfl⟩) l1 rfl ?_
  refine m_if2 (t := 42) (pc' := 39) cd_Mo_takePost rfl rfl rfl (fun c36 => ?_) (fun c36 => ?_)
  · have c36 : ¬ (nI p) = (nI q) := c36
    have hpq : p ≠ q := fun e => c36 (by rw [e])
    refine m_ild (pc' := 44) cd_Mo_takePost rfl (Or.inl ⟨rfl, rfl⟩) l5 rfl ?_
    refine m_si (pc' := 47) cd_Mo_takePost rfl rfl rfl rfl rfl cd_Mo_groupAt rfl (Nat.le_of_ble_eq_true rfl) (m_groupAt ?_)
    show mg _ _ _ 47 _ [.int (nI (486 + g * 279))] _ _
    refine m_ist (pc' := 49) cd_Mo_takePost rfl (Or.inl ⟨rfl, rfl⟩) (by decide) rfl (fun lv el => ?_)
    have l0 := tm_lk el l0 rfl (by decide)
    have l1 := tm_lk el l1 rfl (by decide)
    have l2 := tm_lk el l2 rfl (by decide)
    have l3 := tm_lk el l3 rfl (by decide)
    have l4 := tm_lk el l4 rfl (by decide)
    have l5 := tm_lk el l5 rfl (by decide)
    have l6 := tm_lk el l6 rfl (by decide)
    have l7 : lv.lookup 7 = some (.int (nI (486 + g * 279))) := tm_lks el
    clear el
    refine m_ald (pc' := 50) cd_Mo_takePost rfl (Or.inr ⟨_, rfl, rfl, rfl⟩) l0 rfl rfl ?_
    refine m_fR (r := 14) (a := 15) (ad := 1497) (pc' := 53) rfl rfl cd_Mo_takePost rfl rfl rfl rfl rfl ?_
    refine m_ild (pc' := 55) cd_Mo_takePost rfl (Or.inl ⟨rfl, rfl⟩) l7 rfl ?_
    refine m_k1 (v := 0) (pc' := 56) cd_Mo_takePost rfl (by decide) rfl ?_
    refine m_pure (pc' := 57) (st' := [.int ((nI (486 + g * 279)) + 0), .ref 1497]) cd_Mo_takePost rfl rfl (fun _ _ => rfl) ?_
    refine m_eq (show ((nI (486 + g * 279)) + 0 : Int32) = nI ((486 + g * 279) + 0) from nI_add (486 + g * 279) 0) ?_
    refine m_aI (r := 14) (a := 15) (g := (A 15)) (x := ve) (pc' := 58) rfl rfl cd_Mo_takePost rfl rfl rfl (vp_in_nI (by omega) (by decide)) (by rw [(nI_clamp (by omega))]; exact hve) ?_
    refine m_if1 (t := 78) (pc' := 61) cd_Mo_takePost rfl rfl rfl (fun c58 => ?_) (fun c58 => ?_)
    · have c58 : ve = 0 := c58
      refine m_k2 (v := (-17)) (pc' := 80) cd_Mo_takePost rfl (by decide) rfl ?_
      have hhb : hbit ma (nI p) = false := (hbit_f (by rw [show ma = 0 from hv0 c58]; exact hb0 hp))
      rw [tp_17 (A := X) (M := (ve, ma, go, ge, ch, si, ix, ga, sl, gv)) hpq (Or.inr hhb)] at kN
      exact m_reti cd_Mo_takePost rfl ⟨_, rfl, (mQ_end (Q := Q (-17)) (f := f) (A := A) (fun _ _ => rfl) (fun _ _ => rfl) (kN (by show ((-17) : Int32) < 0; decide) f A T (List.prefix_refl T) (by omega) (Nat.le_refl _) (by exact MT_i hM rfl rfl rfl rfl rfl rfl rfl rfl rfl rfl)))⟩
    · have c58 : ¬ ve = 0 := c58
      refine m_ald (pc' := 62) cd_Mo_takePost rfl (Or.inr ⟨_, rfl, rfl, rfl⟩) l0 rfl rfl ?_
      refine m_fR (r := 14) (a := 15) (ad := 1497) (pc' := 65) rfl rfl cd_Mo_takePost rfl rfl rfl rfl rfl ?_
      refine m_ild (pc' := 67) cd_Mo_takePost rfl (Or.inl ⟨rfl, rfl⟩) l7 rfl ?_
      refine m_k1 (v := 1) (pc' := 68) cd_Mo_takePost rfl (by decide) rfl ?_
      refine m_pure (pc' := 69) (st' := [.int ((nI (486 + g * 279)) + 1), .ref 1497]) cd_Mo_takePost rfl rfl (fun _ _ => rfl) ?_
      refine m_eq (show ((nI (486 + g * 279)) + 1 : Int32) = nI ((486 + g * 279) + 1) from nI_add (486 + g * 279) 1) ?_
      refine m_aI (r := 14) (a := 15) (g := (A 15)) (x := ma) (pc' := 70) rfl rfl cd_Mo_takePost rfl rfl rfl (vp_in_nI (by omega) (by decide)) (by rw [(nI_clamp (by omega))]; exact hma) ?_
      refine m_ild (pc' := 72) cd_Mo_takePost rfl (Or.inl ⟨rfl, rfl⟩) l6 rfl ?_
      refine m_pure (pc' := 73) (st' := [.int (ma >>> ((nI p) &&& 31))]) cd_Mo_takePost rfl rfl (fun _ _ => rfl) ?_
      refine m_k1 (v := 1) (pc' := 74) cd_Mo_takePost rfl (by decide) rfl ?_
      refine m_pure (pc' := 75) (st' := [.int ((ma >>> ((nI p) &&& 31)) &&& 1)]) cd_Mo_takePost rfl rfl (fun _ _ => rfl) ?_
      refine m_if1 (t := 81) (pc' := 78) cd_Mo_takePost rfl rfl rfl (fun c75 => ?_) (fun c75 => ?_)
      · have c75 : ¬ ((ma >>> ((nI p) &&& 31)) &&& 1) = 0 := c75
        have hhb : hbit ma (nI p) = true := hbit_t c75
        refine m_k1 (v := 0) (pc' := 82) cd_Mo_takePost rfl (by decide) rfl ?_
        refine m_ist (pc' := 84) cd_Mo_takePost rfl (Or.inl ⟨rfl, rfl⟩) (by decide) rfl (fun lv el => ?_)
        have l0 := tm_lk el l0 rfl (by decide)
        have l1 := tm_lk el l1 rfl (by decide)
        have l2 := tm_lk el l2 rfl (by decide)
        have l3 := tm_lk el l3 rfl (by decide)
        have l4 := tm_lk el l4 rfl (by decide)
        have l5 := tm_lk el l5 rfl (by decide)
        have l6 := tm_lk el l6 rfl (by decide)
        have l7 := tm_lk el l7 rfl (by decide)
        have l8 : lv.lookup 8 = some (.int 0) := tm_lks el
        clear el
        refine l_mtpF hM hp hg hH k7 hL (fun hno lv l0 l1 l2 l3 l4 l5 l6 l7 l8 => ?_) (fun k S hS hb hno lv l0 l1 l2 l3 l4 l5 l6 l7 l8 => ?_) (gv p).length 0 (by omega) (fun j S q => absurd q (by omega)) lv l0 l1 l2 l3 l4 l5 l6 l7 l8
        · have hf : gv_find (gv p) (nu (pt (pt X 1) 1) 2) = none := gv_find_no hno
          refine m_ild (pc' := 134) cd_Mo_takePost rfl (Or.inl ⟨rfl, rfl⟩) l8 rfl ?_
          refine m_ald (pc' := 135) cd_Mo_takePost rfl (Or.inr ⟨_, rfl, rfl, rfl⟩) l0 rfl rfl ?_
          refine m_fR (r := 14) (a := 15) (ad := 1497) (pc' := 138) rfl rfl cd_Mo_takePost rfl rfl rfl rfl rfl ?_
          refine m_ild (pc' := 140) cd_Mo_takePost rfl (Or.inl ⟨rfl, rfl⟩) l7 rfl ?_
          refine m_k2 (v := 9) (pc' := 142) cd_Mo_takePost rfl (by decide) rfl ?_
          refine m_pure (pc' := 143) (st' := [.int ((nI (486 + g * 279)) + 9), .ref 1497, .int (nI (gv p).length)]) cd_Mo_takePost rfl rfl (fun _ _ => rfl) ?_
          refine m_eq (show ((nI (486 + g * 279)) + 9 : Int32) = nI ((486 + g * 279) + 9) from nI_add (486 + g * 279) 9) ?_
          refine m_ild (pc' := 145) cd_Mo_takePost rfl (Or.inl ⟨rfl, rfl⟩) l6 rfl ?_
          refine m_pure (pc' := 146) (st' := [.int ((nI ((486 + g * 279) + 9)) + (nI p)), .ref 1497, .int (nI (gv p).length)]) cd_Mo_takePost rfl rfl (fun _ _ => rfl) ?_
          refine m_eq (show ((nI ((486 + g * 279) + 9)) + (nI p) : Int32) = nI (((486 + g * 279) + 9) + p) from nI_add ((486 + g * 279) + 9) p) ?_
          refine m_aI (r := 14) (a := 15) (g := (A 15)) (x := nI (gv p).length) (pc' := 147) rfl rfl cd_Mo_takePost rfl rfl rfl (vp_in_nI (by omega) (by decide)) (by rw [(nI_clamp (by omega))]; exact h9) ?_
          refine m_if2 (t := 153) (pc' := 150) cd_Mo_takePost rfl rfl rfl (fun c147 => ?_) (fun c147 => ?_)
          · have c147 : ¬ (nI (gv p).length) = (nI (gv p).length) := c147
            exact absurd rfl c147
          · have c147 : (nI (gv p).length) = (nI (gv p).length) := Classical.not_not.mp c147
            refine m_k2 (v := (-17)) (pc' := 152) cd_Mo_takePost rfl (by decide) rfl ?_
            rw [tp_17 (A := X) (M := (ve, ma, go, ge, ch, si, ix, ga, sl, gv)) hpq (Or.inl hf)] at kN
            exact m_reti cd_Mo_takePost rfl ⟨_, rfl, (mQ_end (Q := Q (-17)) (f := f) (A := A) (fun _ _ => rfl) (fun _ _ => rfl) (kN (by show ((-17) : Int32) < 0; decide) f A T (List.prefix_refl T) (by omega) (Nat.le_refl _) (by exact MT_i hM rfl rfl rfl rfl rfl rfl rfl rfl rfl rfl)))⟩
        · have hk2 : k < (gv p).length := (List.getElem?_eq_some_iff.mp hS).1
          have hf : gv_find (gv p) (nu (pt (pt X 1) 1) 2) = some (k, S) := gv_find_at hl2 hS hb hno
          obtain ⟨hgz, ⟨nn, hnn, enn⟩, hle⟩ := hgv k S hS
          have hg0 := hL.2 k S hS
          have hg2 := hg0.1.2.2.1
          refine m_ild (pc' := 134) cd_Mo_takePost rfl (Or.inl ⟨rfl, rfl⟩) l8 rfl ?_
          refine m_ald (pc' := 135) cd_Mo_takePost rfl (Or.inr ⟨_, rfl, rfl, rfl⟩) l0 rfl rfl ?_
          refine m_fR (r := 14) (a := 15) (ad := 1497) (pc' := 138) rfl rfl cd_Mo_takePost rfl rfl rfl rfl rfl ?_
          refine m_ild (pc' := 140) cd_Mo_takePost rfl (Or.inl ⟨rfl, rfl⟩) l7 rfl ?_
          refine m_k2 (v := 9) (pc' := 142) cd_Mo_takePost rfl (by decide) rfl ?_
          refine m_pure (pc' := 143) (st' := [.int ((nI (486 + g * 279)) + 9), .ref 1497, .int (nI k)]) cd_Mo_takePost rfl rfl (fun _ _ => rfl) ?_
          refine m_eq (show ((nI (486 + g * 279)) + 9 : Int32) = nI ((486 + g * 279) + 9) from nI_add (486 + g * 279) 9) ?_
          refine m_ild (pc' := 145) cd_Mo_takePost rfl (Or.inl ⟨rfl, rfl⟩) l6 rfl ?_
          refine m_pure (pc' := 146) (st' := [.int ((nI ((486 + g * 279) + 9)) + (nI p)), .ref 1497, .int (nI k)]) cd_Mo_takePost rfl rfl (fun _ _ => rfl) ?_
          refine m_eq (show ((nI ((486 + g * 279) + 9)) + (nI p) : Int32) = nI (((486 + g * 279) + 9) + p) from nI_add ((486 + g * 279) + 9) p) ?_
          refine m_aI (r := 14) (a := 15) (g := (A 15)) (x := nI (gv p).length) (pc' := 147) rfl rfl cd_Mo_takePost rfl rfl rfl (vp_in_nI (by omega) (by decide)) (by rw [(nI_clamp (by omega))]; exact h9) ?_
          refine m_if2 (t := 153) (pc' := 150) cd_Mo_takePost rfl rfl rfl (fun c147 => ?_) (fun c147 => ?_)
          · have c147 : ¬ (nI k) = (nI (gv p).length) := c147
            refine m_ild (pc' := 155) cd_Mo_takePost rfl (Or.inl ⟨rfl, rfl⟩) l5 rfl ?_
            refine m_ild (pc' := 157) cd_Mo_takePost rfl (Or.inl ⟨rfl, rfl⟩) l6 rfl ?_
            refine m_ild (pc' := 159) cd_Mo_takePost rfl (Or.inl ⟨rfl, rfl⟩) l8 rfl ?_
            refine m_si (pc' := 162) cd_Mo_takePost rfl rfl rfl rfl rfl cd_Mo_givenAt rfl (Nat.le_of_ble_eq_true rfl) (m_givenAt ?_)
            show mg _ _ _ 162 _ [.int (nI (486 + g * 279 + 15 + (2 * p + k) * 22))] _ _
            refine m_ist (pc' := 164) cd_Mo_takePost rfl (Or.inl ⟨rfl, rfl⟩) (by decide) rfl (fun lv el => ?_)
            have l0 := tm_lk el l0 rfl (by decide)
            have l1 := tm_lk el l1 rfl (by decide)
            have l2 := tm_lk el l2 rfl (by decide)
            have l3 := tm_lk el l3 rfl (by decide)
            have l4 := tm_lk el l4 rfl (by decide)
            have l5 := tm_lk el l5 rfl (by decide)
            have l6 := tm_lk el l6 rfl (by decide)
            have l7 := tm_lk el l7 rfl (by decide)
            have l8 := tm_lk el l8 rfl (by decide)
            have l9 : lv.lookup 9 = some (.int (nI (486 + g * 279 + 15 + (2 * p + k) * 22))) := tm_lks el
            clear el
            refine m_ald (pc' := 165) cd_Mo_takePost rfl (Or.inr ⟨_, rfl, rfl, rfl⟩) l0 rfl rfl ?_
            refine m_fR (r := 0) (a := 1) (ad := 1483) (pc' := 168) rfl rfl cd_Mo_takePost rfl rfl rfl rfl rfl ?_
            refine m_ald (pc' := 169) cd_Mo_takePost rfl (Or.inr ⟨_, rfl, rfl, rfl⟩) l0 rfl rfl ?_
            refine m_fR (r := 1) (a := 2) (ad := 1484) (pc' := 172) rfl rfl cd_Mo_takePost rfl rfl rfl rfl rfl ?_
            refine m_ild (pc' := 173) cd_Mo_takePost rfl (Or.inr ⟨_, rfl, rfl, rfl⟩) l2 rfl ?_
            refine m_aI (r := 1) (a := 2) (g := (A 2)) (x := nI oi) (pc' := 174) rfl rfl cd_Mo_takePost rfl rfl rfl (vp_in_nI (by omega) (by decide)) ((congrArg (A 2) (nI_clamp (by omega))).trans eoi) ?_
            refine m_aI (r := 0) (a := 1) (g := (A 1)) (x := (kd (pt X 0))) (pc' := 175) rfl rfl cd_Mo_takePost rfl rfl rfl (vp_in_nI (by omega) (by decide)) ((congrArg (A 1) (nI_clamp (by omega))).trans hko) ?_
            refine m_k1 (v := 1) (pc' := 176) cd_Mo_takePost rfl (by decide) rfl ?_
            refine m_if2 (t := 201) (pc' := 179) cd_Mo_takePost rfl rfl rfl (fun c176 => ?_) (fun c176 => ?_)
            · have c176 : ¬ (kd (pt X 0)) = 1 := c176
              refine m_k2 (v := (-14)) (pc' := 203) cd_Mo_takePost rfl (by decide) rfl ?_
              rw [tp_go (A := X) (M := (ve, ma, go, ge, ch, si, ix, ga, sl, gv)) hpq hf hhb, cif_f (by rw [if_neg c176]; exact fun e => hgz e.symm)] at kN
              exact m_reti cd_Mo_takePost rfl ⟨_, rfl, (mQ_end (Q := Q (-14)) (f := f) (A := A) (fun _ _ => rfl) (fun _ _ => rfl) (kN (by show ((-14) : Int32) < 0; decide) f A T (List.prefix_refl T) (by omega) (Nat.le_refl _) (by exact MT_i hM rfl rfl rfl rfl rfl rfl rfl rfl rfl rfl)))⟩
            · have c176 : (kd (pt X 0)) = 1 := Classical.not_not.mp c176
              refine m_ald (pc' := 180) cd_Mo_takePost rfl (Or.inr ⟨_, rfl, rfl, rfl⟩) l0 rfl rfl ?_
              refine m_ald (pc' := 181) cd_Mo_takePost rfl (Or.inr ⟨_, rfl, rfl, rfl⟩) l0 rfl rfl ?_
              refine m_fR (r := 1) (a := 2) (ad := 1484) (pc' := 184) rfl rfl cd_Mo_takePost rfl rfl rfl rfl rfl ?_
              refine m_ild (pc' := 185) cd_Mo_takePost rfl (Or.inr ⟨_, rfl, rfl, rfl⟩) l2 rfl ?_
              refine m_aI (r := 1) (a := 2) (g := (A 2)) (x := nI oi) (pc' := 186) rfl rfl cd_Mo_takePost rfl rfl rfl (vp_in_nI (by omega) (by decide)) ((congrArg (A 2) (nI_clamp (by omega))).trans eoi) ?_
              refine m_ci (pc' := 189) cd_Mo_takePost rfl rfl rfl rfl rfl cd_Mo_publicOf rfl (Nat.le_of_ble_eq_true rfl) (m_publicOf (by exact MT_i hM rfl rfl rfl rfl rfl rfl rfl rfl rfl rfl) (by omega) (by show rc (A 1) T.length < 1000; omega) (⟨oi, rfl, hoi⟩ : tv T (nI oi) (pt X 0)) c176 (fun f1 A1 T1 r1 hx1 hr1 => ?_))
              obtain ⟨p1, q1, s1, hM1⟩ := hx1
              have hM1 : MT f1 A1 T1 _ _ _ := MT_i hM1 rfl rfl rfl rfl rfl rfl rfl rfl rfl rfl
              have s1 : rc (A1 1) T1.length ≤ rc (A 1) T.length + 0 := s1
              show mg _ _ _ 189 _ [.int r1] _ _
              refine m_ald (pc' := 190) cd_Mo_takePost rfl (Or.inr ⟨_, rfl, rfl, rfl⟩) l0 rfl rfl ?_
              refine m_fR (r := 14) (a := 15) (ad := 1497) (pc' := 193) rfl rfl cd_Mo_takePost rfl rfl rfl rfl rfl ?_
              refine m_ild (pc' := 195) cd_Mo_takePost rfl (Or.inl ⟨rfl, rfl⟩) l9 rfl ?_
              refine m_k1 (v := 2) (pc' := 196) cd_Mo_takePost rfl (by decide) rfl ?_
              refine m_pure (pc' := 197) (st' := [.int ((nI (486 + g * 279 + 15 + (2 * p + k) * 22)) + 2), .ref 1497, .int r1]) cd_Mo_takePost rfl rfl (fun _ _ => rfl) ?_
              refine m_eq (show ((nI (486 + g * 279 + 15 + (2 * p + k) * 22)) + 2 : Int32) = nI ((486 + g * 279 + 15 + (2 * p + k) * 22) + 2) from nI_add (486 + g * 279 + 15 + (2 * p + k) * 22) 2) ?_
              refine m_aI (r := 14) (a := 15) (g := (A 15)) (x := ((A 15) ((486 + g * 279 + 15 + (2 * p + k) * 22) + 2))) (pc' := 198) rfl rfl cd_Mo_takePost rfl rfl rfl (vp_in_nI (by omega) (by decide)) (congrArg (A 15) (nI_clamp (by omega))) ?_
              refine m_if2 (t := 204) (pc' := 201) cd_Mo_takePost rfl rfl rfl (fun c198 => ?_) (fun c198 => ?_)
              · have c198 : r1 = ((A 15) ((486 + g * 279 + 15 + (2 * p + k) * 22) + 2)) := c198
                refine m_k1 (v := 0) (pc' := 205) cd_Mo_takePost rfl (by decide) rfl ?_
                refine m_ist (pc' := 207) cd_Mo_takePost rfl (Or.inl ⟨rfl, rfl⟩) (by decide) rfl (fun lv el => ?_)
                have l0 := tm_lk el l0 rfl (by decide)
                have l1 := tm_lk el l1 rfl (by decide)
                have l2 := tm_lk el l2 rfl (by decide)
                have l3 := tm_lk el l3 rfl (by decide)
                have l4 := tm_lk el l4 rfl (by decide)
                have l5 := tm_lk el l5 rfl (by decide)
                have l6 := tm_lk el l6 rfl (by decide)
                have l7 := tm_lk el l7 rfl (by decide)
                have l8 := tm_lk el l8 rfl (by decide)
                have l9 := tm_lk el l9 rfl (by decide)
                have l10 : lv.lookup 10 = some (.int 0) := tm_lks el
                clear el
                have htp : (if kd (pt X 0) = 1 then Tpub (pt X 0) else tz) = S.1.1 := by rw [if_pos c176]; exact (MT_eq hM1 hr1 (tv_mono p1 hg2)).mp c198
                have ks : mg sc (d + 6) 243 207 lv [] (mjF f1 f, fset (mjA A1 A) 44 (csW (A 44) (A 15) (486 + g * 279 + 15 + (2 * p + k) * 22) 0)) (fun r s' => ∃ v, r = some (.int v) ∧ Q v s') := by
                  refine l_mtpC (A := mjA A1 A) (by omega) (fun lv l0 l3 l4 l9 => ?_) 22 0 rfl lv l0 l3 l4 l9 l10
                  have hS0 : qGv (csW (A 44) (A 15) (486 + g * 279 + 15 + (2 * p + k) * 22) 22) T1 0 S := qGv_c p1 (fun j hj => by rw [Nat.zero_add, csW_in hj]) hg0
                  obtain ⟨⟨th, chg, nx, le⟩, gen, o⟩ := S
                  dsimp only at enn hle
                  subst enn
                  refine m_ald (pc' := 238) cd_Mo_takePost rfl (Or.inr ⟨_, rfl, rfl, rfl⟩) l0 rfl rfl ?_
                  refine m_ald (pc' := 239) cd_Mo_takePost rfl (Or.inr ⟨_, rfl, rfl, rfl⟩) l0 rfl rfl ?_
                  refine m_ild (pc' := 241) cd_Mo_takePost rfl (Or.inl ⟨rfl, rfl⟩) l4 rfl ?_
                  refine m_k1 (v := 3) (pc' := 242) cd_Mo_takePost rfl (by decide) rfl ?_
                  refine m_ci (pc' := 245) cd_Mo_takePost rfl rfl rfl rfl rfl cd_Mo_cell rfl (Nat.le_of_ble_eq_true rfl) (m_cellE (k := 3) (by exact MT_i hM1 rfl rfl rfl rfl rfl rfl rfl rfl rfl rfl) (pfx_get p1 hH) k7 (by decide) em ?_)
                  show mg _ _ _ 245 _ [.int (nI m), .ref 1482] _ _
                  refine m_ci (pc' := 248) cd_Mo_takePost rfl rfl rfl rfl rfl cd_Mo_mailKey rfl (Nat.le_of_ble_eq_true rfl) (m_mailKey (by exact MT_i hM1 rfl rfl rfl rfl rfl rfl rfl rfl rfl rfl) (by omega) (by show rc (A1 1) _ < 1000; omega) hm hnn hle hS0 (fun hN f2 A2 T2 p2 q2 s2 hM2 => ?_) (fun r hN f2 A2 T2 p2 q2 s2 hM2 ht hq2 => ?_))
                  · skip
                    rw [← em] at hN
                    have s2 : rc (A2 1) T2.length ≤ rc (A1 1) T1.length := s2
                    show mg _ _ _ 248 _ [.int (-13)] _ _
                    refine m_ist (pc' := 250) cd_Mo_takePost rfl (Or.inl ⟨rfl, rfl⟩) (by decide) rfl (fun lv el => ?_)
                    have l0 := tm_lk el l0 rfl (by decide)
                    have l3 := tm_lk el l3 rfl (by decide)
                    have l4 := tm_lk el l4 rfl (by decide)
                    have l9 := tm_lk el l9 rfl (by decide)
                    have l10 : lv.lookup 10 = some (.int (-13)) := tm_lks el
                    clear el
                    refine m_ild (pc' := 252) cd_Mo_takePost rfl (Or.inl ⟨rfl, rfl⟩) l10 rfl ?_
                    refine m_if1 (t := 258) (pc' := 255) cd_Mo_takePost rfl rfl rfl (fun c252 => ?_) (fun c252 => ?_)
                    · exact absurd (show ((-13) : Int32) = 0 from c252) (by decide)
                    · have c252 : ¬ ((-13) : Int32) = 0 := c252
                      refine m_ild (pc' := 257) cd_Mo_takePost rfl (Or.inl ⟨rfl, rfl⟩) l10 rfl ?_
                      rw [tp_go (A := X) (M := (ve, ma, go, ge, ch, si, ix, ga, sl, gv)) hpq hf hhb, cif_t htp] at kN
                      have hN2 : gv_key (th, chg, nI nn, le) (nu (pt (pt X 1) 1) 3) = none := hN
                      rw [hN2] at kN
                      exact m_reti cd_Mo_takePost rfl ⟨_, rfl, (mQ_end (Q := Q (-13)) (f := f) (A := A) (fun k q => by have e0 : ¬ k = 0 := (by omega); have e7 : ¬ k = 7 := (by omega); have e61 : ¬ k = 61 := (by omega); simp only [fset, mjF, mjKf, e0, e7, e61, or_self, if_false]) (fun j q => by have e0 : ¬ (1 ≤ j ∧ j ≤ 8) := (by omega); have e15 : ¬ j = 15 := (by omega); have e43 : ¬ j = 43 := (by omega); have e44 : ¬ j = 44 := (by omega); simp only [fset, mjA, mjKA, mjUA, mjQA, e0, e15, e43, e44, or_self, if_false]) (kN (by show ((-13) : Int32) < 0; decide) _ _ T2 (p1.trans p2) (by omega) (show rc (A2 1) _ ≤ _ by omega) (by exact MT_i hM2 rfl rfl rfl rfl rfl rfl rfl rfl rfl rfl)))⟩
                  · skip
                    rw [← em] at hN
                    have s2 : rc (A2 1) T2.length ≤ rc (A1 1) T1.length := s2
                    obtain ⟨K, I⟩ := r
                    obtain ⟨x2, ex2, hx2⟩ : ∃ x2, A2 2 si_ = x2 ∧ tv T2 x2 (pt (pt X 1) 0) := ⟨_, rfl, MT_one hM2 (pfx_get (p1.trans p2) hSi) (Or.inr (Or.inr (Or.inl kS)))⟩
                    obtain ⟨b2, eb2, hb2⟩ := MT_three hM2 (pfx_get (p1.trans p2) hSi) kS
                    have hb2l := tv_lt hb2
                    show mg _ _ _ 248 _ [.int 0] _ _
                    refine m_ist (pc' := 250) cd_Mo_takePost rfl (Or.inl ⟨rfl, rfl⟩) (by decide) rfl (fun lv el => ?_)
                    have l0 := tm_lk el l0 rfl (by decide)
                    have l3 := tm_lk el l3 rfl (by decide)
                    have l4 := tm_lk el l4 rfl (by decide)
                    have l9 := tm_lk el l9 rfl (by decide)
                    have l10 : lv.lookup 10 = some (.int 0) := tm_lks el
                    clear el
                    refine m_ild (pc' := 252) cd_Mo_takePost rfl (Or.inl ⟨rfl, rfl⟩) l10 rfl ?_
                    refine m_if1 (t := 258) (pc' := 255) cd_Mo_takePost rfl rfl rfl (fun c252 => ?_) (fun c252 => ?_)
                    · have c252 : (0 : Int32) = 0 := c252
                      refine m_ald (pc' := 259) cd_Mo_takePost rfl (Or.inr ⟨_, rfl, rfl, rfl⟩) l0 rfl rfl ?_
                      refine m_fR (r := 1) (a := 2) (ad := 1484) (pc' := 262) rfl rfl cd_Mo_takePost rfl rfl rfl rfl rfl ?_
                      refine m_ild (pc' := 263) cd_Mo_takePost rfl (Or.inr ⟨_, rfl, rfl, rfl⟩) l3 rfl ?_
                      refine m_aI (r := 1) (a := 2) (g := ((mjKA A2 (mjA A1 A)) 2)) (x := x2) (pc' := 264) rfl rfl cd_Mo_takePost rfl rfl rfl (vp_in_nI (by omega) (by decide)) ((congrArg (A2 2) (nI_clamp (by omega))).trans ex2) ?_
                      refine m_ald (pc' := 265) cd_Mo_takePost rfl (Or.inr ⟨_, rfl, rfl, rfl⟩) l0 rfl rfl ?_
                      refine m_fI (k := 61) (x := (f2 61)) (pc' := 268) cd_Mo_takePost rfl rfl rfl rfl rfl rfl ?_
                      refine m_if2 (t := 274) (pc' := 271) cd_Mo_takePost rfl rfl rfl (fun c268 => ?_) (fun c268 => ?_)
                      · have c268 : x2 = (f2 61) := c268
                        refine m_ald (pc' := 275) cd_Mo_takePost rfl (Or.inr ⟨_, rfl, rfl, rfl⟩) l0 rfl rfl ?_
                        refine m_ald (pc' := 276) cd_Mo_takePost rfl (Or.inr ⟨_, rfl, rfl, rfl⟩) l0 rfl rfl ?_
                        refine m_fR (r := 3) (a := 4) (ad := 1486) (pc' := 279) rfl rfl cd_Mo_takePost rfl rfl rfl rfl rfl ?_
                        refine m_ild (pc' := 280) cd_Mo_takePost rfl (Or.inr ⟨_, rfl, rfl, rfl⟩) l3 rfl ?_
                        refine m_aI (r := 3) (a := 4) (g := ((mjKA A2 (mjA A1 A)) 4)) (x := nI b2) (pc' := 281) rfl rfl cd_Mo_takePost rfl rfl rfl (vp_in_nI (by omega) (by decide)) ((congrArg (A2 4) (nI_clamp (by omega))).trans eb2) ?_
                        refine m_k1 (v := 4) (pc' := 282) cd_Mo_takePost rfl (by decide) rfl ?_
                        refine m_ci (pc' := 285) cd_Mo_takePost rfl rfl rfl rfl rfl cd_Mo_isGood rfl (Nat.le_of_ble_eq_true rfl) (m_isGood4 (by exact MT_i hM2 rfl rfl rfl rfl rfl rfl rfl rfl rfl rfl) hb2 ?_)
                        show mg _ _ _ 285 _ [.int (bz (Tgood 4 (pt (pt X 1) 2)))] _ _
                        refine m_if1 (t := 291) (pc' := 288) cd_Mo_takePost rfl rfl rfl (fun c285 => ?_) (fun c285 => ?_)
                        · have c285 : (Tgood 4 (pt (pt X 1) 2)) = true := bz_t c285
                          refine m_k1 (v := 0) (pc' := 292) cd_Mo_takePost rfl (by decide) rfl ?_
                          refine m_ist (pc' := 294) cd_Mo_takePost rfl (Or.inl ⟨rfl, rfl⟩) (by decide) rfl (fun lv el => ?_)
                          have l0 := tm_lk el l0 rfl (by decide)
                          have l3 := tm_lk el l3 rfl (by decide)
                          have l4 := tm_lk el l4 rfl (by decide)
                          have l9 := tm_lk el l9 rfl (by decide)
                          have l10 := tm_lk el l10 rfl (by decide)
                          have l11 : lv.lookup 11 = some (.int 0) := tm_lks el
                          clear el
                          have hN2 : gv_key (th, chg, nI nn, le) (nu (pt (pt X 1) 1) 3) = some (K, I) := hN
                          have et := tp_key (A := X) (M := (ve, ma, go, ge, ch, si, ix, ga, sl, gv)) hpq hf hhb htp hN2
                          rw [cif_t ((MT_eq hM2 hx2 ht).mp c268).symm, if_pos c285] at et
                          rw [et] at kk
                          have ks : mg sc (d + 6) 243 294 lv [] (mjKf f2 (mjF f1 f), fset (mjKA A2 (fset (mjA A1 A) 44 (csW (A 44) (A 15) (486 + g * 279 + 15 + (2 * p + k) * 22) 22))) 15 (cpW (A 15) (A2 44) (486 + g * 279 + 15 + (2 * p + k) * 22) 0)) (fun r s' => ∃ v, r = some (.int v) ∧ Q v s') := by
                            refine l_mtpW (A := (mjKA A2 (fset (mjA A1 A) 44 (csW (A 44) (A 15) (486 + g * 279 + 15 + (2 * p + k) * 22) 22)))) (by omega) ?_ 22 0 rfl lv l0 l9 l11
                            have hm2 : qMm (cpW (A 15) (A2 44) (486 + g * 279 + 15 + (2 * p + k) * 22) 22) T2 (486 + g * 279) (mm_set (ve, ma, go, ge, ch, si, ix, ga, sl, gv) p ((gv p).set k (I, gen, o))) := qMm_set (p1.trans p2) hp hk2 hG (fun j hj => cpW_out hj) (qGv_c (List.prefix_refl T2) (fun j hj => by rw [cpW_in hj, Nat.zero_add]) hq2)
                            have h21 : A2 44 21 = bz (tp_one X p (ve, ma, go, ge, ch, si, ix, ga, sl, gv)) := (show A2 44 (0 + 21) = bz o from hq2.2.2.2).trans (by unfold tp_one; rw [show gv_find (mgv (ve, ma, go, ge, ch, si, ix, ga, sl, gv) p) (nu (pt (pt X 1) 1) 2) = some (k, ((th, chg, nI nn, le), gen, o)) from hf])
                            exact (mQ_end (Q := Q 1) (f := f) (A := A) (fun k q => by have e0 : ¬ k = 0 := (by omega); have e7 : ¬ k = 7 := (by omega); have e61 : ¬ k = 61 := (by omega); simp only [fset, mjF, mjKf, e0, e7, e61, or_self, if_false]) (fun j q => by have e0 : ¬ (1 ≤ j ∧ j ≤ 8) := (by omega); have e15 : ¬ j = 15 := (by omega); have e43 : ¬ j = 43 := (by omega); have e44 : ¬ j = 44 := (by omega); simp only [fset, mjA, mjKA, mjUA, mjQA, e0, e15, e43, e44, or_self, if_false]) (kk rfl _ _ T2 (p1.trans p2) (by omega) (show rc (A2 1) _ ≤ _ by omega) (by exact MT_i hM2 rfl rfl rfl rfl rfl rfl rfl rfl rfl rfl) hm2 (fun j hj => cpW_out (by omega)) h21))
                          rw [cpW_0] at ks
                          have k9 : mg sc (d + 6) 243 294 lv [] (mjKf f2 (mjF f1 f), fset (mjKA A2 (fset (mjA A1 A) 44 (csW (A 44) (A 15) (486 + g * 279 + 15 + (2 * p + k) * 22) 22))) 15 ((mjKA A2 (fset (mjA A1 A) 44 (csW (A 44) (A 15) (486 + g * 279 + 15 + (2 * p + k) * 22) 22))) 15)) (fun r s' => ∃ v, r = some (.int v) ∧ Q v s') := ks
                          rw [fset_id] at k9
                          exact k9
                        · have c285 : (Tgood 4 (pt (pt X 1) 2)) = false := bz_f (Classical.not_not.mp c285)
                          refine m_k2 (v := (-15)) (pc' := 290) cd_Mo_takePost rfl (by decide) rfl ?_
                          have hN2 : gv_key (th, chg, nI nn, le) (nu (pt (pt X 1) 1) 3) = some (K, I) := hN
                          rw [tp_key (A := X) (M := (ve, ma, go, ge, ch, si, ix, ga, sl, gv)) hpq hf hhb htp hN2, cif_t ((MT_eq hM2 hx2 ht).mp c268).symm, if_neg (by rw [c285]; decide)] at kN
                          exact m_reti cd_Mo_takePost rfl ⟨_, rfl, (mQ_end (Q := Q (-15)) (f := f) (A := A) (fun k q => by have e0 : ¬ k = 0 := (by omega); have e7 : ¬ k = 7 := (by omega); have e61 : ¬ k = 61 := (by omega); simp only [fset, mjF, mjKf, e0, e7, e61, or_self, if_false]) (fun j q => by have e0 : ¬ (1 ≤ j ∧ j ≤ 8) := (by omega); have e15 : ¬ j = 15 := (by omega); have e43 : ¬ j = 43 := (by omega); have e44 : ¬ j = 44 := (by omega); simp only [fset, mjA, mjKA, mjUA, mjQA, e0, e15, e43, e44, or_self, if_false]) (kN (by show ((-15) : Int32) < 0; decide) _ _ T2 (p1.trans p2) (by omega) (show rc (A2 1) _ ≤ _ by omega) (by exact MT_i hM2 rfl rfl rfl rfl rfl rfl rfl rfl rfl rfl)))⟩
                      · have c268 : ¬ x2 = (f2 61) := c268
                        refine m_k2 (v := (-14)) (pc' := 273) cd_Mo_takePost rfl (by decide) rfl ?_
                        have hN2 : gv_key (th, chg, nI nn, le) (nu (pt (pt X 1) 1) 3) = some (K, I) := hN
                        rw [tp_key (A := X) (M := (ve, ma, go, ge, ch, si, ix, ga, sl, gv)) hpq hf hhb htp hN2, cif_f (fun e => c268 ((MT_eq hM2 hx2 ht).mpr e.symm))] at kN
                        exact m_reti cd_Mo_takePost rfl ⟨_, rfl, (mQ_end (Q := Q (-14)) (f := f) (A := A) (fun k q => by have e0 : ¬ k = 0 := (by omega); have e7 : ¬ k = 7 := (by omega); have e61 : ¬ k = 61 := (by omega); simp only [fset, mjF, mjKf, e0, e7, e61, or_self, if_false]) (fun j q => by have e0 : ¬ (1 ≤ j ∧ j ≤ 8) := (by omega); have e15 : ¬ j = 15 := (by omega); have e43 : ¬ j = 43 := (by omega); have e44 : ¬ j = 44 := (by omega); simp only [fset, mjA, mjKA, mjUA, mjQA, e0, e15, e43, e44, or_self, if_false]) (kN (by show ((-14) : Int32) < 0; decide) _ _ T2 (p1.trans p2) (by omega) (show rc (A2 1) _ ≤ _ by omega) (by exact MT_i hM2 rfl rfl rfl rfl rfl rfl rfl rfl rfl rfl)))⟩
                    · exact absurd (show ¬ (0 : Int32) = 0 from c252) (by decide)
                rw [csW_0] at ks
                have k9 : mg sc (d + 6) 243 207 lv [] (mjF f1 f, fset (mjA A1 A) 44 ((mjA A1 A) 44)) (fun r s' => ∃ v, r = some (.int v) ∧ Q v s') := ks
                rw [fset_id] at k9
                exact k9
              · have c198 : ¬ r1 = ((A 15) ((486 + g * 279 + 15 + (2 * p + k) * 22) + 2)) := c198
                refine m_k2 (v := (-14)) (pc' := 203) cd_Mo_takePost rfl (by decide) rfl ?_
                rw [tp_go (A := X) (M := (ve, ma, go, ge, ch, si, ix, ga, sl, gv)) hpq hf hhb, cif_f (by rw [if_pos c176]; exact fun e => c198 ((MT_eq hM1 hr1 (tv_mono p1 hg2)).mpr e))] at kN
                exact m_reti cd_Mo_takePost rfl ⟨_, rfl, (mQ_end (Q := Q (-14)) (f := f) (A := A) (fun k q => by have e0 : ¬ k = 0 := (by omega); have e7 : ¬ k = 7 := (by omega); have e61 : ¬ k = 61 := (by omega); simp only [fset, mjF, mjKf, e0, e7, e61, or_self, if_false]) (fun j q => by have e0 : ¬ (1 ≤ j ∧ j ≤ 8) := (by omega); have e15 : ¬ j = 15 := (by omega); have e43 : ¬ j = 43 := (by omega); have e44 : ¬ j = 44 := (by omega); simp only [fset, mjA, mjKA, mjUA, mjQA, e0, e15, e43, e44, or_self, if_false]) (kN (by show ((-14) : Int32) < 0; decide) _ _ T1 p1 (by omega) (show rc (A1 1) _ ≤ _ by omega) (by exact MT_i hM1 rfl rfl rfl rfl rfl rfl rfl rfl rfl rfl)))⟩
          · have c147 : (nI k) = (nI (gv p).length) := Classical.not_not.mp c147
            exact absurd (nI_cxl (by omega) (by omega) c147) (by omega)
      · have c75 : ((ma >>> ((nI p) &&& 31)) &&& 1) = 0 := Classical.not_not.mp c75
        refine m_k2 (v := (-17)) (pc' := 80) cd_Mo_takePost rfl (by decide) rfl ?_
        have hhb : hbit ma (nI p) = false := (hbit_f c75)
        rw [tp_17 (A := X) (M := (ve, ma, go, ge, ch, si, ix, ga, sl, gv)) hpq (Or.inr hhb)] at kN
        exact m_reti cd_Mo_takePost rfl ⟨_, rfl, (mQ_end (Q := Q (-17)) (f := f) (A := A) (fun _ _ => rfl) (fun _ _ => rfl) (kN (by show ((-17) : Int32) < 0; decide) f A T (List.prefix_refl T) (by omega) (Nat.le_refl _) (by exact MT_i hM rfl rfl rfl rfl rfl rfl rfl rfl rfl rfl)))⟩
  · have c36 : (nI p) = (nI q) := Classical.not_not.mp c36
    refine m_k2 (v := (-11)) (pc' := 41) cd_Mo_takePost rfl (by decide) rfl ?_
    rw [tp_11 (A := X) (M := (ve, ma, go, ge, ch, si, ix, ga, sl, gv)) (nI_cxl (by omega) (by omega) c36)] at kN
    exact m_reti cd_Mo_takePost rfl ⟨_, rfl, (mQ_end (Q := Q (-11)) (f := f) (A := A) (fun _ _ => rfl) (fun _ _ => rfl) (kN (by show ((-11) : Int32) < 0; decide) f A T (List.prefix_refl T) (by omega) (Nat.le_refl _) (by exact MT_i hM rfl rfl rfl rfl rfl rfl rfl rfl rfl rfl)))⟩
