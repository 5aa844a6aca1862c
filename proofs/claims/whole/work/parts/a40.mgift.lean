/-! The reference: gift -/
theorem m_cellE {sc : tm_X} {d : Nat} {f : Nat → Int32} {A : Nat → Nat → Int32} {T : List Tm} {DL : List (Int32 × Int32)} {G W : Tm → Prop} {i k : Nat} {X : Tm} {v : Int32} {Q : Int32 → MS → Prop} (hM : MT f A T DL G W) (hX : T[i]? = some X) (hk7 : kd X = 7) (hk : k < 4) (e : nu X k = v) (kk : Q v (f, A)) : mGi sc (d + 0) 214 [.ref 1482, .int (nI i), .int (nI k)] (f, A) Q := m_cellN hM hX hk7 hk (by rw [e]; exact kk)
theorem frP_out {w : Nat → Int32} {a n r j : Nat} (h : j < a ∨ a + 2 * n ≤ j) (hr : r ≤ n) : frP w a n r j = w j := by unfold frP; rw [if_neg (by omega), if_neg (by omega)]
theorem frP_lo {w : Nat → Int32} {a n j : Nat} (h1 : a ≤ j) (h2 : j < a + n) : frP w a n 0 j = 0 := by unfold frP; rw [if_pos (by omega)]
theorem frP_hi {w : Nat → Int32} {a n j : Nat} (h1 : a + n ≤ j) (h2 : j < a + 2 * n) : frP w a n 0 j = w (j - n) := by unfold frP; rw [if_neg (by omega), if_pos (by omega)]
/-- one more given key in front -/
theorem qMm_gift {w h : Nat → Int32} {T : List Tm} {g p : Nat} {ve ma go ge ix ga : Int32} {ch si : Tm} {sl : Bool} {gv : Nat → List GV} {GN : GV} (hp : p < 6) (hG : qMm w T (486 + g * 279) (ve, ma, go, ge, ch, si, ix, ga, sl, gv)) (e : ∀ k, k ≠ 486 + g * 279 + 9 + p → ¬ (486 + g * 279 + 15 + (2 * p + 0) * 22 ≤ k ∧ k < 486 + g * 279 + 15 + (2 * p + 0) * 22 + 22) → h k = frP w (486 + g * 279 + 15 + (2 * p + 0) * 22) 22 0 k) (hn : h (486 + g * 279 + 9 + p) = nI (min ((gv p).length + 1) 2)) (h0 : qGv h T (486 + g * 279 + 15 + (2 * p + 0) * 22) GN) : qMm h T (486 + g * 279) (mm_set (ve, ma, go, ge, ch, si, ix, ga, sl, gv) p (GN :: (gv p).take 1)) := by
  obtain ⟨⟨a1, a2, a3, a4⟩, ⟨a5, a6⟩, ⟨a7, a8, a9⟩, a10⟩ := hG
  have E : ∀ k, k < 9 → h (486 + g * 279 + k) = w (486 + g * 279 + k) := fun k hk => by rw [e _ (by omega) (by omega), frP_out (by omega) (by omega)]
  refine ⟨⟨(E 0 (by decide)).trans a1, (E 1 (by decide)).trans a2, (E 2 (by decide)).trans a3, (E 3 (by decide)).trans a4⟩, ⟨by rw [E 4 (by decide)]; exact a5, by rw [E 5 (by decide)]; exact a6⟩, ⟨(E 6 (by decide)).trans a7, (E 7 (by decide)).trans a8, (E 8 (by decide)).trans a9⟩, fun q hq => ?_⟩
  by_cases c : q = p
  · subst c
    rw [show fset gv q (GN :: (gv q).take 1) q = GN :: (gv q).take 1 from fset_same _ _ _]
    have hl := (a10 q hq).1.2
    refine ⟨⟨by rw [hn]; congr 1; simp; omega, by simp; omega⟩, fun k G hk => ?_⟩
    rcases k with _ | k
    · cases hk
      exact h0
    · have hk : ((gv q).take 1)[k]? = some G := hk
      have hk1 := (List.getElem?_eq_some_iff.mp hk).1
      rw [List.length_take] at hk1
      have hk0 : k = 0 := by omega
      subst hk0
      have hk : (gv q)[0]? = some G := by rw [List.getElem?_take, if_pos (by omega)] at hk; exact hk
      refine qGv_c (List.prefix_refl T) (fun j hj => ?_) ((a10 q hq).2 0 G hk)
      rw [e _ (by omega) (by omega), frP_hi (by omega) (by omega)]
      congr 1
      omega
  · rw [show fset gv p (GN :: (gv p).take 1) q = gv q from fset_ne c]
    have hq1 := a10 q hq
    refine ⟨⟨by rw [e _ (by omega) (by omega), frP_out (by omega) (by omega)]; exact hq1.1.1, hq1.1.2⟩, fun k G hk => ?_⟩
    have hk1 := (List.getElem?_eq_some_iff.mp hk).1
    have h2 := hq1.1.2
    refine qGv_c (List.prefix_refl T) (fun j hj => ?_) (hq1.2 k G hk)
    rw [e _ (by omega) (by omega), frP_out (by omega) (by omega)]
set_option maxRecDepth 100000 in
theorem l_mgift {sc : tm_X} {d : Nat} {f : Nat → Int32} {A : Nat → Nat → Int32} {T : List Tm} {DL : List (Int32 × Int32)} {G Kw : Tm → Prop} {l : List GV} {p g bi : Nat} {B : Tm} {Q : Option Value → MS → Prop} (hM : MT f A T DL G Kw) (hp : p < 6) (hg : g < 4) (hB : T[bi]? = some B) (kB : kd B = 7) (hL : qGs (A 15) T (486 + g * 279) p l) (ky : (∀ (j : Nat) (e : GV), l[j]? = some e → ¬ nu B 1 ≤ e.2.1) → ∀ lv : tm_L, lv.lookup 0 = some (.ref 1482) → lv.lookup 1 = some (.int (nI p)) → lv.lookup 2 = some (.int (nI bi)) → lv.lookup 3 = some (.int (nI g)) → lv.lookup 4 = some (.int (nI ((486 + g * 279) + 9 + p))) → lv.lookup 5 = some (.int 1) → mg sc (d + 3) 241 75 lv [] (f, A) Q) (kn : (∃ (j : Nat) (e : GV), l[j]? = some e ∧ nu B 1 ≤ e.2.1) → ∀ lv : tm_L, lv.lookup 0 = some (.ref 1482) → lv.lookup 1 = some (.int (nI p)) → lv.lookup 2 = some (.int (nI bi)) → lv.lookup 3 = some (.int (nI g)) → lv.lookup 4 = some (.int (nI ((486 + g * 279) + 9 + p))) → lv.lookup 5 = some (.int 0) → mg sc (d + 3) 241 75 lv [] (f, A) Q) : ∀ (r k : Nat) (mo : Bool), k + r = l.length → (mo = true → ∀ (j : Nat) (e : GV), j < k → l[j]? = some e → ¬ nu B 1 ≤ e.2.1) → (mo = false → ∃ (j : Nat) (e : GV), l[j]? = some e ∧ nu B 1 ≤ e.2.1) → ∀ lv : tm_L, lv.lookup 0 = some (.ref 1482) → lv.lookup 1 = some (.int (nI p)) → lv.lookup 2 = some (.int (nI bi)) → lv.lookup 3 = some (.int (nI g)) → lv.lookup 4 = some (.int (nI ((486 + g * 279) + 9 + p))) → lv.lookup 5 = some (.int (bz mo)) → lv.lookup 6 = some (.int (nI k)) → mg sc (d + 3) 241 24 lv [] (f, A) Q := by
  have h9 := hL.1.1
  have h2 := hL.1.2
  intro r
  induction r with
  | zero =>
    intro k mo hk hy hn lv l0 l1 l2 l3 l4 l5 l6
    refine m_ild (pc' := 26) cd_Mo_gift rfl (Or.inl ⟨rfl, rfl⟩) l6 rfl ?_
    refine m_ald (pc' := 27) cd_Mo_gift rfl (Or.inr ⟨_, rfl, rfl, rfl⟩) l0 rfl rfl ?_
    refine m_fR (r := 14) (a := 15) (ad := 1497) (pc' := 30) rfl rfl cd_Mo_gift rfl rfl rfl rfl rfl ?_
    refine m_ild (pc' := 32) cd_Mo_gift rfl (Or.inl ⟨rfl, rfl⟩) l4 rfl ?_
    refine m_aI (r := 14) (a := 15) (g := (A 15)) (x := nI l.length) (pc' := 33) rfl rfl cd_Mo_gift rfl rfl rfl (vp_in_nI (by omega) (by decide)) (by rw [(nI_clamp (by omega))]; exact h9) ?_
    refine m_if2 (t := 75) (pc' := 36) cd_Mo_gift rfl rfl rfl (fun c33 => ?_) (fun c33 => ?_)
    · have c33 : (nI l.length) ≤ (nI k) := c33
      cases mo with
      | true => exact ky (fun j e he => hy rfl j e (by have := (List.getElem?_eq_some_iff.mp he).1; omega) he) lv l0 l1 l2 l3 l4 l5
      | false => exact kn (hn rfl) lv l0 l1 l2 l3 l4 l5
    · have c33 : ¬ (nI l.length) ≤ (nI k) := c33
      exact absurd (nI_le (by omega) (by omega)) c33
  | succ r ih =>
    intro k mo hk hy hn lv l0 l1 l2 l3 l4 l5 l6
    obtain ⟨e, he⟩ : ∃ e, l[k]? = some e := ⟨_, List.getElem?_eq_getElem (by omega)⟩
    have g1 := (hL.2 k e he).1.1
    refine m_ild (pc' := 26) cd_Mo_gift rfl (Or.inl ⟨rfl, rfl⟩) l6 rfl ?_
    refine m_ald (pc' := 27) cd_Mo_gift rfl (Or.inr ⟨_, rfl, rfl, rfl⟩) l0 rfl rfl ?_
    refine m_fR (r := 14) (a := 15) (ad := 1497) (pc' := 30) rfl rfl cd_Mo_gift rfl rfl rfl rfl rfl ?_
    refine m_ild (pc' := 32) cd_Mo_gift rfl (Or.inl ⟨rfl, rfl⟩) l4 rfl ?_
    refine m_aI (r := 14) (a := 15) (g := (A 15)) (x := nI l.length) (pc' := 33) rfl rfl cd_Mo_gift rfl rfl rfl (vp_in_nI (by omega) (by decide)) (by rw [(nI_clamp (by omega))]; exact h9) ?_
    refine m_if2 (t := 75) (pc' := 36) cd_Mo_gift rfl rfl rfl (fun c33 => ?_) (fun c33 => ?_)
    · have c33 : (nI l.length) ≤ (nI k) := c33
      exact absurd c33 (nI_ge (by omega) (by omega))
    · have c33 : ¬ (nI l.length) ≤ (nI k) := c33
      refine m_ild (pc' := 38) cd_Mo_gift rfl (Or.inl ⟨rfl, rfl⟩) l5 rfl ?_
      refine m_if1 (t := 66) (pc' := 41) cd_Mo_gift rfl rfl rfl (fun c38 => ?_) (fun c38 => ?_)
      · have c38 : mo = false := bz_f c38
        refine m_k1 (v := 0) (pc' := 67) cd_Mo_gift rfl (by decide) rfl ?_
        refine m_ist (pc' := 69) cd_Mo_gift rfl (Or.inl ⟨rfl, rfl⟩) (by decide) rfl (fun lv el => ?_)
        have l0 := tm_lk el l0 rfl (by decide)
        have l1 := tm_lk el l1 rfl (by decide)
        have l2 := tm_lk el l2 rfl (by decide)
        have l3 := tm_lk el l3 rfl (by decide)
        have l4 := tm_lk el l4 rfl (by decide)
        have l6 := tm_lk el l6 rfl (by decide)
        have l5 : lv.lookup 5 = some (.int 0) := tm_lks el
        clear el
        refine m_inc (y := nI (k + 1)) (pc' := 72) cd_Mo_gift rfl l6 (by decide) (nI_add k 1) rfl (fun lv el => ?_)
        have l0 := tm_lk el l0 rfl (by decide)
        have l1 := tm_lk el l1 rfl (by decide)
        have l2 := tm_lk el l2 rfl (by decide)
        have l3 := tm_lk el l3 rfl (by decide)
        have l4 := tm_lk el l4 rfl (by decide)
        have l5 := tm_lk el l5 rfl (by decide)
        have l6 : lv.lookup 6 = some (.int (nI (k + 1))) := tm_lks el
        clear el
        refine m_pure (pc' := 24) (st' := []) cd_Mo_gift rfl rfl (fun _ _ => rfl) ?_
        exact ih (k + 1) false (by omega) (fun q => nomatch q) (fun _ => hn c38) lv l0 l1 l2 l3 l4 l5 l6
      · have c38 : mo = true := bz_t c38
        refine m_ald (pc' := 42) cd_Mo_gift rfl (Or.inr ⟨_, rfl, rfl, rfl⟩) l0 rfl rfl ?_
        refine m_ild (pc' := 43) cd_Mo_gift rfl (Or.inr ⟨_, rfl, rfl, rfl⟩) l2 rfl ?_
        refine m_k1 (v := 1) (pc' := 44) cd_Mo_gift rfl (by decide) rfl ?_
        refine m_ci (pc' := 47) cd_Mo_gift rfl rfl rfl rfl rfl cd_Mo_cell rfl (Nat.le_of_ble_eq_true rfl) (m_cellN (k := 1) hM hB kB (by decide) ?_)
        show mg _ _ _ 47 _ [.int (nu B 1)] _ _
        refine m_ald (pc' := 48) cd_Mo_gift rfl (Or.inr ⟨_, rfl, rfl, rfl⟩) l0 rfl rfl ?_
        refine m_fR (r := 14) (a := 15) (ad := 1497) (pc' := 51) rfl rfl cd_Mo_gift rfl rfl rfl rfl rfl ?_
        refine m_ild (pc' := 52) cd_Mo_gift rfl (Or.inr ⟨_, rfl, rfl, rfl⟩) l3 rfl ?_
        refine m_ild (pc' := 53) cd_Mo_gift rfl (Or.inr ⟨_, rfl, rfl, rfl⟩) l1 rfl ?_
        refine m_ild (pc' := 55) cd_Mo_gift rfl (Or.inl ⟨rfl, rfl⟩) l6 rfl ?_
        refine m_si (pc' := 58) cd_Mo_gift rfl rfl rfl rfl rfl cd_Mo_givenAt rfl (Nat.le_of_ble_eq_true rfl) (m_givenAt ?_)
        show mg _ _ _ 58 _ [.int (nI (486 + g * 279 + 15 + (2 * p + k) * 22)), .ref 1497, .int (nu B 1)] _ _
        refine m_aI (r := 14) (a := 15) (g := (A 15)) (x := e.2.1) (pc' := 59) rfl rfl cd_Mo_gift rfl rfl rfl (vp_in_nI (by omega) (by decide)) (by rw [(nI_clamp (by omega))]; exact g1) ?_
        refine m_if2 (t := 66) (pc' := 62) cd_Mo_gift rfl rfl rfl (fun c59 => ?_) (fun c59 => ?_)
        · have c59 : (nu B 1) ≤ e.2.1 := c59
          refine m_k1 (v := 0) (pc' := 67) cd_Mo_gift rfl (by decide) rfl ?_
          refine m_ist (pc' := 69) cd_Mo_gift rfl (Or.inl ⟨rfl, rfl⟩) (by decide) rfl (fun lv el => ?_)
          have l0 := tm_lk el l0 rfl (by decide)
          have l1 := tm_lk el l1 rfl (by decide)
          have l2 := tm_lk el l2 rfl (by decide)
          have l3 := tm_lk el l3 rfl (by decide)
          have l4 := tm_lk el l4 rfl (by decide)
          have l6 := tm_lk el l6 rfl (by decide)
          have l5 : lv.lookup 5 = some (.int 0) := tm_lks el
          clear el
          refine m_inc (y := nI (k + 1)) (pc' := 72) cd_Mo_gift rfl l6 (by decide) (nI_add k 1) rfl (fun lv el => ?_)
          have l0 := tm_lk el l0 rfl (by decide)
          have l1 := tm_lk el l1 rfl (by decide)
          have l2 := tm_lk el l2 rfl (by decide)
          have l3 := tm_lk el l3 rfl (by decide)
          have l4 := tm_lk el l4 rfl (by decide)
          have l5 := tm_lk el l5 rfl (by decide)
          have l6 : lv.lookup 6 = some (.int (nI (k + 1))) := tm_lks el
          clear el
          refine m_pure (pc' := 24) (st' := []) cd_Mo_gift rfl rfl (fun _ _ => rfl) ?_
          exact ih (k + 1) false (by omega) (fun q => nomatch q) (fun _ => ⟨k, e, he, c59⟩) lv l0 l1 l2 l3 l4 l5 l6
        · have c59 : ¬ (nu B 1) ≤ e.2.1 := c59
          refine m_k1 (v := 1) (pc' := 63) cd_Mo_gift rfl (by decide) rfl ?_
          refine m_pure (pc' := 67) (st' := [.int 1]) cd_Mo_gift rfl rfl (fun _ _ => rfl) ?_
          refine m_ist (pc' := 69) cd_Mo_gift rfl (Or.inl ⟨rfl, rfl⟩) (by decide) rfl (fun lv el => ?_)
          have l0 := tm_lk el l0 rfl (by decide)
          have l1 := tm_lk el l1 rfl (by decide)
          have l2 := tm_lk el l2 rfl (by decide)
          have l3 := tm_lk el l3 rfl (by decide)
          have l4 := tm_lk el l4 rfl (by decide)
          have l6 := tm_lk el l6 rfl (by decide)
          have l5 : lv.lookup 5 = some (.int 1) := tm_lks el
          clear el
          refine m_inc (y := nI (k + 1)) (pc' := 72) cd_Mo_gift rfl l6 (by decide) (nI_add k 1) rfl (fun lv el => ?_)
          have l0 := tm_lk el l0 rfl (by decide)
          have l1 := tm_lk el l1 rfl (by decide)
          have l2 := tm_lk el l2 rfl (by decide)
          have l3 := tm_lk el l3 rfl (by decide)
          have l4 := tm_lk el l4 rfl (by decide)
          have l5 := tm_lk el l5 rfl (by decide)
          have l6 : lv.lookup 6 = some (.int (nI (k + 1))) := tm_lks el
          clear el
          refine m_pure (pc' := 24) (st' := []) cd_Mo_gift rfl rfl (fun _ _ => rfl) ?_
          refine ih (k + 1) true (by omega) (fun _ j x hj hx => ?_) (fun q => nomatch q) lv l0 l1 l2 l3 l4 l5 l6
          by_cases q : j = k
          · rw [q, he] at hx
            cases hx
            exact c59
          · exact hy c38 j x (by omega) hx
set_option maxRecDepth 100000 in
theorem m_gift {sc : tm_X} {d : Nat} {f : Nat → Int32} {A : Nat → Nat → Int32} {T : List Tm} {DL : List (Int32 × Int32)} {G Kw : Tm → Prop} {ve ma go ge ix ga : Int32} {ch si : Tm} {sl : Bool} {gv : Nat → List GV} {p g bi : Nat} {B : Tm} {o : Bool} {Q : Int32 → MS → Prop} (hM : MT f A T DL G Kw) (hp : p < 6) (hg : g < 4) (hB : T[bi]? = some B) (kB : kd B = 7) (eg : nu B 0 = nI g) (hG : qMm (A 15) T (486 + g * 279) (ve, ma, go, ge, ch, si, ix, ga, sl, gv)) (h37 : A 43 37 = bz o) (kk : ∀ h, qMm h T (486 + g * 279) (mm_acc (ve, ma, go, ge, ch, si, ix, ga, sl, gv) p B o) → (∀ k, ¬ ((486 + g * 279) ≤ k ∧ k < (486 + g * 279) + 279) → h k = A 15 k) → Q 2 (f, fset A 15 h)) : mGi sc (d + 3) 241 [.ref 1482, .int (nI p), .int (nI bi)] (f, A) Q := by
  have hL := hG.2.2.2 p hp
  have h9 := hL.1.1
  have h2 := hL.1.2
  show mg sc (d + 3) 241 0 [(0, .ref 1482), (1, .int (nI p)), (2, .int (nI bi))] [] (f, A) _
  generalize elv : ([(0, .ref 1482), (1, .int (nI p)), (2, .int (nI bi))] : tm_L) = lv
  have l0 : lv.lookup 0 = some (.ref 1482) := by rw [← elv]; rfl
  have l1 : lv.lookup 1 = some (.int (nI p)) := by rw [← elv]; rfl
  have l2 : lv.lookup 2 = some (.int (nI bi)) := by rw [← elv]; rfl
  clear elv
  refine m_ald (pc' := 1) cd_Mo_gift rfl (Or.inr ⟨_, rfl, rfl, rfl⟩) l0 rfl rfl ?_
  refine m_ild (pc' := 2) cd_Mo_gift rfl (Or.inr ⟨_, rfl, rfl, rfl⟩) l2 rfl ?_
  refine m_k1 (v := 0) (pc' := 3) cd_Mo_gift rfl (by decide) rfl ?_
  refine m_ci (pc' := 6) cd_Mo_gift rfl rfl rfl rfl rfl cd_Mo_cell rfl (Nat.le_of_ble_eq_true rfl) (m_cellE (k := 0) hM hB kB (by decide) eg ?_)
  show mg _ _ _ 6 _ [.int (nI g)] _ _
  refine m_ist (pc' := 7) cd_Mo_gift rfl (Or.inr ⟨_, rfl, rfl, rfl⟩) (by decide) rfl (fun lv el => ?_)
  have l0 := tm_lk el l0 rfl (by decide)
  have l1 := tm_lk el l1 rfl (by decide)
  have l2 := tm_lk el l2 rfl (by decide)
  have l3 : lv.lookup 3 = some (.int (nI g)) := tm_lks el
  clear el
  refine m_ild (pc' := 8) cd_Mo_gift rfl (Or.inr ⟨_, rfl, rfl, rfl⟩) l3 rfl ?_
  refine m_si (pc' := 11) cd_Mo_gift rfl rfl rfl rfl rfl cd_Mo_groupAt rfl (Nat.le_of_ble_eq_true rfl) (m_groupAt ?_)
  show mg _ _ _ 11 _ [.int (nI (486 + g * 279))] _ _
  refine m_k2 (v := 9) (pc' := 13) cd_Mo_gift rfl (by decide) rfl ?_
  refine m_pure (pc' := 14) (st' := [.int ((nI (486 + g * 279)) + 9)]) cd_Mo_gift rfl rfl (fun _ _ => rfl) ?_
  refine m_eq (show ((nI (486 + g * 279)) + 9 : Int32) = nI ((486 + g * 279) + 9) from nI_add (486 + g * 279) 9) ?_
  refine m_ild (pc' := 15) cd_Mo_gift rfl (Or.inr ⟨_, rfl, rfl, rfl⟩) l1 rfl ?_
  refine m_pure (pc' := 16) (st' := [.int ((nI ((486 + g * 279) + 9)) + (nI p))]) cd_Mo_gift rfl rfl (fun _ _ => rfl) ?_
  refine m_eq (show ((nI ((486 + g * 279) + 9)) + (nI p) : Int32) = nI (((486 + g * 279) + 9) + p) from nI_add ((486 + g * 279) + 9) p) ?_
  refine m_ist (pc' := 18) cd_Mo_gift rfl (Or.inl ⟨rfl, rfl⟩) (by decide) rfl (fun lv el => ?_)
  have l0 := tm_lk el l0 rfl (by decide)
  have l1 := tm_lk el l1 rfl (by decide)
  have l2 := tm_lk el l2 rfl (by decide)
  have l3 := tm_lk el l3 rfl (by decide)
  have l4 : lv.lookup 4 = some (.int (nI (((486 + g * 279) + 9) + p))) := tm_lks el
  clear el
  refine m_k1 (v := 1) (pc' := 19) cd_Mo_gift rfl (by decide) rfl ?_
  refine m_ist (pc' := 21) cd_Mo_gift rfl (Or.inl ⟨rfl, rfl⟩) (by decide) rfl (fun lv el => ?_)
  have l0 := tm_lk el l0 rfl (by decide)
  have l1 := tm_lk el l1 rfl (by decide)
  have l2 := tm_lk el l2 rfl (by decide)
  have l3 := tm_lk el l3 rfl (by decide)
  have l4 := tm_lk el l4 rfl (by decide)
  have l5 : lv.lookup 5 = some (.int 1) := tm_lks el
  clear el
  refine m_k1 (v := 0) (pc' := 22) cd_Mo_gift rfl (by decide) rfl ?_
  refine m_ist (pc' := 24) cd_Mo_gift rfl (Or.inl ⟨rfl, rfl⟩) (by decide) rfl (fun lv el => ?_)
  have l0 := tm_lk el l0 rfl (by decide)
  have l1 := tm_lk el l1 rfl (by decide)
  have l2 := tm_lk el l2 rfl (by decide)
  have l3 := tm_lk el l3 rfl (by decide)
  have l4 := tm_lk el l4 rfl (by decide)
  have l5 := tm_lk el l5 rfl (by decide)
  have l6 : lv.lookup 6 = some (.int 0) := tm_lks el
  clear el
  refine l_mgift hM hp hg hB kB hL (fun hy lv l0 l1 l2 l3 l4 l5 => ?_) (fun hn lv l0 l1 l2 l3 l4 l5 => ?_) (gv p).length 0 true (by omega) (fun _ j e q => absurd q (by omega)) (fun q => nomatch q) lv l0 l1 l2 l3 l4 l5 l6
  · skip
    refine m_ild (pc' := 77) cd_Mo_gift rfl (Or.inl ⟨rfl, rfl⟩) l5 rfl ?_
    refine m_if1 (t := 82) (pc' := 80) cd_Mo_gift rfl rfl rfl (fun c77 => ?_) (fun c77 => ?_)
    · have c77 : ¬ (1 : Int32) = 0 := c77
      refine m_ald (pc' := 83) cd_Mo_gift rfl (Or.inr ⟨_, rfl, rfl, rfl⟩) l0 rfl rfl ?_
      refine m_ild (pc' := 84) cd_Mo_gift rfl (Or.inr ⟨_, rfl, rfl, rfl⟩) l3 rfl ?_
      refine m_ild (pc' := 85) cd_Mo_gift rfl (Or.inr ⟨_, rfl, rfl, rfl⟩) l1 rfl ?_
      refine m_k1 (v := 0) (pc' := 86) cd_Mo_gift rfl (by decide) rfl ?_
      refine m_si (pc' := 89) cd_Mo_gift rfl rfl rfl rfl rfl cd_Mo_givenAt rfl (Nat.le_of_ble_eq_true rfl) (m_givenAt ?_)
      show mg _ _ _ 89 _ [.int (nI (486 + g * 279 + 15 + (2 * p + 0) * 22)), .ref 1482] _ _
      refine m_k2 (v := 22) (pc' := 91) cd_Mo_gift rfl (by decide) rfl ?_
      refine m_cv (pc' := 94) cd_Mo_gift rfl rfl rfl rfl rfl cd_Mo_front rfl (Nat.le_of_ble_eq_true rfl) (m_front (a := (486 + g * 279 + 15 + (2 * p + 0) * 22)) (n := 22) (by omega) (by decide) ?_)
      show mg _ _ _ 94 _ [] _ _
      refine m_ald (pc' := 95) cd_Mo_gift rfl (Or.inr ⟨_, rfl, rfl, rfl⟩) l0 rfl rfl ?_
      refine m_fR (r := 14) (a := 15) (ad := 1497) (pc' := 98) rfl rfl cd_Mo_gift rfl rfl rfl rfl rfl ?_
      refine m_ild (pc' := 100) cd_Mo_gift rfl (Or.inl ⟨rfl, rfl⟩) l4 rfl ?_
      refine m_ald (pc' := 101) cd_Mo_gift rfl (Or.inr ⟨_, rfl, rfl, rfl⟩) l0 rfl rfl ?_
      refine m_fR (r := 14) (a := 15) (ad := 1497) (pc' := 104) rfl rfl cd_Mo_gift rfl rfl rfl rfl rfl ?_
      refine m_ild (pc' := 106) cd_Mo_gift rfl (Or.inl ⟨rfl, rfl⟩) l4 rfl ?_
      refine m_aI (r := 14) (a := 15) (g := (frP (A 15) (486 + g * 279 + 15 + (2 * p + 0) * 22) 22 0)) (x := nI (gv p).length) (pc' := 107) rfl rfl cd_Mo_gift rfl rfl rfl (vp_in_nI (by omega) (by decide)) (by rw [(nI_clamp (by omega)), frP_out (by omega) (by omega)]; exact h9) ?_
      refine m_k1 (v := 2) (pc' := 108) cd_Mo_gift rfl (by decide) rfl ?_
      refine m_if2 (t := 123) (pc' := 111) cd_Mo_gift rfl rfl rfl (fun c108 => ?_) (fun c108 => ?_)
      · have c108 : (2 : Int32) ≤ (nI (gv p).length) := c108
        refine m_k1 (v := 2) (pc' := 124) cd_Mo_gift rfl (by decide) rfl ?_
        refine m_aS (r := 14) (a := 15) (g := (frP (A 15) (486 + g * 279 + 15 + (2 * p + 0) * 22) 22 0)) (p := ((486 + g * 279) + 9 + p)) (pc' := 125) rfl rfl cd_Mo_gift rfl rfl rfl (vp_in_nI (by omega) (by decide)) (nI_clamp (by omega)) ?_
        rw [fset_fset]
        refine m_ild (pc' := 126) cd_Mo_gift rfl (Or.inr ⟨_, rfl, rfl, rfl⟩) l3 rfl ?_
        refine m_ild (pc' := 127) cd_Mo_gift rfl (Or.inr ⟨_, rfl, rfl, rfl⟩) l1 rfl ?_
        refine m_k1 (v := 0) (pc' := 128) cd_Mo_gift rfl (by decide) rfl ?_
        refine m_si (pc' := 131) cd_Mo_gift rfl rfl rfl rfl rfl cd_Mo_givenAt rfl (Nat.le_of_ble_eq_true rfl) (m_givenAt ?_)
        show mg _ _ _ 131 _ [.int (nI (486 + g * 279 + 15 + (2 * p + 0) * 22))] _ _
        refine m_ist (pc' := 133) cd_Mo_gift rfl (Or.inl ⟨rfl, rfl⟩) (by decide) rfl (fun lv el => ?_)
        have l0 := tm_lk el l0 rfl (by decide)
        have l1 := tm_lk el l1 rfl (by decide)
        have l2 := tm_lk el l2 rfl (by decide)
        have l3 := tm_lk el l3 rfl (by decide)
        have l4 := tm_lk el l4 rfl (by decide)
        have l5 := tm_lk el l5 rfl (by decide)
        have l6 : lv.lookup 6 = some (.int (nI (486 + g * 279 + 15 + (2 * p + 0) * 22))) := tm_lks el
        clear el
        refine m_ald (pc' := 134) cd_Mo_gift rfl (Or.inr ⟨_, rfl, rfl, rfl⟩) l0 rfl rfl ?_
        refine m_fR (r := 14) (a := 15) (ad := 1497) (pc' := 137) rfl rfl cd_Mo_gift rfl rfl rfl rfl rfl ?_
        refine m_ild (pc' := 139) cd_Mo_gift rfl (Or.inl ⟨rfl, rfl⟩) l6 rfl ?_
        refine m_ald (pc' := 140) cd_Mo_gift rfl (Or.inr ⟨_, rfl, rfl, rfl⟩) l0 rfl rfl ?_
        refine m_ild (pc' := 141) cd_Mo_gift rfl (Or.inr ⟨_, rfl, rfl, rfl⟩) l2 rfl ?_
        refine m_k1 (v := 1) (pc' := 142) cd_Mo_gift rfl (by decide) rfl ?_
        refine m_ci (pc' := 145) cd_Mo_gift rfl rfl rfl rfl rfl cd_Mo_cell rfl (Nat.le_of_ble_eq_true rfl) (m_cellN (k := 1) (by exact MT_i hM rfl rfl rfl rfl rfl rfl rfl rfl rfl rfl) hB kB (by decide) ?_)
        show mg _ _ _ 145 _ [.int (nu B 1), .int (nI (486 + g * 279 + 15 + (2 * p + 0) * 22)), .ref 1497] _ _
        refine m_aS (r := 14) (a := 15) (g := (upd (frP (A 15) (486 + g * 279 + 15 + (2 * p + 0) * 22) 22 0) ((486 + g * 279) + 9 + p) 2)) (p := (486 + g * 279 + 15 + (2 * p + 0) * 22)) (pc' := 146) rfl rfl cd_Mo_gift rfl rfl rfl (vp_in_nI (by omega) (by decide)) (nI_clamp (by omega)) ?_
        rw [fset_fset]
        refine m_ald (pc' := 147) cd_Mo_gift rfl (Or.inr ⟨_, rfl, rfl, rfl⟩) l0 rfl rfl ?_
        refine m_fR (r := 14) (a := 15) (ad := 1497) (pc' := 150) rfl rfl cd_Mo_gift rfl rfl rfl rfl rfl ?_
        refine m_ild (pc' := 152) cd_Mo_gift rfl (Or.inl ⟨rfl, rfl⟩) l6 rfl ?_
        refine m_k1 (v := 1) (pc' := 153) cd_Mo_gift rfl (by decide) rfl ?_
        refine m_pure (pc' := 154) (st' := [.int ((nI (486 + g * 279 + 15 + (2 * p + 0) * 22)) + 1), .ref 1497]) cd_Mo_gift rfl rfl (fun _ _ => rfl) ?_
        refine m_eq (show ((nI (486 + g * 279 + 15 + (2 * p + 0) * 22)) + 1 : Int32) = nI ((486 + g * 279 + 15 + (2 * p + 0) * 22) + 1) from nI_add (486 + g * 279 + 15 + (2 * p + 0) * 22) 1) ?_
        refine m_ald (pc' := 155) cd_Mo_gift rfl (Or.inr ⟨_, rfl, rfl, rfl⟩) l0 rfl rfl ?_
        refine m_ild (pc' := 156) cd_Mo_gift rfl (Or.inr ⟨_, rfl, rfl, rfl⟩) l2 rfl ?_
        refine m_k1 (v := 4) (pc' := 157) cd_Mo_gift rfl (by decide) rfl ?_
        refine m_ci (pc' := 160) cd_Mo_gift rfl rfl rfl rfl rfl cd_Mo_cell rfl (Nat.le_of_ble_eq_true rfl) (m_cellP (k := 0) (by exact MT_i hM rfl rfl rfl rfl rfl rfl rfl rfl rfl rfl) hB kB (by decide) (fun x0 hx0 => ?_))
        show mg _ _ _ 160 _ [.int x0, .int (nI ((486 + g * 279 + 15 + (2 * p + 0) * 22) + 1)), .ref 1497] _ _
        refine m_aS (r := 14) (a := 15) (g := (upd (upd (frP (A 15) (486 + g * 279 + 15 + (2 * p + 0) * 22) 22 0) ((486 + g * 279) + 9 + p) 2) (486 + g * 279 + 15 + (2 * p + 0) * 22) (nu B 1))) (p := ((486 + g * 279 + 15 + (2 * p + 0) * 22) + 1)) (pc' := 161) rfl rfl cd_Mo_gift rfl rfl rfl (vp_in_nI (by omega) (by decide)) (nI_clamp (by omega)) ?_
        rw [fset_fset]
        refine m_ald (pc' := 162) cd_Mo_gift rfl (Or.inr ⟨_, rfl, rfl, rfl⟩) l0 rfl rfl ?_
        refine m_fR (r := 14) (a := 15) (ad := 1497) (pc' := 165) rfl rfl cd_Mo_gift rfl rfl rfl rfl rfl ?_
        refine m_ild (pc' := 167) cd_Mo_gift rfl (Or.inl ⟨rfl, rfl⟩) l6 rfl ?_
        refine m_k1 (v := 2) (pc' := 168) cd_Mo_gift rfl (by decide) rfl ?_
        refine m_pure (pc' := 169) (st' := [.int ((nI (486 + g * 279 + 15 + (2 * p + 0) * 22)) + 2), .ref 1497]) cd_Mo_gift rfl rfl (fun _ _ => rfl) ?_
        refine m_eq (show ((nI (486 + g * 279 + 15 + (2 * p + 0) * 22)) + 2 : Int32) = nI ((486 + g * 279 + 15 + (2 * p + 0) * 22) + 2) from nI_add (486 + g * 279 + 15 + (2 * p + 0) * 22) 2) ?_
        refine m_ald (pc' := 170) cd_Mo_gift rfl (Or.inr ⟨_, rfl, rfl, rfl⟩) l0 rfl rfl ?_
        refine m_ild (pc' := 171) cd_Mo_gift rfl (Or.inr ⟨_, rfl, rfl, rfl⟩) l2 rfl ?_
        refine m_k1 (v := 5) (pc' := 172) cd_Mo_gift rfl (by decide) rfl ?_
        refine m_ci (pc' := 175) cd_Mo_gift rfl rfl rfl rfl rfl cd_Mo_cell rfl (Nat.le_of_ble_eq_true rfl) (m_cellP (k := 1) (by exact MT_i hM rfl rfl rfl rfl rfl rfl rfl rfl rfl rfl) hB kB (by decide) (fun x1 hx1 => ?_))
        show mg _ _ _ 175 _ [.int x1, .int (nI ((486 + g * 279 + 15 + (2 * p + 0) * 22) + 2)), .ref 1497] _ _
        refine m_aS (r := 14) (a := 15) (g := (upd (upd (upd (frP (A 15) (486 + g * 279 + 15 + (2 * p + 0) * 22) 22 0) ((486 + g * 279) + 9 + p) 2) (486 + g * 279 + 15 + (2 * p + 0) * 22) (nu B 1)) ((486 + g * 279 + 15 + (2 * p + 0) * 22) + 1) x0)) (p := ((486 + g * 279 + 15 + (2 * p + 0) * 22) + 2)) (pc' := 176) rfl rfl cd_Mo_gift rfl rfl rfl (vp_in_nI (by omega) (by decide)) (nI_clamp (by omega)) ?_
        rw [fset_fset]
        refine m_ald (pc' := 177) cd_Mo_gift rfl (Or.inr ⟨_, rfl, rfl, rfl⟩) l0 rfl rfl ?_
        refine m_fR (r := 14) (a := 15) (ad := 1497) (pc' := 180) rfl rfl cd_Mo_gift rfl rfl rfl rfl rfl ?_
        refine m_ild (pc' := 182) cd_Mo_gift rfl (Or.inl ⟨rfl, rfl⟩) l6 rfl ?_
        refine m_k1 (v := 3) (pc' := 183) cd_Mo_gift rfl (by decide) rfl ?_
        refine m_pure (pc' := 184) (st' := [.int ((nI (486 + g * 279 + 15 + (2 * p + 0) * 22)) + 3), .ref 1497]) cd_Mo_gift rfl rfl (fun _ _ => rfl) ?_
        refine m_eq (show ((nI (486 + g * 279 + 15 + (2 * p + 0) * 22)) + 3 : Int32) = nI ((486 + g * 279 + 15 + (2 * p + 0) * 22) + 3) from nI_add (486 + g * 279 + 15 + (2 * p + 0) * 22) 3) ?_
        refine m_ald (pc' := 185) cd_Mo_gift rfl (Or.inr ⟨_, rfl, rfl, rfl⟩) l0 rfl rfl ?_
        refine m_ild (pc' := 186) cd_Mo_gift rfl (Or.inr ⟨_, rfl, rfl, rfl⟩) l2 rfl ?_
        refine m_k1 (v := 2) (pc' := 187) cd_Mo_gift rfl (by decide) rfl ?_
        refine m_ci (pc' := 190) cd_Mo_gift rfl rfl rfl rfl rfl cd_Mo_cell rfl (Nat.le_of_ble_eq_true rfl) (m_cellN (k := 2) (by exact MT_i hM rfl rfl rfl rfl rfl rfl rfl rfl rfl rfl) hB kB (by decide) ?_)
        show mg _ _ _ 190 _ [.int (nu B 2), .int (nI ((486 + g * 279 + 15 + (2 * p + 0) * 22) + 3)), .ref 1497] _ _
        refine m_aS (r := 14) (a := 15) (g := (upd (upd (upd (upd (frP (A 15) (486 + g * 279 + 15 + (2 * p + 0) * 22) 22 0) ((486 + g * 279) + 9 + p) 2) (486 + g * 279 + 15 + (2 * p + 0) * 22) (nu B 1)) ((486 + g * 279 + 15 + (2 * p + 0) * 22) + 1) x0) ((486 + g * 279 + 15 + (2 * p + 0) * 22) + 2) x1)) (p := ((486 + g * 279 + 15 + (2 * p + 0) * 22) + 3)) (pc' := 191) rfl rfl cd_Mo_gift rfl rfl rfl (vp_in_nI (by omega) (by decide)) (nI_clamp (by omega)) ?_
        rw [fset_fset]
        refine m_ald (pc' := 192) cd_Mo_gift rfl (Or.inr ⟨_, rfl, rfl, rfl⟩) l0 rfl rfl ?_
        refine m_fR (r := 14) (a := 15) (ad := 1497) (pc' := 195) rfl rfl cd_Mo_gift rfl rfl rfl rfl rfl ?_
        refine m_ild (pc' := 197) cd_Mo_gift rfl (Or.inl ⟨rfl, rfl⟩) l6 rfl ?_
        refine m_k2 (v := 21) (pc' := 199) cd_Mo_gift rfl (by decide) rfl ?_
        refine m_pure (pc' := 200) (st' := [.int ((nI (486 + g * 279 + 15 + (2 * p + 0) * 22)) + 21), .ref 1497]) cd_Mo_gift rfl rfl (fun _ _ => rfl) ?_
        refine m_eq (show ((nI (486 + g * 279 + 15 + (2 * p + 0) * 22)) + 21 : Int32) = nI ((486 + g * 279 + 15 + (2 * p + 0) * 22) + 21) from nI_add (486 + g * 279 + 15 + (2 * p + 0) * 22) 21) ?_
        refine m_ald (pc' := 201) cd_Mo_gift rfl (Or.inr ⟨_, rfl, rfl, rfl⟩) l0 rfl rfl ?_
        refine m_fR (r := 42) (a := 43) (ad := 1525) (pc' := 204) rfl rfl cd_Mo_gift rfl rfl rfl rfl rfl ?_
        refine m_k2 (v := 37) (pc' := 206) cd_Mo_gift rfl (by decide) rfl ?_
        refine m_aI (r := 42) (a := 43) (g := (A 43)) (x := bz o) (pc' := 207) rfl rfl cd_Mo_gift rfl rfl rfl (vp_in_nI (n := 37) (by decide) (by decide)) ((congrArg (A 43) (show (37 : Int32).toNatClampNeg = 37 by decide)).trans h37) ?_
        refine m_aS (r := 14) (a := 15) (g := (upd (upd (upd (upd (upd (frP (A 15) (486 + g * 279 + 15 + (2 * p + 0) * 22) 22 0) ((486 + g * 279) + 9 + p) 2) (486 + g * 279 + 15 + (2 * p + 0) * 22) (nu B 1)) ((486 + g * 279 + 15 + (2 * p + 0) * 22) + 1) x0) ((486 + g * 279 + 15 + (2 * p + 0) * 22) + 2) x1) ((486 + g * 279 + 15 + (2 * p + 0) * 22) + 3) (nu B 2))) (p := ((486 + g * 279 + 15 + (2 * p + 0) * 22) + 21)) (pc' := 208) rfl rfl cd_Mo_gift rfl rfl rfl (vp_in_nI (by omega) (by decide)) (nI_clamp (by omega)) ?_
        rw [fset_fset]
        refine m_k1 (v := 2) (pc' := 209) cd_Mo_gift rfl (by decide) rfl ?_
        have hmin : (2 : Int32) = nI (min ((gv p).length + 1) 2) := by
          have q := (nI_leI (a := 2) (b := (gv p).length) (by omega) (by omega)).mp c108
          rw [show min ((gv p).length + 1) 2 = 2 by omega]; rfl
        have hq : qGv (upd (upd (upd (upd (upd (upd (frP (A 15) (486 + g * 279 + 15 + (2 * p + 0) * 22) 22 0) ((486 + g * 279) + 9 + p) 2) (486 + g * 279 + 15 + (2 * p + 0) * 22) (nu B 1)) ((486 + g * 279 + 15 + (2 * p + 0) * 22) + 1) x0) ((486 + g * 279 + 15 + (2 * p + 0) * 22) + 2) x1) ((486 + g * 279 + 15 + (2 * p + 0) * 22) + 3) (nu B 2)) ((486 + g * 279 + 15 + (2 * p + 0) * 22) + 21) (bz o)) T (486 + g * 279 + 15 + (2 * p + 0) * 22) ((pt B 1, pt B 0, nu B 2, []), nu B 1, o) := by
          refine ⟨⟨?_, ?_, ?_, ?_⟩, ⟨?_, Nat.zero_le _⟩, fun i x hx => by simp at hx, ?_⟩
          · rw [upd_ne (by omega), upd_ne (by omega), upd_ne (by omega), upd_ne (by omega)]; exact upd_same
          · rw [upd_ne (by omega), upd_ne (by omega), upd_ne (by omega), upd_same]; exact hx0
          · rw [upd_ne (by omega), upd_ne (by omega), upd_same]; exact hx1
          · rw [upd_ne (by omega), upd_same]
          · rw [upd_ne (by omega), upd_ne (by omega), upd_ne (by omega), upd_ne (by omega), upd_ne (by omega), upd_ne (by omega), frP_lo (by omega) (by omega)]; rfl
          · rw [upd_same]
        have hm : qMm (upd (upd (upd (upd (upd (upd (frP (A 15) (486 + g * 279 + 15 + (2 * p + 0) * 22) 22 0) ((486 + g * 279) + 9 + p) 2) (486 + g * 279 + 15 + (2 * p + 0) * 22) (nu B 1)) ((486 + g * 279 + 15 + (2 * p + 0) * 22) + 1) x0) ((486 + g * 279 + 15 + (2 * p + 0) * 22) + 2) x1) ((486 + g * 279 + 15 + (2 * p + 0) * 22) + 3) (nu B 2)) ((486 + g * 279 + 15 + (2 * p + 0) * 22) + 21) (bz o)) T (486 + g * 279) (mm_acc (ve, ma, go, ge, ch, si, ix, ga, sl, gv) p B o) := by
          rw [mm_acc_f (M := (ve, ma, go, ge, ch, si, ix, ga, sl, gv)) (p := p) hy]
          refine qMm_gift hp hG (fun k k1 k2 => by rw [upd_ne (by omega), upd_ne (by omega), upd_ne (by omega), upd_ne (by omega), upd_ne (by omega), upd_ne (by omega)]) ?_ hq
          rw [upd_ne (by omega), upd_ne (by omega), upd_ne (by omega), upd_ne (by omega), upd_ne (by omega), upd_same]; exact hmin
        exact m_reti cd_Mo_gift rfl ⟨_, rfl, (kk _ hm (fun k k1 => by rw [upd_ne (by omega), upd_ne (by omega), upd_ne (by omega), upd_ne (by omega), upd_ne (by omega), upd_ne (by omega), frP_out (by omega) (by omega)]))⟩
      · have c108 : ¬ (2 : Int32) ≤ (nI (gv p).length) := c108
        refine m_ald (pc' := 112) cd_Mo_gift rfl (Or.inr ⟨_, rfl, rfl, rfl⟩) l0 rfl rfl ?_
        refine m_fR (r := 14) (a := 15) (ad := 1497) (pc' := 115) rfl rfl cd_Mo_gift rfl rfl rfl rfl rfl ?_
        refine m_ild (pc' := 117) cd_Mo_gift rfl (Or.inl ⟨rfl, rfl⟩) l4 rfl ?_
        refine m_aI (r := 14) (a := 15) (g := (frP (A 15) (486 + g * 279 + 15 + (2 * p + 0) * 22) 22 0)) (x := nI (gv p).length) (pc' := 118) rfl rfl cd_Mo_gift rfl rfl rfl (vp_in_nI (by omega) (by decide)) (by rw [(nI_clamp (by omega)), frP_out (by omega) (by omega)]; exact h9) ?_
        refine m_k1 (v := 1) (pc' := 119) cd_Mo_gift rfl (by decide) rfl ?_
        refine m_pure (pc' := 120) (st' := [.int ((nI (gv p).length) + 1), .int (nI ((486 + g * 279) + 9 + p)), .ref 1497]) cd_Mo_gift rfl rfl (fun _ _ => rfl) ?_
        refine m_eq (show ((nI (gv p).length) + 1 : Int32) = nI ((gv p).length + 1) from nI_add (gv p).length 1) ?_
        refine m_pure (pc' := 124) (st' := [.int (nI ((gv p).length + 1)), .int (nI ((486 + g * 279) + 9 + p)), .ref 1497]) cd_Mo_gift rfl rfl (fun _ _ => rfl) ?_
        refine m_aS (r := 14) (a := 15) (g := (frP (A 15) (486 + g * 279 + 15 + (2 * p + 0) * 22) 22 0)) (p := ((486 + g * 279) + 9 + p)) (pc' := 125) rfl rfl cd_Mo_gift rfl rfl rfl (vp_in_nI (by omega) (by decide)) (nI_clamp (by omega)) ?_
        rw [fset_fset]
        refine m_ild (pc' := 126) cd_Mo_gift rfl (Or.inr ⟨_, rfl, rfl, rfl⟩) l3 rfl ?_
        refine m_ild (pc' := 127) cd_Mo_gift rfl (Or.inr ⟨_, rfl, rfl, rfl⟩) l1 rfl ?_
        refine m_k1 (v := 0) (pc' := 128) cd_Mo_gift rfl (by decide) rfl ?_
        refine m_si (pc' := 131) cd_Mo_gift rfl rfl rfl rfl rfl cd_Mo_givenAt rfl (Nat.le_of_ble_eq_true rfl) (m_givenAt ?_)
        show mg _ _ _ 131 _ [.int (nI (486 + g * 279 + 15 + (2 * p + 0) * 22))] _ _
        refine m_ist (pc' := 133) cd_Mo_gift rfl (Or.inl ⟨rfl, rfl⟩) (by decide) rfl (fun lv el => ?_)
        have l0 := tm_lk el l0 rfl (by decide)
        have l1 := tm_lk el l1 rfl (by decide)
        have l2 := tm_lk el l2 rfl (by decide)
        have l3 := tm_lk el l3 rfl (by decide)
        have l4 := tm_lk el l4 rfl (by decide)
        have l5 := tm_lk el l5 rfl (by decide)
        have l6 : lv.lookup 6 = some (.int (nI (486 + g * 279 + 15 + (2 * p + 0) * 22))) := tm_lks el
        clear el
        refine m_ald (pc' := 134) cd_Mo_gift rfl (Or.inr ⟨_, rfl, rfl, rfl⟩) l0 rfl rfl ?_
        refine m_fR (r := 14) (a := 15) (ad := 1497) (pc' := 137) rfl rfl cd_Mo_gift rfl rfl rfl rfl rfl ?_
        refine m_ild (pc' := 139) cd_Mo_gift rfl (Or.inl ⟨rfl, rfl⟩) l6 rfl ?_
        refine m_ald (pc' := 140) cd_Mo_gift rfl (Or.inr ⟨_, rfl, rfl, rfl⟩) l0 rfl rfl ?_
        refine m_ild (pc' := 141) cd_Mo_gift rfl (Or.inr ⟨_, rfl, rfl, rfl⟩) l2 rfl ?_
        refine m_k1 (v := 1) (pc' := 142) cd_Mo_gift rfl (by decide) rfl ?_
        refine m_ci (pc' := 145) cd_Mo_gift rfl rfl rfl rfl rfl cd_Mo_cell rfl (Nat.le_of_ble_eq_true rfl) (m_cellN (k := 1) (by exact MT_i hM rfl rfl rfl rfl rfl rfl rfl rfl rfl rfl) hB kB (by decide) ?_)
        show mg _ _ _ 145 _ [.int (nu B 1), .int (nI (486 + g * 279 + 15 + (2 * p + 0) * 22)), .ref 1497] _ _
        refine m_aS (r := 14) (a := 15) (g := (upd (frP (A 15) (486 + g * 279 + 15 + (2 * p + 0) * 22) 22 0) ((486 + g * 279) + 9 + p) (nI ((gv p).length + 1)))) (p := (486 + g * 279 + 15 + (2 * p + 0) * 22)) (pc' := 146) rfl rfl cd_Mo_gift rfl rfl rfl (vp_in_nI (by omega) (by decide)) (nI_clamp (by omega)) ?_
        rw [fset_fset]
        refine m_ald (pc' := 147) cd_Mo_gift rfl (Or.inr ⟨_, rfl, rfl, rfl⟩) l0 rfl rfl ?_
        refine m_fR (r := 14) (a := 15) (ad := 1497) (pc' := 150) rfl rfl cd_Mo_gift rfl rfl rfl rfl rfl ?_
        refine m_ild (pc' := 152) cd_Mo_gift rfl (Or.inl ⟨rfl, rfl⟩) l6 rfl ?_
        refine m_k1 (v := 1) (pc' := 153) cd_Mo_gift rfl (by decide) rfl ?_
        refine m_pure (pc' := 154) (st' := [.int ((nI (486 + g * 279 + 15 + (2 * p + 0) * 22)) + 1), .ref 1497]) cd_Mo_gift rfl rfl (fun _ _ => rfl) ?_
        refine m_eq (show ((nI (486 + g * 279 + 15 + (2 * p + 0) * 22)) + 1 : Int32) = nI ((486 + g * 279 + 15 + (2 * p + 0) * 22) + 1) from nI_add (486 + g * 279 + 15 + (2 * p + 0) * 22) 1) ?_
        refine m_ald (pc' := 155) cd_Mo_gift rfl (Or.inr ⟨_, rfl, rfl, rfl⟩) l0 rfl rfl ?_
        refine m_ild (pc' := 156) cd_Mo_gift rfl (Or.inr ⟨_, rfl, rfl, rfl⟩) l2 rfl ?_
        refine m_k1 (v := 4) (pc' := 157) cd_Mo_gift rfl (by decide) rfl ?_
        refine m_ci (pc' := 160) cd_Mo_gift rfl rfl rfl rfl rfl cd_Mo_cell rfl (Nat.le_of_ble_eq_true rfl) (m_cellP (k := 0) (by exact MT_i hM rfl rfl rfl rfl rfl rfl rfl rfl rfl rfl) hB kB (by decide) (fun x0 hx0 => ?_))
        show mg _ _ _ 160 _ [.int x0, .int (nI ((486 + g * 279 + 15 + (2 * p + 0) * 22) + 1)), .ref 1497] _ _
        refine m_aS (r := 14) (a := 15) (g := (upd (upd (frP (A 15) (486 + g * 279 + 15 + (2 * p + 0) * 22) 22 0) ((486 + g * 279) + 9 + p) (nI ((gv p).length + 1))) (486 + g * 279 + 15 + (2 * p + 0) * 22) (nu B 1))) (p := ((486 + g * 279 + 15 + (2 * p + 0) * 22) + 1)) (pc' := 161) rfl rfl cd_Mo_gift rfl rfl rfl (vp_in_nI (by omega) (by decide)) (nI_clamp (by omega)) ?_
        rw [fset_fset]
        refine m_ald (pc' := 162) cd_Mo_gift rfl (Or.inr ⟨_, rfl, rfl, rfl⟩) l0 rfl rfl ?_
        refine m_fR (r := 14) (a := 15) (ad := 1497) (pc' := 165) rfl rfl cd_Mo_gift rfl rfl rfl rfl rfl ?_
        refine m_ild (pc' := 167) cd_Mo_gift rfl (Or.inl ⟨rfl, rfl⟩) l6 rfl ?_
        refine m_k1 (v := 2) (pc' := 168) cd_Mo_gift rfl (by decide) rfl ?_
        refine m_pure (pc' := 169) (st' := [.int ((nI (486 + g * 279 + 15 + (2 * p + 0) * 22)) + 2), .ref 1497]) cd_Mo_gift rfl rfl (fun _ _ => rfl) ?_
        refine m_eq (show ((nI (486 + g * 279 + 15 + (2 * p + 0) * 22)) + 2 : Int32) = nI ((486 + g * 279 + 15 + (2 * p + 0) * 22) + 2) from nI_add (486 + g * 279 + 15 + (2 * p + 0) * 22) 2) ?_
        refine m_ald (pc' := 170) cd_Mo_gift rfl (Or.inr ⟨_, rfl, rfl, rfl⟩) l0 rfl rfl ?_
        refine m_ild (pc' := 171) cd_Mo_gift rfl (Or.inr ⟨_, rfl, rfl, rfl⟩) l2 rfl ?_
        refine m_k1 (v := 5) (pc' := 172) cd_Mo_gift rfl (by decide) rfl ?_
        refine m_ci (pc' := 175) cd_Mo_gift rfl rfl rfl rfl rfl cd_Mo_cell rfl (Nat.le_of_ble_eq_true rfl) (m_cellP (k := 1) (by exact MT_i hM rfl rfl rfl rfl rfl rfl rfl rfl rfl rfl) hB kB (by decide) (fun x1 hx1 => ?_))
        show mg _ _ _ 175 _ [.int x1, .int (nI ((486 + g * 279 + 15 + (2 * p + 0) * 22) + 2)), .ref 1497] _ _
        refine m_aS (r := 14) (a := 15) (g := (upd (upd (upd (frP (A 15) (486 + g * 279 + 15 + (2 * p + 0) * 22) 22 0) ((486 + g * 279) + 9 + p) (nI ((gv p).length + 1))) (486 + g * 279 + 15 + (2 * p + 0) * 22) (nu B 1)) ((486 + g * 279 + 15 + (2 * p + 0) * 22) + 1) x0)) (p := ((486 + g * 279 + 15 + (2 * p + 0) * 22) + 2)) (pc' := 176) rfl rfl cd_Mo_gift rfl rfl rfl (vp_in_nI (by omega) (by decide)) (nI_clamp (by omega)) ?_
        rw [fset_fset]
        refine m_ald (pc' := 177) cd_Mo_gift rfl (Or.inr ⟨_, rfl, rfl, rfl⟩) l0 rfl rfl ?_
        refine m_fR (r := 14) (a := 15) (ad := 1497) (pc' := 180) rfl rfl cd_Mo_gift rfl rfl rfl rfl rfl ?_
        refine m_ild (pc' := 182) cd_Mo_gift rfl (Or.inl ⟨rfl, rfl⟩) l6 rfl ?_
        refine m_k1 (v := 3) (pc' := 183) cd_Mo_gift rfl (by decide) rfl ?_
        refine m_pure (pc' := 184) (st' := [.int ((nI (486 + g * 279 + 15 + (2 * p + 0) * 22)) + 3), .ref 1497]) cd_Mo_gift rfl rfl (fun _ _ => rfl) ?_
        refine m_eq (show ((nI (486 + g * 279 + 15 + (2 * p + 0) * 22)) + 3 : Int32) = nI ((486 + g * 279 + 15 + (2 * p + 0) * 22) + 3) from nI_add (486 + g * 279 + 15 + (2 * p + 0) * 22) 3) ?_
        refine m_ald (pc' := 185) cd_Mo_gift rfl (Or.inr ⟨_, rfl, rfl, rfl⟩) l0 rfl rfl ?_
        refine m_ild (pc' := 186) cd_Mo_gift rfl (Or.inr ⟨_, rfl, rfl, rfl⟩) l2 rfl ?_
        refine m_k1 (v := 2) (pc' := 187) cd_Mo_gift rfl (by decide) rfl ?_
        refine m_ci (pc' := 190) cd_Mo_gift rfl rfl rfl rfl rfl cd_Mo_cell rfl (Nat.le_of_ble_eq_true rfl) (m_cellN (k := 2) (by exact MT_i hM rfl rfl rfl rfl rfl rfl rfl rfl rfl rfl) hB kB (by decide) ?_)
        show mg _ _ _ 190 _ [.int (nu B 2), .int (nI ((486 + g * 279 + 15 + (2 * p + 0) * 22) + 3)), .ref 1497] _ _
        refine m_aS (r := 14) (a := 15) (g := (upd (upd (upd (upd (frP (A 15) (486 + g * 279 + 15 + (2 * p + 0) * 22) 22 0) ((486 + g * 279) + 9 + p) (nI ((gv p).length + 1))) (486 + g * 279 + 15 + (2 * p + 0) * 22) (nu B 1)) ((486 + g * 279 + 15 + (2 * p + 0) * 22) + 1) x0) ((486 + g * 279 + 15 + (2 * p + 0) * 22) + 2) x1)) (p := ((486 + g * 279 + 15 + (2 * p + 0) * 22) + 3)) (pc' := 191) rfl rfl cd_Mo_gift rfl rfl rfl (vp_in_nI (by omega) (by decide)) (nI_clamp (by omega)) ?_
        rw [fset_fset]
        refine m_ald (pc' := 192) cd_Mo_gift rfl (Or.inr ⟨_, rfl, rfl, rfl⟩) l0 rfl rfl ?_
        refine m_fR (r := 14) (a := 15) (ad := 1497) (pc' := 195) rfl rfl cd_Mo_gift rfl rfl rfl rfl rfl ?_
        refine m_ild (pc' := 197) cd_Mo_gift rfl (Or.inl ⟨rfl, rfl⟩) l6 rfl ?_
        refine m_k2 (v := 21) (pc' := 199) cd_Mo_gift rfl (by decide) rfl ?_
        refine m_pure (pc' := 200) (st' := [.int ((nI (486 + g * 279 + 15 + (2 * p + 0) * 22)) + 21), .ref 1497]) cd_Mo_gift rfl rfl (fun _ _ => rfl) ?_
        refine m_eq (show ((nI (486 + g * 279 + 15 + (2 * p + 0) * 22)) + 21 : Int32) = nI ((486 + g * 279 + 15 + (2 * p + 0) * 22) + 21) from nI_add (486 + g * 279 + 15 + (2 * p + 0) * 22) 21) ?_
        refine m_ald (pc' := 201) cd_Mo_gift rfl (Or.inr ⟨_, rfl, rfl, rfl⟩) l0 rfl rfl ?_
        refine m_fR (r := 42) (a := 43) (ad := 1525) (pc' := 204) rfl rfl cd_Mo_gift rfl rfl rfl rfl rfl ?_
        refine m_k2 (v := 37) (pc' := 206) cd_Mo_gift rfl (by decide) rfl ?_
        refine m_aI (r := 42) (a := 43) (g := (A 43)) (x := bz o) (pc' := 207) rfl rfl cd_Mo_gift rfl rfl rfl (vp_in_nI (n := 37) (by decide) (by decide)) ((congrArg (A 43) (show (37 : Int32).toNatClampNeg = 37 by decide)).trans h37) ?_
        refine m_aS (r := 14) (a := 15) (g := (upd (upd (upd (upd (upd (frP (A 15) (486 + g * 279 + 15 + (2 * p + 0) * 22) 22 0) ((486 + g * 279) + 9 + p) (nI ((gv p).length + 1))) (486 + g * 279 + 15 + (2 * p + 0) * 22) (nu B 1)) ((486 + g * 279 + 15 + (2 * p + 0) * 22) + 1) x0) ((486 + g * 279 + 15 + (2 * p + 0) * 22) + 2) x1) ((486 + g * 279 + 15 + (2 * p + 0) * 22) + 3) (nu B 2))) (p := ((486 + g * 279 + 15 + (2 * p + 0) * 22) + 21)) (pc' := 208) rfl rfl cd_Mo_gift rfl rfl rfl (vp_in_nI (by omega) (by decide)) (nI_clamp (by omega)) ?_
        rw [fset_fset]
        refine m_k1 (v := 2) (pc' := 209) cd_Mo_gift rfl (by decide) rfl ?_
        have hmin : nI ((gv p).length + 1) = nI (min ((gv p).length + 1) 2) := by
          have q := Nat.lt_of_not_le (fun q => c108 ((nI_leI (a := 2) (b := (gv p).length) (by omega) (by omega)).mpr q))
          rw [show min ((gv p).length + 1) 2 = (gv p).length + 1 by omega]
        have hq : qGv (upd (upd (upd (upd (upd (upd (frP (A 15) (486 + g * 279 + 15 + (2 * p + 0) * 22) 22 0) ((486 + g * 279) + 9 + p) (nI ((gv p).length + 1))) (486 + g * 279 + 15 + (2 * p + 0) * 22) (nu B 1)) ((486 + g * 279 + 15 + (2 * p + 0) * 22) + 1) x0) ((486 + g * 279 + 15 + (2 * p + 0) * 22) + 2) x1) ((486 + g * 279 + 15 + (2 * p + 0) * 22) + 3) (nu B 2)) ((486 + g * 279 + 15 + (2 * p + 0) * 22) + 21) (bz o)) T (486 + g * 279 + 15 + (2 * p + 0) * 22) ((pt B 1, pt B 0, nu B 2, []), nu B 1, o) := by
          refine ⟨⟨?_, ?_, ?_, ?_⟩, ⟨?_, Nat.zero_le _⟩, fun i x hx => by simp at hx, ?_⟩
          · rw [upd_ne (by omega), upd_ne (by omega), upd_ne (by omega), upd_ne (by omega)]; exact upd_same
          · rw [upd_ne (by omega), upd_ne (by omega), upd_ne (by omega), upd_same]; exact hx0
          · rw [upd_ne (by omega), upd_ne (by omega), upd_same]; exact hx1
          · rw [upd_ne (by omega), upd_same]
          · rw [upd_ne (by omega), upd_ne (by omega), upd_ne (by omega), upd_ne (by omega), upd_ne (by omega), upd_ne (by omega), frP_lo (by omega) (by omega)]; rfl
          · rw [upd_same]
        have hm : qMm (upd (upd (upd (upd (upd (upd (frP (A 15) (486 + g * 279 + 15 + (2 * p + 0) * 22) 22 0) ((486 + g * 279) + 9 + p) (nI ((gv p).length + 1))) (486 + g * 279 + 15 + (2 * p + 0) * 22) (nu B 1)) ((486 + g * 279 + 15 + (2 * p + 0) * 22) + 1) x0) ((486 + g * 279 + 15 + (2 * p + 0) * 22) + 2) x1) ((486 + g * 279 + 15 + (2 * p + 0) * 22) + 3) (nu B 2)) ((486 + g * 279 + 15 + (2 * p + 0) * 22) + 21) (bz o)) T (486 + g * 279) (mm_acc (ve, ma, go, ge, ch, si, ix, ga, sl, gv) p B o) := by
          rw [mm_acc_f (M := (ve, ma, go, ge, ch, si, ix, ga, sl, gv)) (p := p) hy]
          refine qMm_gift hp hG (fun k k1 k2 => by rw [upd_ne (by omega), upd_ne (by omega), upd_ne (by omega), upd_ne (by omega), upd_ne (by omega), upd_ne (by omega)]) ?_ hq
          rw [upd_ne (by omega), upd_ne (by omega), upd_ne (by omega), upd_ne (by omega), upd_ne (by omega), upd_same]; exact hmin
        exact m_reti cd_Mo_gift rfl ⟨_, rfl, (kk _ hm (fun k k1 => by rw [upd_ne (by omega), upd_ne (by omega), upd_ne (by omega), upd_ne (by omega), upd_ne (by omega), upd_ne (by omega), frP_out (by omega) (by omega)]))⟩
    · exact absurd (show ¬ (¬ (1 : Int32) = 0) from c77) (by decide)
  · skip
    refine m_ild (pc' := 77) cd_Mo_gift rfl (Or.inl ⟨rfl, rfl⟩) l5 rfl ?_
    refine m_if1 (t := 82) (pc' := 80) cd_Mo_gift rfl rfl rfl (fun c77 => ?_) (fun c77 => ?_)
    · exact absurd (show ¬ (0 : Int32) = 0 from c77) (by decide)
    · have c77 : (0 : Int32) = 0 := Classical.not_not.mp c77
      refine m_k1 (v := 2) (pc' := 81) cd_Mo_gift rfl (by decide) rfl ?_
      exact m_reti cd_Mo_gift rfl ⟨_, rfl, (by have k2 := kk (A 15) (by rw [mm_acc_t (M := (ve, ma, go, ge, ch, si, ix, ga, sl, gv)) (p := p) hn]; exact hG) (fun _ _ => rfl); rw [fset_id] at k2; exact k2)⟩
