/-! The reference: begins, its first half; chain, sends -/
theorem good_k7 {k : Nat} {A : Tm} (h : Tgood k A = true) : kd A = 7 := by
  unfold Tgood at h
  simp only [Bool.and_eq_true, decide_eq_true_eq] at h
  exact h.1.1.1
theorem fset_id {α : Type} (A : Nat → α) (k : Nat) : fset A k (A k) = A := by
  funext j
  unfold fset
  split
  · rename_i q; rw [q]
  · rfl
theorem qSe_set {w g : Nat → Int32} {T T' : List Tm} {a : Nat} {th ch ba ro mi sd bp bo ro' mi' sd' : Tm} {nx n b n' b' : Int32} {le : List (Tm × Int32 × Tm)} {br on : Bool} (hT : T <+: T') (h : qSe w T a ((th, ch, nx, le), ba, ro, mi, sd, n, b, br, bp, bo, on)) (e : ∀ k, k < 38 → k ≠ 1 → k ≠ 2 → k ≠ 4 → k ≠ 5 → k ≠ 6 → g (a + k) = w (a + k)) (h1 : tv T' (g (a + 1)) ro') (h2 : tv T' (g (a + 2)) mi') (h4 : tv T' (g (a + 4)) sd') (h5 : g (a + 5) = n') (h6 : g (a + 6) = b') : qSe g T' a ((th, ch, nx, le), ba, ro', mi', sd', n', b', br, bp, bo, on) := by
  obtain ⟨⟨a1, a2, a3, a4, a5, a6⟩, ⟨a7, a8, a9⟩, ⟨a10, a11⟩, ⟨a12, a13⟩, a14, a15⟩ := h
  have E : ∀ k, k < 38 → k ≠ 1 → k ≠ 2 → k ≠ 4 → k ≠ 5 → k ≠ 6 → ∀ {X : Tm}, tv T (w (a + k)) X → tv T' (g (a + k)) X := fun k k1 k2 k3 k4 k5 k6 X hX => by rw [e k k1 k2 k3 k4 k5 k6]; exact tv_mono hT hX
  refine ⟨⟨E 0 (by decide) (by decide) (by decide) (by decide) (by decide) (by decide) a1, h1, h2, E 3 (by decide) (by decide) (by decide) (by decide) (by decide) (by decide) a4, h4, E 7 (by decide) (by decide) (by decide) (by decide) (by decide) (by decide) a6⟩, ⟨h5, h6, by rw [e 8 (by decide) (by decide) (by decide) (by decide) (by decide) (by decide)]; exact a9⟩, ⟨by rw [e 9 (by decide) (by decide) (by decide) (by decide) (by decide) (by decide)]; exact a10, fun q => ⟨E 10 (by decide) (by decide) (by decide) (by decide) (by decide) (by decide) (a11 q).1, E 11 (by decide) (by decide) (by decide) (by decide) (by decide) (by decide) (a11 q).2⟩⟩, ⟨by rw [e 12 (by decide) (by decide) (by decide) (by decide) (by decide) (by decide)]; exact a12, a13⟩, fun i x hx => ?_, by rw [e 37 (by decide) (by decide) (by decide) (by decide) (by decide) (by decide)]; exact a15⟩
  have hi : i < le.length := (List.getElem?_eq_some_iff.mp hx).1
  obtain ⟨c1, c2, c3⟩ := a14 i x hx
  have F : ∀ k, 13 ≤ k → k < 38 → g (a + k) = w (a + k) := fun k q1 q2 => e k q2 (by omega) (by omega) (by omega) (by omega) (by omega)
  have z1 : a + 13 + 3 * i = a + (13 + 3 * i) := by omega
  have z2 : a + 14 + 3 * i = a + (14 + 3 * i) := by omega
  have z3 : a + 15 + 3 * i = a + (15 + 3 * i) := by omega
  rw [z1] at c1
  rw [z2] at c2
  rw [z3] at c3
  rw [z1, z2, z3, F _ (by omega) (by omega), F _ (by omega) (by omega), F _ (by omega) (by omega)]
  exact ⟨tv_mono hT c1, c2, tv_mono hT c3⟩
def mjSf (g f : Nat → Int32) : Nat → Int32 := fun k => if k = 0 ∨ k = 7 ∨ k = 30 then g k else f k
def mjSA (B A : Nat → Nat → Int32) : Nat → Nat → Int32 := fun j => if (1 ≤ j ∧ j ≤ 9) ∨ j = 15 ∨ j = 26 then B j else A j
theorem mjSf_of {g f : Nat → Int32} (h : ∀ k, ¬ (k = 0 ∨ k = 7 ∨ k = 30) → g k = f k) : mjSf g f = g := by
  funext j
  unfold mjSf
  split
  · rfl
  · rename_i q; exact (h j q).symm
theorem mjSA_of {B A : Nat → Nat → Int32} (h : ∀ j, ¬ ((1 ≤ j ∧ j ≤ 9) ∨ j = 15 ∨ j = 26) → B j = A j) : mjSA B A = B := by
  funext j
  unfold mjSA
  split
  · rfl
  · rename_i q; exact (h j q).symm
theorem mS_end {f f' : Nat → Int32} {A A' : Nat → Nat → Int32} {Q : MS → Prop} (h1 : ∀ k, ¬ (k = 0 ∨ k = 7 ∨ k = 30) → f' k = f k) (h2 : ∀ j, ¬ ((1 ≤ j ∧ j ≤ 9) ∨ j = 15 ∨ j = 26) → A' j = A j) (h : Q (mjSf f' f, mjSA A' A)) : Q (f', A') := by
  rw [mjSf_of h1, mjSA_of h2] at h
  exact h
set_option maxRecDepth 100000 in
theorem l_mbegL {sc : tm_X} {d : Nat} {f : Nat → Int32} {A : Nat → Nat → Int32} {T : List Tm} {DL : List (Int32 × Int32)} {G Kw : Tm → Prop} {s p ip : Nat} {dir : Nat → Tm} {Q : Option Value → MS → Prop} (hM : MT f A T DL G Kw) (hp : p < 6) (hdir : ∀ i, i < 30 → tv T (A 17 i) (dir i)) : ∀ (r k : Nat), k + r = 5 → 1 ≤ k → (∀ g o (lv : tm_L), (∀ i, i < 30 → tv T (g i) ((an_once dir p r (p * 5 + k)).2 i)) → tv T o (an_once dir p r (p * 5 + k)).1 → lv.lookup 0 = some (.ref 1482) → lv.lookup 1 = some (.int (nI s)) → lv.lookup 2 = some (.int (nI p)) → lv.lookup 4 = some (.int (nI ip)) →  lv.lookup 5 = some (.int o) → mg sc (d + 5) 211 167 lv [] (f, fset A 17 g) Q) → ∀ lv : tm_L, lv.lookup 0 = some (.ref 1482) → lv.lookup 1 = some (.int (nI s)) → lv.lookup 2 = some (.int (nI p)) → lv.lookup 4 = some (.int (nI ip)) →  lv.lookup 5 = some (.int 0) → lv.lookup 6 = some (.int (nI k)) → mg sc (d + 5) 211 89 lv [] (f, A) Q := by
  have hTl := MT_len hM
  intro r
  induction r with
  | zero =>
    intro k hk hk1 kk lv l0 l1 l2 l4 l5 l6
    have hk5 : k = 5 := by omega
    subst hk5
    refine m_ild (pc' := 91) cd_Mo_begins rfl (Or.inl ⟨rfl, rfl⟩) l6 rfl ?_
    refine m_k1 (v := 5) (pc' := 92) cd_Mo_begins rfl (by decide) rfl ?_
    refine m_if2 (t := 167) (pc' := 95) cd_Mo_begins rfl rfl rfl (fun c92 => ?_) (fun c92 => ?_)
    · have c92 : (5 : Int32) ≤ (nI 5) := c92
      have k2 := kk (A 17) 0 lv hdir (MT_z hM) l0 l1 l2 l4 l5
      rw [fset_id] at k2
      exact k2
    · have c92 : ¬ (5 : Int32) ≤ (nI 5) := c92
      exact absurd (show (5 : Int32) ≤ nI 5 from by decide) c92
  | succ r ih =>
    intro k hk hk1 kk lv l0 l1 l2 l4 l5 l6
    obtain ⟨it, et, ht⟩ := hdir (5 * p + k) (by omega)
    have hit := tv_lt ht
    have e5 : p * 5 + k = 5 * p + k := by omega
    rw [e5] at kk
    generalize eX : dir (5 * p + k) = X at ht
    have hg : ∀ i, i < 30 → tv T (upd (A 17) (5 * p + k) 0 i) (fset dir (5 * p + k) tz i) := fun i hi => by
      by_cases q : i = 5 * p + k
      · rw [q, upd_same, fset_same]; exact MT_z hM
      · rw [upd_ne q, fset_ne q]; exact hdir i hi
    refine m_ild (pc' := 91) cd_Mo_begins rfl (Or.inl ⟨rfl, rfl⟩) l6 rfl ?_
    refine m_k1 (v := 5) (pc' := 92) cd_Mo_begins rfl (by decide) rfl ?_
    refine m_if2 (t := 167) (pc' := 95) cd_Mo_begins rfl rfl rfl (fun c92 => ?_) (fun c92 => ?_)
    · have c92 : (5 : Int32) ≤ (nI k) := c92
      exact absurd c92 (nI_ge (b := 5) (by omega) (by decide))
    · have c92 : ¬ (5 : Int32) ≤ (nI k) := c92
      refine m_ald (pc' := 96) cd_Mo_begins rfl (Or.inr ⟨_, rfl, rfl, rfl⟩) l0 rfl rfl ?_
      refine m_fR (r := 16) (a := 17) (ad := 1499) (pc' := 99) rfl rfl cd_Mo_begins rfl rfl rfl rfl rfl ?_
      refine m_k1 (v := 5) (pc' := 100) cd_Mo_begins rfl (by decide) rfl ?_
      refine m_ild (pc' := 101) cd_Mo_begins rfl (Or.inr ⟨_, rfl, rfl, rfl⟩) l2 rfl ?_
      refine m_pure (pc' := 102) (st' := [.int ((5 : Int32) * (nI p)), .ref 1499]) cd_Mo_begins rfl rfl (fun _ _ => rfl) ?_
      refine m_eq (show ((5 : Int32) * (nI p) : Int32) = nI (5 * p) from pk_mul 5 p) ?_
      refine m_ild (pc' := 104) cd_Mo_begins rfl (Or.inl ⟨rfl, rfl⟩) l6 rfl ?_
      refine m_pure (pc' := 105) (st' := [.int ((nI (5 * p)) + (nI k)), .ref 1499]) cd_Mo_begins rfl rfl (fun _ _ => rfl) ?_
      refine m_eq (show ((nI (5 * p)) + (nI k) : Int32) = nI ((5 * p) + k) from nI_add (5 * p) k) ?_
      refine m_aI (r := 16) (a := 17) (g := (A 17)) (x := (nI it)) (pc' := 106) rfl rfl cd_Mo_begins rfl rfl rfl (vp_in_nI (by omega) (by decide)) (by rw [(nI_clamp (by omega))]; exact et) ?_
      refine m_ist (pc' := 108) cd_Mo_begins rfl (Or.inl ⟨rfl, rfl⟩) (by decide) rfl (fun lv el => ?_)
      have l0 := tm_lk el l0 rfl (by decide)
      have l1 := tm_lk el l1 rfl (by decide)
      have l2 := tm_lk el l2 rfl (by decide)
      have l4 := tm_lk el l4 rfl (by decide)
      have l5 := tm_lk el l5 rfl (by decide)
      have l6 := tm_lk el l6 rfl (by decide)
      have l7 : lv.lookup 7 = some (.int ((nI it))) := tm_lks el
      clear el
      refine m_ild (pc' := 110) cd_Mo_begins rfl (Or.inl ⟨rfl, rfl⟩) l7 rfl ?_
      refine m_if1 (t := 116) (pc' := 113) cd_Mo_begins rfl rfl rfl (fun c110 => ?_) (fun c110 => ?_)
      · have c110 : ¬ (nI it) = 0 := c110
        refine m_ald (pc' := 117) cd_Mo_begins rfl (Or.inr ⟨_, rfl, rfl, rfl⟩) l0 rfl rfl ?_
        refine m_fR (r := 16) (a := 17) (ad := 1499) (pc' := 120) rfl rfl cd_Mo_begins rfl rfl rfl rfl rfl ?_
        refine m_k1 (v := 5) (pc' := 121) cd_Mo_begins rfl (by decide) rfl ?_
        refine m_ild (pc' := 122) cd_Mo_begins rfl (Or.inr ⟨_, rfl, rfl, rfl⟩) l2 rfl ?_
        refine m_pure (pc' := 123) (st' := [.int ((5 : Int32) * (nI p)), .ref 1499]) cd_Mo_begins rfl rfl (fun _ _ => rfl) ?_
        refine m_eq (show ((5 : Int32) * (nI p) : Int32) = nI (5 * p) from pk_mul 5 p) ?_
        refine m_ild (pc' := 125) cd_Mo_begins rfl (Or.inl ⟨rfl, rfl⟩) l6 rfl ?_
        refine m_pure (pc' := 126) (st' := [.int ((nI (5 * p)) + (nI k)), .ref 1499]) cd_Mo_begins rfl rfl (fun _ _ => rfl) ?_
        refine m_eq (show ((nI (5 * p)) + (nI k) : Int32) = nI ((5 * p) + k) from nI_add (5 * p) k) ?_
        refine m_k1 (v := 0) (pc' := 127) cd_Mo_begins rfl (by decide) rfl ?_
        refine m_aS (r := 16) (a := 17) (g := (A 17)) (p := ((5 * p) + k)) (pc' := 128) rfl rfl cd_Mo_begins rfl rfl rfl (vp_in_nI (by omega) (by decide)) (nI_clamp (by omega)) ?_
        refine m_ald (pc' := 129) cd_Mo_begins rfl (Or.inr ⟨_, rfl, rfl, rfl⟩) l0 rfl rfl ?_
        refine m_ild (pc' := 131) cd_Mo_begins rfl (Or.inl ⟨rfl, rfl⟩) l7 rfl ?_
        refine m_k1 (v := 2) (pc' := 132) cd_Mo_begins rfl (by decide) rfl ?_
        refine m_ci (pc' := 135) cd_Mo_begins rfl rfl rfl rfl rfl cd_Mo_isGood rfl (Nat.le_of_ble_eq_true rfl) (m_isGood2 (by exact MT_i hM rfl rfl rfl rfl rfl rfl rfl rfl rfl rfl) ht ?_)
        show mg _ _ _ 135 _ [.int (bz (Tgood 2 X))] _ _
        refine m_if1 (t := 167) (pc' := 138) cd_Mo_begins rfl rfl rfl (fun c135 => ?_) (fun c135 => ?_)
        · have c135 : (Tgood 2 X) = false := bz_f c135
          have hXz : ¬ tnil (dir (5 * p + k)) = true := fun q => c110 ((MT_0 hM ⟨it, rfl, ht⟩).mpr (eX ▸ tnil_iff.mp q))
          have e1 : an_once dir p (r + 1) (5 * p + k) = ((if Tgood 2 (dir (5 * p + k)) = true ∧ nu (dir (5 * p + k)) 0 = nI p then pt (dir (5 * p + k)) 0 else tz), fset dir (5 * p + k) tz) := if_neg hXz
          rw [eX] at e1
          rw [if_neg (fun q => Bool.noConfusion (c135.symm.trans q.1))] at e1
          rw [e1] at kk
          exact kk _ 0 lv hg (MT_z hM) l0 l1 l2 l4 l5
        · have c135 : (Tgood 2 X) = true := bz_t c135
          refine m_ald (pc' := 139) cd_Mo_begins rfl (Or.inr ⟨_, rfl, rfl, rfl⟩) l0 rfl rfl ?_
          refine m_ild (pc' := 141) cd_Mo_begins rfl (Or.inl ⟨rfl, rfl⟩) l7 rfl ?_
          refine m_k1 (v := 0) (pc' := 142) cd_Mo_begins rfl (by decide) rfl ?_
          refine m_ci (pc' := 145) cd_Mo_begins rfl rfl rfl rfl rfl cd_Mo_cell rfl (Nat.le_of_ble_eq_true rfl) (m_cellN (k := 0) (by exact MT_i hM rfl rfl rfl rfl rfl rfl rfl rfl rfl rfl) ht (good_k7 c135) (by decide) ?_)
          show mg _ _ _ 145 _ [.int (nu X 0)] _ _
          refine m_ild (pc' := 146) cd_Mo_begins rfl (Or.inr ⟨_, rfl, rfl, rfl⟩) l2 rfl ?_
          refine m_if2 (t := 167) (pc' := 149) cd_Mo_begins rfl rfl rfl (fun c146 => ?_) (fun c146 => ?_)
          · have c146 : ¬ (nu X 0) = (nI p) := c146
            have hXz : ¬ tnil (dir (5 * p + k)) = true := fun q => c110 ((MT_0 hM ⟨it, rfl, ht⟩).mpr (eX ▸ tnil_iff.mp q))
            have e1 : an_once dir p (r + 1) (5 * p + k) = ((if Tgood 2 (dir (5 * p + k)) = true ∧ nu (dir (5 * p + k)) 0 = nI p then pt (dir (5 * p + k)) 0 else tz), fset dir (5 * p + k) tz) := if_neg hXz
            rw [eX] at e1
            rw [if_neg (fun q => c146 q.2)] at e1
            rw [e1] at kk
            exact kk _ 0 lv hg (MT_z hM) l0 l1 l2 l4 l5
          · have c146 : (nu X 0) = (nI p) := Classical.not_not.mp c146
            refine m_ald (pc' := 150) cd_Mo_begins rfl (Or.inr ⟨_, rfl, rfl, rfl⟩) l0 rfl rfl ?_
            refine m_ild (pc' := 152) cd_Mo_begins rfl (Or.inl ⟨rfl, rfl⟩) l7 rfl ?_
            refine m_k1 (v := 4) (pc' := 153) cd_Mo_begins rfl (by decide) rfl ?_
            refine m_ci (pc' := 156) cd_Mo_begins rfl rfl rfl rfl rfl cd_Mo_cell rfl (Nat.le_of_ble_eq_true rfl) (m_cellP (k := 0) (by exact MT_i hM rfl rfl rfl rfl rfl rfl rfl rfl rfl rfl) ht (good_k7 c135) (by decide) (fun ro hro => ?_))
            show mg _ _ _ 156 _ [.int ro] _ _
            refine m_ist (pc' := 158) cd_Mo_begins rfl (Or.inl ⟨rfl, rfl⟩) (by decide) rfl (fun lv el => ?_)
            have l0 := tm_lk el l0 rfl (by decide)
            have l1 := tm_lk el l1 rfl (by decide)
            have l2 := tm_lk el l2 rfl (by decide)
            have l4 := tm_lk el l4 rfl (by decide)
            have l6 := tm_lk el l6 rfl (by decide)
            have l7 := tm_lk el l7 rfl (by decide)
            have l5 : lv.lookup 5 = some (.int ro) := tm_lks el
            clear el
            refine m_pure (pc' := 167) (st' := []) cd_Mo_begins rfl rfl (fun _ _ => rfl) ?_
            have hXz : ¬ tnil (dir (5 * p + k)) = true := fun q => c110 ((MT_0 hM ⟨it, rfl, ht⟩).mpr (eX ▸ tnil_iff.mp q))
            have e1 : an_once dir p (r + 1) (5 * p + k) = ((if Tgood 2 (dir (5 * p + k)) = true ∧ nu (dir (5 * p + k)) 0 = nI p then pt (dir (5 * p + k)) 0 else tz), fset dir (5 * p + k) tz) := if_neg hXz
            rw [eX] at e1
            rw [if_pos ⟨c135, c146⟩] at e1
            rw [e1] at kk
            exact kk _ ro lv hg (hro) l0 l1 l2 l4 l5
      · have c110 : (nI it) = 0 := Classical.not_not.mp c110
        refine m_pure (pc' := 161) (st' := []) cd_Mo_begins rfl rfl (fun _ _ => rfl) ?_
        refine m_inc (y := nI (k + 1)) (pc' := 164) cd_Mo_begins rfl l6 (by decide) (nI_add k 1) rfl (fun lv el => ?_)
        have l0 := tm_lk el l0 rfl (by decide)
        have l1 := tm_lk el l1 rfl (by decide)
        have l2 := tm_lk el l2 rfl (by decide)
        have l4 := tm_lk el l4 rfl (by decide)
        have l5 := tm_lk el l5 rfl (by decide)
        have l7 := tm_lk el l7 rfl (by decide)
        have l6 : lv.lookup 6 = some (.int (nI (k + 1))) := tm_lks el
        clear el
        refine m_pure (pc' := 89) (st' := []) cd_Mo_begins rfl rfl (fun _ _ => rfl) ?_
        have hXz : tnil (dir (5 * p + k)) = true := tnil_iff.mpr (eX.trans ((MT_0 hM ⟨it, rfl, ht⟩).mp c110))
        have e1 : an_once dir p (r + 1) (5 * p + k) = an_once dir p r (5 * p + k + 1) := if_pos hXz
        rw [e1] at kk
        refine ih (k + 1) (by omega) (by omega) (fun g o lv q1 q2 => ?_) lv l0 l1 l2 l4 l5 l6
        rw [show p * 5 + (k + 1) = 5 * p + k + 1 by omega] at q1 q2
        exact kk g o lv q1 q2
set_option maxRecDepth 100000 in
theorem m_begins {sc : tm_X} {d : Nat} {f : Nat → Int32} {A : Nat → Nat → Int32} {T : List Tm} {DL : List (Int32 × Int32)} {G Kw : Tm → Prop} {s p : Nat} {ids dir : Nat → Tm} {l : List SS} {Q : Int32 → MS → Prop} (hM : MT f A T DL G Kw) (hl : T.length + 14 ≤ 4000) (hr : rc (A 1) T.length < 1000) (h11 : f 11 = nI DL.length) (hdl : DL.length + 2 ≤ 3000) (hs : s < 6) (hp : p < 6) (hid : ∀ q, q < 6 → tv T (A 16 q) (ids q)) (kid : ∀ q, q < 6 → kd (ids q) = 1) (hdir : ∀ i, i < 30 → tv T (A 17 i) (dir i)) (hq : qSs (A 15) T p l) (k0 : an_pre dir ids p = tz → Q 0 (f, A)) (kk : an_pre dir ids p ≠ tz → ∀ f1 A1 T', T <+: T' → T'.length ≤ T.length + 14 → rc (A1 1) T'.length ≤ rc (A 1) T.length → MT (mjBf f1 f) (mjBA A1 A) T' (DL ++ [(nI s, 0), (nI s, 2)]) G Kw → f1 11 = nI (DL.length + 2) → dws A A1 DL.length (f 21) [(nI s, false), (nI s, true)] → (∀ i, i < 30 → tv T' (A1 17 i) ((an_once dir p 4 (p * 5 + 1)).2 i)) → qSs (A1 15) T' p ((op_ses (ids s) (Tsec (nI DL.length) (nI s) 0) (Tsec (nI (DL.length + 1)) (nI s) 2) (ids p) (an_pre dir ids p) (an_once dir p 4 (p * 5 + 1)).1) :: l.take 1) → (∀ k, k ≠ 24 + p → ¬ (30 + 2 * p * 38 ≤ k ∧ k < 30 + (2 * p + 2) * 38) → A1 15 k = A 15 k) → Q 1 (mjBf f1 f, mjBA A1 A)) : mGi sc (d + 5) 211 [.ref 1482, .int (nI s), .int (nI p)] (f, A) Q := by
  have hTl := MT_len hM
  obtain ⟨il, el, hX⟩ := hdir (5 * p) (by omega)
  have hil := tv_lt hX
  generalize eX : dir (5 * p) = X at hX
  have hpre0 : ¬ (kd X = 6 ∧ pt X 0 = ids p ∧ Tgood 1 (pt X 1) = true ∧ nu (pt X 1) 0 = nI p) → an_pre dir ids p = tz := fun hn => by
    unfold an_pre
    rw [Nat.mul_comm p 5, eX]
    exact cif_f hn
  have hpre1 : (kd X = 6 ∧ pt X 0 = ids p ∧ Tgood 1 (pt X 1) = true ∧ nu (pt X 1) 0 = nI p) → an_pre dir ids p = pt (pt X 1) 0 := fun hn => by
    unfold an_pre
    rw [Nat.mul_comm p 5, eX]
    exact cif_t hn
  have hkd := MT_kd hM hX
  show mg sc (d + 5) 211 0 [(0, .ref 1482), (1, .int (nI s)), (2, .int (nI p))] [] (f, A) _
  generalize elv : ([(0, .ref 1482), (1, .int (nI s)), (2, .int (nI p))] : tm_L) = lv
  have l0 : lv.lookup 0 = some (.ref 1482) := by rw [← elv]; rfl
  have l1 : lv.lookup 1 = some (.int (nI s)) := by rw [← elv]; rfl
  have l2 : lv.lookup 2 = some (.int (nI p)) := by rw [← elv]; rfl
  clear elv
  refine m_ald (pc' := 1) cd_Mo_begins rfl (Or.inr ⟨_, rfl, rfl, rfl⟩) l0 rfl rfl ?_
  refine m_fR (r := 16) (a := 17) (ad := 1499) (pc' := 4) rfl rfl cd_Mo_begins rfl rfl rfl rfl rfl ?_
  refine m_k1 (v := 5) (pc' := 5) cd_Mo_begins rfl (by decide) rfl ?_
  refine m_ild (pc' := 6) cd_Mo_begins rfl (Or.inr ⟨_, rfl, rfl, rfl⟩) l2 rfl ?_
  refine m_pure (pc' := 7) (st' := [.int ((5 : Int32) * (nI p)), .ref 1499]) cd_Mo_begins rfl rfl (fun _ _ => rfl) ?_
  refine m_eq (show ((5 : Int32) * (nI p) : Int32) = nI (5 * p) from pk_mul 5 p) ?_
  refine m_aI (r := 16) (a := 17) (g := (A 17)) (x := (nI il)) (pc' := 8) rfl rfl cd_Mo_begins rfl rfl rfl (vp_in_nI (by omega) (by decide)) (by rw [(nI_clamp (by omega))]; exact el) ?_
  refine m_ist (pc' := 9) cd_Mo_begins rfl (Or.inr ⟨_, rfl, rfl, rfl⟩) (by decide) rfl (fun lv el => ?_)
  have l0 := tm_lk el l0 rfl (by decide)
  have l1 := tm_lk el l1 rfl (by decide)
  have l2 := tm_lk el l2 rfl (by decide)
  have l3 : lv.lookup 3 = some (.int ((nI il))) := tm_lks el
  clear el
  refine m_ild (pc' := 10) cd_Mo_begins rfl (Or.inr ⟨_, rfl, rfl, rfl⟩) l3 rfl ?_
  refine m_if1 (t := 68) (pc' := 13) cd_Mo_begins rfl rfl rfl (fun c10 => ?_) (fun c10 => ?_)
  · have c10 : (nI il) = 0 := c10
    refine m_k1 (v := 0) (pc' := 69) cd_Mo_begins rfl (by decide) rfl ?_
    exact m_retz cd_Mo_begins rfl (Or.inl rfl) ⟨_, rfl, (k0 (hpre0 (fun q => by have e := (MT_0 hM ⟨il, rfl, hX⟩).mp c10; rw [e] at q; exact absurd q.1 (by decide))))⟩
  · have c10 : ¬ (nI il) = 0 := c10
    refine m_ald (pc' := 14) cd_Mo_begins rfl (Or.inr ⟨_, rfl, rfl, rfl⟩) l0 rfl rfl ?_
    refine m_fR (r := 0) (a := 1) (ad := 1483) (pc' := 17) rfl rfl cd_Mo_begins rfl rfl rfl rfl rfl ?_
    refine m_ild (pc' := 18) cd_Mo_begins rfl (Or.inr ⟨_, rfl, rfl, rfl⟩) l3 rfl ?_
    refine m_aI (r := 0) (a := 1) (g := (A 1)) (x := (kd X)) (pc' := 19) rfl rfl cd_Mo_begins rfl rfl rfl (vp_in_nI (by omega) (by decide)) ((congrArg (A 1) (nI_clamp (by omega))).trans hkd) ?_
    refine m_k2 (v := 6) (pc' := 21) cd_Mo_begins rfl (by decide) rfl ?_
    refine m_if2 (t := 68) (pc' := 24) cd_Mo_begins rfl rfl rfl (fun c21 => ?_) (fun c21 => ?_)
    · have c21 : ¬ (kd X) = 6 := c21
      refine m_k1 (v := 0) (pc' := 69) cd_Mo_begins rfl (by decide) rfl ?_
      exact m_retz cd_Mo_begins rfl (Or.inl rfl) ⟨_, rfl, (k0 (hpre0 (fun q => c21 q.1)))⟩
    · have c21 : (kd X) = 6 := Classical.not_not.mp c21
      obtain ⟨i2, e2, h2⟩ := MT_two hM hX (Or.inr (Or.inr c21))
      have h1 := MT_one hM hX (Or.inr (Or.inr (Or.inr c21)))
      have hi2 := tv_lt h2
      refine m_ald (pc' := 25) cd_Mo_begins rfl (Or.inr ⟨_, rfl, rfl, rfl⟩) l0 rfl rfl ?_
      refine m_fR (r := 1) (a := 2) (ad := 1484) (pc' := 28) rfl rfl cd_Mo_begins rfl rfl rfl rfl rfl ?_
      refine m_ild (pc' := 29) cd_Mo_begins rfl (Or.inr ⟨_, rfl, rfl, rfl⟩) l3 rfl ?_
      refine m_aI (r := 1) (a := 2) (g := (A 2)) (x := ((A 2) il)) (pc' := 30) rfl rfl cd_Mo_begins rfl rfl rfl (vp_in_nI (by omega) (by decide)) (congrArg (A 2) (nI_clamp (by omega))) ?_
      refine m_ald (pc' := 31) cd_Mo_begins rfl (Or.inr ⟨_, rfl, rfl, rfl⟩) l0 rfl rfl ?_
      refine m_fR (r := 15) (a := 16) (ad := 1498) (pc' := 34) rfl rfl cd_Mo_begins rfl rfl rfl rfl rfl ?_
      refine m_ild (pc' := 35) cd_Mo_begins rfl (Or.inr ⟨_, rfl, rfl, rfl⟩) l2 rfl ?_
      refine m_aI (r := 15) (a := 16) (g := (A 16)) (x := ((A 16) p)) (pc' := 36) rfl rfl cd_Mo_begins rfl rfl rfl (vp_in_nI (by omega) (by decide)) (congrArg (A 16) (nI_clamp (by omega))) ?_
      refine m_if2 (t := 68) (pc' := 39) cd_Mo_begins rfl rfl rfl (fun c36 => ?_) (fun c36 => ?_)
      · have c36 : ¬ ((A 2) il) = ((A 16) p) := c36
        refine m_k1 (v := 0) (pc' := 69) cd_Mo_begins rfl (by decide) rfl ?_
        exact m_retz cd_Mo_begins rfl (Or.inl rfl) ⟨_, rfl, (k0 (hpre0 (fun q => c36 ((MT_eq hM h1 (hid p hp)).mpr q.2.1))))⟩
      · have c36 : ((A 2) il) = ((A 16) p) := Classical.not_not.mp c36
        refine m_ald (pc' := 40) cd_Mo_begins rfl (Or.inr ⟨_, rfl, rfl, rfl⟩) l0 rfl rfl ?_
        refine m_ald (pc' := 41) cd_Mo_begins rfl (Or.inr ⟨_, rfl, rfl, rfl⟩) l0 rfl rfl ?_
        refine m_fR (r := 2) (a := 3) (ad := 1485) (pc' := 44) rfl rfl cd_Mo_begins rfl rfl rfl rfl rfl ?_
        refine m_ild (pc' := 45) cd_Mo_begins rfl (Or.inr ⟨_, rfl, rfl, rfl⟩) l3 rfl ?_
        refine m_aI (r := 2) (a := 3) (g := (A 3)) (x := (nI i2)) (pc' := 46) rfl rfl cd_Mo_begins rfl rfl rfl (vp_in_nI (by omega) (by decide)) ((congrArg (A 3) (nI_clamp (by omega))).trans e2) ?_
        refine m_k1 (v := 1) (pc' := 47) cd_Mo_begins rfl (by decide) rfl ?_
        refine m_ci (pc' := 50) cd_Mo_begins rfl rfl rfl rfl rfl cd_Mo_isGood rfl (Nat.le_of_ble_eq_true rfl) (m_isGood1 hM h2 ?_)
        show mg _ _ _ 50 _ [.int (bz (Tgood 1 (pt X 1)))] _ _
        refine m_if1 (t := 68) (pc' := 53) cd_Mo_begins rfl rfl rfl (fun c50 => ?_) (fun c50 => ?_)
        · have c50 : (Tgood 1 (pt X 1)) = false := bz_f c50
          refine m_k1 (v := 0) (pc' := 69) cd_Mo_begins rfl (by decide) rfl ?_
          exact m_retz cd_Mo_begins rfl (Or.inl rfl) ⟨_, rfl, (k0 (hpre0 (fun q => Bool.noConfusion (c50.symm.trans q.2.2.1))))⟩
        · have c50 : (Tgood 1 (pt X 1)) = true := bz_t c50
          refine m_ald (pc' := 54) cd_Mo_begins rfl (Or.inr ⟨_, rfl, rfl, rfl⟩) l0 rfl rfl ?_
          refine m_ald (pc' := 55) cd_Mo_begins rfl (Or.inr ⟨_, rfl, rfl, rfl⟩) l0 rfl rfl ?_
          refine m_fR (r := 2) (a := 3) (ad := 1485) (pc' := 58) rfl rfl cd_Mo_begins rfl rfl rfl rfl rfl ?_
          refine m_ild (pc' := 59) cd_Mo_begins rfl (Or.inr ⟨_, rfl, rfl, rfl⟩) l3 rfl ?_
          refine m_aI (r := 2) (a := 3) (g := (A 3)) (x := (nI i2)) (pc' := 60) rfl rfl cd_Mo_begins rfl rfl rfl (vp_in_nI (by omega) (by decide)) ((congrArg (A 3) (nI_clamp (by omega))).trans e2) ?_
          refine m_k1 (v := 0) (pc' := 61) cd_Mo_begins rfl (by decide) rfl ?_
          refine m_ci (pc' := 64) cd_Mo_begins rfl rfl rfl rfl rfl cd_Mo_cell rfl (Nat.le_of_ble_eq_true rfl) (m_cellN (k := 0) hM h2 (good_k7 c50) (by decide) ?_)
          show mg _ _ _ 64 _ [.int (nu (pt X 1) 0)] _ _
          refine m_ild (pc' := 65) cd_Mo_begins rfl (Or.inr ⟨_, rfl, rfl, rfl⟩) l2 rfl ?_
          refine m_if2 (t := 70) (pc' := 68) cd_Mo_begins rfl rfl rfl (fun c65 => ?_) (fun c65 => ?_)
          · have c65 : (nu (pt X 1) 0) = (nI p) := c65
            refine m_ald (pc' := 71) cd_Mo_begins rfl (Or.inr ⟨_, rfl, rfl, rfl⟩) l0 rfl rfl ?_
            refine m_ald (pc' := 72) cd_Mo_begins rfl (Or.inr ⟨_, rfl, rfl, rfl⟩) l0 rfl rfl ?_
            refine m_fR (r := 2) (a := 3) (ad := 1485) (pc' := 75) rfl rfl cd_Mo_begins rfl rfl rfl rfl rfl ?_
            refine m_ild (pc' := 76) cd_Mo_begins rfl (Or.inr ⟨_, rfl, rfl, rfl⟩) l3 rfl ?_
            refine m_aI (r := 2) (a := 3) (g := (A 3)) (x := (nI i2)) (pc' := 77) rfl rfl cd_Mo_begins rfl rfl rfl (vp_in_nI (by omega) (by decide)) ((congrArg (A 3) (nI_clamp (by omega))).trans e2) ?_
            refine m_k1 (v := 4) (pc' := 78) cd_Mo_begins rfl (by decide) rfl ?_
            refine m_ci (pc' := 81) cd_Mo_begins rfl rfl rfl rfl rfl cd_Mo_cell rfl (Nat.le_of_ble_eq_true rfl) (m_cellP (k := 0) hM h2 (good_k7 c50) (by decide) (fun rp hrp => ?_))
            obtain ⟨ip, rfl, hip⟩ := hrp
            show mg _ _ _ 81 _ [.int (nI ip)] _ _
            refine m_ist (pc' := 83) cd_Mo_begins rfl (Or.inl ⟨rfl, rfl⟩) (by decide) rfl (fun lv el => ?_)
            have l0 := tm_lk el l0 rfl (by decide)
            have l1 := tm_lk el l1 rfl (by decide)
            have l2 := tm_lk el l2 rfl (by decide)
            have l3 := tm_lk el l3 rfl (by decide)
            have l4 : lv.lookup 4 = some (.int (nI ip)) := tm_lks el
            clear el
            refine m_k1 (v := 0) (pc' := 84) cd_Mo_begins rfl (by decide) rfl ?_
            refine m_ist (pc' := 86) cd_Mo_begins rfl (Or.inl ⟨rfl, rfl⟩) (by decide) rfl (fun lv el => ?_)
            have l0 := tm_lk el l0 rfl (by decide)
            have l1 := tm_lk el l1 rfl (by decide)
            have l2 := tm_lk el l2 rfl (by decide)
            have l3 := tm_lk el l3 rfl (by decide)
            have l4 := tm_lk el l4 rfl (by decide)
            have l5 : lv.lookup 5 = some (.int 0) := tm_lks el
            clear el
            refine m_k1 (v := 1) (pc' := 87) cd_Mo_begins rfl (by decide) rfl ?_
            refine m_ist (pc' := 89) cd_Mo_begins rfl (Or.inl ⟨rfl, rfl⟩) (by decide) rfl (fun lv el => ?_)
            have l0 := tm_lk el l0 rfl (by decide)
            have l1 := tm_lk el l1 rfl (by decide)
            have l2 := tm_lk el l2 rfl (by decide)
            have l3 := tm_lk el l3 rfl (by decide)
            have l4 := tm_lk el l4 rfl (by decide)
            have l5 := tm_lk el l5 rfl (by decide)
            have l6 : lv.lookup 6 = some (.int 1) := tm_lks el
            clear el
            have ePre := hpre1 ⟨c21, (MT_eq hM h1 (hid p hp)).mp c36, c50, c65⟩
            rw [← ePre] at hip
            have kP : kd (an_pre dir ids p) = 2 := by rw [ePre]; exact good_p0 (Or.inl rfl) c50
            have hnz : an_pre dir ids p ≠ tz := fun q => by rw [q] at kP; exact absurd kP (by decide)
            refine l_mbegL (ip := ip) hM hp hdir 4 1 rfl (by decide) (fun g o lv hg ho l0 l1 l2 l4 l5 => ?_) lv l0 l1 l2 l4 l5 l6
            refine l_mbeg2 (A := fset A 17 g) (f := f) (ids := ids) (by exact MT_i hM rfl rfl rfl rfl rfl rfl rfl rfl rfl rfl) hl (by exact hr) h11 hdl hs hp hid kid hip kP ho (fun q => an_once_kd q) hq (fun f1 A1 T1 p1 p2 p3 p4 p5 p6 p7 p8 p9 => ?_) lv l0 l1 l2 l4 l5
            have k2 := kk hnz f1 A1 T1 p1 p2 p3 (by exact MT_i p4 rfl rfl rfl rfl rfl rfl rfl rfl rfl rfl) p5 p6 (fun i hi => by rw [p7]; exact tv_mono p1 (hg i hi)) p8 p9
            rw [mjBA_17]
            exact k2
          · have c65 : ¬ (nu (pt X 1) 0) = (nI p) := c65
            refine m_k1 (v := 0) (pc' := 69) cd_Mo_begins rfl (by decide) rfl ?_
            exact m_retz cd_Mo_begins rfl (Or.inl rfl) ⟨_, rfl, (k0 (hpre0 (fun q => c65 q.2.2.2)))⟩
set_option maxRecDepth 100000 in
theorem m_chain {sc : tm_X} {d : Nat} {f : Nat → Int32} {A : Nat → Nat → Int32} {T : List Tm} {DL : List (Int32 × Int32)} {G Kw : Tm → Prop} {s a : Nat} {th ch ba ro mi sd bp bo : Tm} {nx n b : Int32} {le : List (Tm × Int32 × Tm)} {br on : Bool} {Q : MS → Prop} (hM : MT f A T DL G Kw) (hl : T.length + 4 ≤ 4000) (hr : rc (A 1) T.length < 1000) (h11 : f 11 = nI DL.length) (hdl : DL.length + 1 ≤ 3000) (ha : a + 38 ≤ 1602) (hS : qSe (A 15) T a ((th, ch, nx, le), ba, ro, mi, sd, n, b, br, bp, bo, on)) (kth : kd th = 2) (k0 : sd ≠ tz → Q (f, A)) (kk : sd = tz → ∀ f1 A1 T', T <+: T' → T'.length ≤ T.length + 4 → rc (A1 1) T'.length ≤ rc (A 1) T.length → MT (mjBf f1 f) (mjBA A1 A) T' (DL ++ [(nI s, 2)]) G Kw → f1 11 = nI (DL.length + 1) → dws A A1 DL.length (f 21) [(nI s, true)] → A1 17 = A 17 → qSe (A1 15) T' a (ss_turn ((th, ch, nx, le), ba, ro, mi, sd, n, b, br, bp, bo, on) (Tsec (nI DL.length) (nI s) 2)) → (∀ k, ¬ (a ≤ k ∧ k < a + 38) → A1 15 k = A 15 k) → Q (mjBf f1 f, mjBA A1 A)) : mGv sc (d + 4) 224 [.ref 1482, .int (nI s), .int (nI a)] (f, A) Q := by
  have hTl := MT_len hM
  have hS2 := hS
  obtain ⟨⟨a1, a2, a3, a4, a5, a6⟩, ⟨a7, a8, a9⟩, _⟩ := hS
  obtain ⟨it, et, hit⟩ := a4
  have hitl := tv_lt hit
  have kth1 := MT_pub1 hM ⟨it, rfl, hit⟩ kth
  show mg sc (d + 4) 224 0 [(0, .ref 1482), (1, .int (nI s)), (2, .int (nI a))] [] (f, A) _
  generalize elv : ([(0, .ref 1482), (1, .int (nI s)), (2, .int (nI a))] : tm_L) = lv
  have l0 : lv.lookup 0 = some (.ref 1482) := by rw [← elv]; rfl
  have l1 : lv.lookup 1 = some (.int (nI s)) := by rw [← elv]; rfl
  have l2 : lv.lookup 2 = some (.int (nI a)) := by rw [← elv]; rfl
  clear elv
  refine m_ald (pc' := 1) cd_Mo_chain rfl (Or.inr ⟨_, rfl, rfl, rfl⟩) l0 rfl rfl ?_
  refine m_fR (r := 14) (a := 15) (ad := 1497) (pc' := 4) rfl rfl cd_Mo_chain rfl rfl rfl rfl rfl ?_
  refine m_ild (pc' := 5) cd_Mo_chain rfl (Or.inr ⟨_, rfl, rfl, rfl⟩) l2 rfl ?_
  refine m_k1 (v := 4) (pc' := 6) cd_Mo_chain rfl (by decide) rfl ?_
  refine m_pure (pc' := 7) (st' := [.int ((nI a) + 4), .ref 1497]) cd_Mo_chain rfl rfl (fun _ _ => rfl) ?_
  refine m_eq (show ((nI a) + 4 : Int32) = nI (a + 4) from nI_add a 4) ?_
  refine m_aI (r := 14) (a := 15) (g := (A 15)) (x := ((A 15) (a + 4))) (pc' := 8) rfl rfl cd_Mo_chain rfl rfl rfl (vp_in_nI (by omega) (by decide)) (congrArg (A 15) (nI_clamp (by omega))) ?_
  refine m_if1 (t := 12) (pc' := 11) cd_Mo_chain rfl rfl rfl (fun c8 => ?_) (fun c8 => ?_)
  · have c8 : ((A 15) (a + 4)) = 0 := c8
    refine m_ald (pc' := 13) cd_Mo_chain rfl (Or.inr ⟨_, rfl, rfl, rfl⟩) l0 rfl rfl ?_
    refine m_fR (r := 14) (a := 15) (ad := 1497) (pc' := 16) rfl rfl cd_Mo_chain rfl rfl rfl rfl rfl ?_
    refine m_ild (pc' := 17) cd_Mo_chain rfl (Or.inr ⟨_, rfl, rfl, rfl⟩) l2 rfl ?_
    refine m_k2 (v := 6) (pc' := 19) cd_Mo_chain rfl (by decide) rfl ?_
    refine m_pure (pc' := 20) (st' := [.int ((nI a) + 6), .ref 1497]) cd_Mo_chain rfl rfl (fun _ _ => rfl) ?_
    refine m_eq (show ((nI a) + 6 : Int32) = nI (a + 6) from nI_add a 6) ?_
    refine m_ald (pc' := 21) cd_Mo_chain rfl (Or.inr ⟨_, rfl, rfl, rfl⟩) l0 rfl rfl ?_
    refine m_fR (r := 14) (a := 15) (ad := 1497) (pc' := 24) rfl rfl cd_Mo_chain rfl rfl rfl rfl rfl ?_
    refine m_ild (pc' := 25) cd_Mo_chain rfl (Or.inr ⟨_, rfl, rfl, rfl⟩) l2 rfl ?_
    refine m_k1 (v := 5) (pc' := 26) cd_Mo_chain rfl (by decide) rfl ?_
    refine m_pure (pc' := 27) (st' := [.int ((nI a) + 5), .ref 1497, .int (nI (a + 6)), .ref 1497]) cd_Mo_chain rfl rfl (fun _ _ => rfl) ?_
    refine m_eq (show ((nI a) + 5 : Int32) = nI (a + 5) from nI_add a 5) ?_
    refine m_aI (r := 14) (a := 15) (g := (A 15)) (x := ((A 15) (a + 5))) (pc' := 28) rfl rfl cd_Mo_chain rfl rfl rfl (vp_in_nI (by omega) (by decide)) (congrArg (A 15) (nI_clamp (by omega))) ?_
    refine m_aS (r := 14) (a := 15) (g := (A 15)) (p := (a + 6)) (pc' := 29) rfl rfl cd_Mo_chain rfl rfl rfl (vp_in_nI (by omega) (by decide)) (nI_clamp (by omega)) ?_
    refine m_ald (pc' := 30) cd_Mo_chain rfl (Or.inr ⟨_, rfl, rfl, rfl⟩) l0 rfl rfl ?_
    refine m_fR (r := 14) (a := 15) (ad := 1497) (pc' := 33) rfl rfl cd_Mo_chain rfl rfl rfl rfl rfl ?_
    refine m_ild (pc' := 34) cd_Mo_chain rfl (Or.inr ⟨_, rfl, rfl, rfl⟩) l2 rfl ?_
    refine m_k1 (v := 5) (pc' := 35) cd_Mo_chain rfl (by decide) rfl ?_
    refine m_pure (pc' := 36) (st' := [.int ((nI a) + 5), .ref 1497]) cd_Mo_chain rfl rfl (fun _ _ => rfl) ?_
    refine m_eq (show ((nI a) + 5 : Int32) = nI (a + 5) from nI_add a 5) ?_
    refine m_k1 (v := 0) (pc' := 37) cd_Mo_chain rfl (by decide) rfl ?_
    refine m_aS (r := 14) (a := 15) (g := (upd (A 15) (a + 6) ((A 15) (a + 5)))) (p := (a + 5)) (pc' := 38) rfl rfl cd_Mo_chain rfl rfl rfl (vp_in_nI (by omega) (by decide)) (nI_clamp (by omega)) ?_
    rw [fset_fset]
    refine m_ald (pc' := 39) cd_Mo_chain rfl (Or.inr ⟨_, rfl, rfl, rfl⟩) l0 rfl rfl ?_
    refine m_fR (r := 14) (a := 15) (ad := 1497) (pc' := 42) rfl rfl cd_Mo_chain rfl rfl rfl rfl rfl ?_
    refine m_ild (pc' := 43) cd_Mo_chain rfl (Or.inr ⟨_, rfl, rfl, rfl⟩) l2 rfl ?_
    refine m_k1 (v := 2) (pc' := 44) cd_Mo_chain rfl (by decide) rfl ?_
    refine m_pure (pc' := 45) (st' := [.int ((nI a) + 2), .ref 1497]) cd_Mo_chain rfl rfl (fun _ _ => rfl) ?_
    refine m_eq (show ((nI a) + 2 : Int32) = nI (a + 2) from nI_add a 2) ?_
    refine m_ald (pc' := 46) cd_Mo_chain rfl (Or.inr ⟨_, rfl, rfl, rfl⟩) l0 rfl rfl ?_
    refine m_ild (pc' := 47) cd_Mo_chain rfl (Or.inr ⟨_, rfl, rfl, rfl⟩) l1 rfl ?_
    refine m_k1 (v := 1) (pc' := 48) cd_Mo_chain rfl (by decide) rfl ?_
    refine m_ci (pc' := 51) cd_Mo_chain rfl rfl rfl rfl rfl cd_Mo_drawn rfl (Nat.le_of_ble_eq_true rfl) (m_drawn (rt := true) (xd := (nI s)) (xp := 2) (by exact MT_i hM rfl rfl rfl rfl rfl rfl rfl rfl rfl rfl) (by omega) (by show rc (A 1) T.length < 1000; omega) h11 (by omega) (fun f1 A1 T1 r1 hx1 hr1 => ?_))
    obtain ⟨p1, q1, s1, hM1⟩ := hx1
    have hM1 : MT f1 A1 T1 _ _ _ := MT_i hM1 rfl rfl rfl rfl rfl rfl rfl rfl rfl rfl
    have s1 : rc (A1 1) T1.length ≤ rc (A 1) T.length + 0 := s1
    show mg _ _ _ 51 _ [.int r1, .int (nI (a + 2)), .ref 1497] _ _
    refine m_aS (r := 14) (a := 15) (g := (upd (upd (A 15) (a + 6) ((A 15) (a + 5))) (a + 5) 0)) (p := (a + 2)) (pc' := 52) rfl rfl cd_Mo_chain rfl rfl rfl (vp_in_nI (by omega) (by decide)) (nI_clamp (by omega)) ?_
    refine m_ald (pc' := 53) cd_Mo_chain rfl (Or.inr ⟨_, rfl, rfl, rfl⟩) l0 rfl rfl ?_
    refine m_ald (pc' := 54) cd_Mo_chain rfl (Or.inr ⟨_, rfl, rfl, rfl⟩) l0 rfl rfl ?_
    refine m_fR (r := 14) (a := 15) (ad := 1497) (pc' := 57) rfl rfl cd_Mo_chain rfl rfl rfl rfl rfl ?_
    refine m_ild (pc' := 58) cd_Mo_chain rfl (Or.inr ⟨_, rfl, rfl, rfl⟩) l2 rfl ?_
    refine m_k1 (v := 2) (pc' := 59) cd_Mo_chain rfl (by decide) rfl ?_
    refine m_pure (pc' := 60) (st' := [.int ((nI a) + 2), .ref 1497, .ref 1482]) cd_Mo_chain rfl rfl (fun _ _ => rfl) ?_
    refine m_eq (show ((nI a) + 2 : Int32) = nI (a + 2) from nI_add a 2) ?_
    refine m_aI (r := 14) (a := 15) (g := (upd (upd (upd (A 15) (a + 6) ((A 15) (a + 5))) (a + 5) 0) (a + 2) r1)) (x := r1) (pc' := 61) rfl rfl cd_Mo_chain rfl rfl rfl (vp_in_nI (by omega) (by decide)) (by rw [(nI_clamp (by omega)), upd_same]) ?_
    refine m_ald (pc' := 62) cd_Mo_chain rfl (Or.inr ⟨_, rfl, rfl, rfl⟩) l0 rfl rfl ?_
    refine m_fR (r := 1) (a := 2) (ad := 1484) (pc' := 65) rfl rfl cd_Mo_chain rfl rfl rfl rfl rfl ?_
    refine m_ald (pc' := 66) cd_Mo_chain rfl (Or.inr ⟨_, rfl, rfl, rfl⟩) l0 rfl rfl ?_
    refine m_fR (r := 14) (a := 15) (ad := 1497) (pc' := 69) rfl rfl cd_Mo_chain rfl rfl rfl rfl rfl ?_
    refine m_ild (pc' := 70) cd_Mo_chain rfl (Or.inr ⟨_, rfl, rfl, rfl⟩) l2 rfl ?_
    refine m_k1 (v := 3) (pc' := 71) cd_Mo_chain rfl (by decide) rfl ?_
    refine m_pure (pc' := 72) (st' := [.int ((nI a) + 3), .ref 1497, .ref 1484, .int r1, .ref 1482]) cd_Mo_chain rfl rfl (fun _ _ => rfl) ?_
    refine m_eq (show ((nI a) + 3 : Int32) = nI (a + 3) from nI_add a 3) ?_
    refine m_aI (r := 14) (a := 15) (g := (upd (upd (upd (A 15) (a + 6) ((A 15) (a + 5))) (a + 5) 0) (a + 2) r1)) (x := (nI it)) (pc' := 73) rfl rfl cd_Mo_chain rfl rfl rfl (vp_in_nI (by omega) (by decide)) (by rw [(nI_clamp (by omega)), upd_ne (by omega), upd_ne (by omega), upd_ne (by omega)]; exact et) ?_
    have hone1 := MT_one hM1 (pfx_get p1 hit) (Or.inl kth)
    refine m_aI (r := 1) (a := 2) (g := (A1 2)) (x := ((A1 2) it)) (pc' := 74) rfl rfl cd_Mo_chain rfl rfl rfl (vp_in_nI (by omega) (by decide)) (congrArg (A1 2) (nI_clamp (by omega))) ?_
    refine m_ci (pc' := 77) cd_Mo_chain rfl rfl rfl rfl rfl cd_Mo_shared rfl (Nat.le_of_ble_eq_true rfl) (m_shared (by exact MT_i hM1 rfl rfl rfl rfl rfl rfl rfl rfl rfl rfl) (by omega) (by show rc (A1 1) T1.length < 1000; omega) hr1 hone1 rfl kth1 (fun f2 A2 T2 r2 hx2 hr2 => ?_))
    obtain ⟨p2, q2, s2, hM2⟩ := hx2
    have hM2 : MT f2 A2 T2 _ _ _ := MT_i hM2 rfl rfl rfl rfl rfl rfl rfl rfl rfl rfl
    have s2 : rc (A2 1) T2.length ≤ rc (A1 1) T1.length + 0 := s2
    show mg _ _ _ 77 _ [.int r2] _ _
    refine m_ist (pc' := 78) cd_Mo_chain rfl (Or.inr ⟨_, rfl, rfl, rfl⟩) (by decide) rfl (fun lv el => ?_)
    have l0 := tm_lk el l0 rfl (by decide)
    have l1 := tm_lk el l1 rfl (by decide)
    have l2 := tm_lk el l2 rfl (by decide)
    have l3 : lv.lookup 3 = some (.int r2) := tm_lks el
    clear el
    refine m_ald (pc' := 79) cd_Mo_chain rfl (Or.inr ⟨_, rfl, rfl, rfl⟩) l0 rfl rfl ?_
    refine m_fR (r := 14) (a := 15) (ad := 1497) (pc' := 82) rfl rfl cd_Mo_chain rfl rfl rfl rfl rfl ?_
    refine m_ild (pc' := 83) cd_Mo_chain rfl (Or.inr ⟨_, rfl, rfl, rfl⟩) l2 rfl ?_
    refine m_k1 (v := 4) (pc' := 84) cd_Mo_chain rfl (by decide) rfl ?_
    refine m_pure (pc' := 85) (st' := [.int ((nI a) + 4), .ref 1497]) cd_Mo_chain rfl rfl (fun _ _ => rfl) ?_
    refine m_eq (show ((nI a) + 4 : Int32) = nI (a + 4) from nI_add a 4) ?_
    refine m_ald (pc' := 86) cd_Mo_chain rfl (Or.inr ⟨_, rfl, rfl, rfl⟩) l0 rfl rfl ?_
    refine m_k1 (v := 5) (pc' := 87) cd_Mo_chain rfl (by decide) rfl ?_
    refine m_ald (pc' := 88) cd_Mo_chain rfl (Or.inr ⟨_, rfl, rfl, rfl⟩) l0 rfl rfl ?_
    refine m_fR (r := 14) (a := 15) (ad := 1497) (pc' := 91) rfl rfl cd_Mo_chain rfl rfl rfl rfl rfl ?_
    refine m_ild (pc' := 92) cd_Mo_chain rfl (Or.inr ⟨_, rfl, rfl, rfl⟩) l2 rfl ?_
    refine m_k1 (v := 1) (pc' := 93) cd_Mo_chain rfl (by decide) rfl ?_
    refine m_pure (pc' := 94) (st' := [.int ((nI a) + 1), .ref 1497, .int 5, .ref 1482, .int (nI (a + 4)), .ref 1497]) cd_Mo_chain rfl rfl (fun _ _ => rfl) ?_
    refine m_eq (show ((nI a) + 1 : Int32) = nI (a + 1) from nI_add a 1) ?_
    refine m_aI (r := 14) (a := 15) (g := (upd (upd (upd (A 15) (a + 6) ((A 15) (a + 5))) (a + 5) 0) (a + 2) r1)) (x := ((A 15) (a + 1))) (pc' := 95) rfl rfl cd_Mo_chain rfl rfl rfl (vp_in_nI (by omega) (by decide)) (by rw [(nI_clamp (by omega)), upd_ne (by omega), upd_ne (by omega), upd_ne (by omega)]) ?_
    refine m_ild (pc' := 96) cd_Mo_chain rfl (Or.inr ⟨_, rfl, rfl, rfl⟩) l3 rfl ?_
    refine m_ci (pc' := 99) cd_Mo_chain rfl rfl rfl rfl rfl cd_Mo_mix rfl (Nat.le_of_ble_eq_true rfl) (m_mix (by exact MT_i hM2 rfl rfl rfl rfl rfl rfl rfl rfl rfl rfl) (by omega) (by show rc (A2 1) T2.length < 1000; omega) (tv_mono p2 (tv_mono p1 a2)) hr2 (fun f3 A3 T3 r3 hx3 hr3 => ?_))
    obtain ⟨p3, q3, s3, hM3⟩ := hx3
    have hM3 : MT f3 A3 T3 _ _ _ := MT_i hM3 rfl rfl rfl rfl rfl rfl rfl rfl rfl rfl
    have s3 : rc (A3 1) T3.length ≤ rc (A2 1) T2.length + 0 := s3
    show mg _ _ _ 99 _ [.int r3, .int (nI (a + 4)), .ref 1497] _ _
    refine m_aS (r := 14) (a := 15) (g := (upd (upd (upd (A 15) (a + 6) ((A 15) (a + 5))) (a + 5) 0) (a + 2) r1)) (p := (a + 4)) (pc' := 100) rfl rfl cd_Mo_chain rfl rfl rfl (vp_in_nI (by omega) (by decide)) (nI_clamp (by omega)) ?_
    refine m_ald (pc' := 101) cd_Mo_chain rfl (Or.inr ⟨_, rfl, rfl, rfl⟩) l0 rfl rfl ?_
    refine m_fR (r := 14) (a := 15) (ad := 1497) (pc' := 104) rfl rfl cd_Mo_chain rfl rfl rfl rfl rfl ?_
    refine m_ild (pc' := 105) cd_Mo_chain rfl (Or.inr ⟨_, rfl, rfl, rfl⟩) l2 rfl ?_
    refine m_k1 (v := 1) (pc' := 106) cd_Mo_chain rfl (by decide) rfl ?_
    refine m_pure (pc' := 107) (st' := [.int ((nI a) + 1), .ref 1497]) cd_Mo_chain rfl rfl (fun _ _ => rfl) ?_
    refine m_eq (show ((nI a) + 1 : Int32) = nI (a + 1) from nI_add a 1) ?_
    refine m_ald (pc' := 108) cd_Mo_chain rfl (Or.inr ⟨_, rfl, rfl, rfl⟩) l0 rfl rfl ?_
    refine m_k1 (v := 4) (pc' := 109) cd_Mo_chain rfl (by decide) rfl ?_
    refine m_ald (pc' := 110) cd_Mo_chain rfl (Or.inr ⟨_, rfl, rfl, rfl⟩) l0 rfl rfl ?_
    refine m_fR (r := 14) (a := 15) (ad := 1497) (pc' := 113) rfl rfl cd_Mo_chain rfl rfl rfl rfl rfl ?_
    refine m_ild (pc' := 114) cd_Mo_chain rfl (Or.inr ⟨_, rfl, rfl, rfl⟩) l2 rfl ?_
    refine m_k1 (v := 1) (pc' := 115) cd_Mo_chain rfl (by decide) rfl ?_
    refine m_pure (pc' := 116) (st' := [.int ((nI a) + 1), .ref 1497, .int 4, .ref 1482, .int (nI (a + 1)), .ref 1497]) cd_Mo_chain rfl rfl (fun _ _ => rfl) ?_
    refine m_eq (show ((nI a) + 1 : Int32) = nI (a + 1) from nI_add a 1) ?_
    refine m_aI (r := 14) (a := 15) (g := (upd (upd (upd (upd (A 15) (a + 6) ((A 15) (a + 5))) (a + 5) 0) (a + 2) r1) (a + 4) r3)) (x := ((A 15) (a + 1))) (pc' := 117) rfl rfl cd_Mo_chain rfl rfl rfl (vp_in_nI (by omega) (by decide)) (by rw [(nI_clamp (by omega)), upd_ne (by omega), upd_ne (by omega), upd_ne (by omega), upd_ne (by omega)]) ?_
    refine m_ild (pc' := 118) cd_Mo_chain rfl (Or.inr ⟨_, rfl, rfl, rfl⟩) l3 rfl ?_
    refine m_ci (pc' := 121) cd_Mo_chain rfl rfl rfl rfl rfl cd_Mo_mix rfl (Nat.le_of_ble_eq_true rfl) (m_mix (by exact MT_i hM3 rfl rfl rfl rfl rfl rfl rfl rfl rfl rfl) (by omega) (by show rc (A3 1) T3.length < 1000; omega) (tv_mono p3 (tv_mono p2 (tv_mono p1 a2))) (tv_mono p3 hr2) (fun f4 A4 T4 r4 hx4 hr4 => ?_))
    obtain ⟨p4, q4, s4, hM4⟩ := hx4
    have hM4 : MT f4 A4 T4 _ _ _ := MT_i hM4 rfl rfl rfl rfl rfl rfl rfl rfl rfl rfl
    have s4 : rc (A4 1) T4.length ≤ rc (A3 1) T3.length + 0 := s4
    show mg _ _ _ 121 _ [.int r4, .int (nI (a + 1)), .ref 1497] _ _
    refine m_aS (r := 14) (a := 15) (g := (upd (upd (upd (upd (A 15) (a + 6) ((A 15) (a + 5))) (a + 5) 0) (a + 2) r1) (a + 4) r3)) (p := (a + 1)) (pc' := 122) rfl rfl cd_Mo_chain rfl rfl rfl (vp_in_nI (by omega) (by decide)) (nI_clamp (by omega)) ?_
    have sz : sd = tz := (MT_0 hM a5).mp c8
    have e15 : ∀ k, ¬ (a ≤ k ∧ k < a + 38) → (upd (upd (upd (upd (upd (A 15) (a + 6) ((A 15) (a + 5))) (a + 5) 0) (a + 2) r1) (a + 4) r3) (a + 1) r4) k = A 15 k := fun k q => by rw [upd_ne (by omega), upd_ne (by omega), upd_ne (by omega), upd_ne (by omega), upd_ne (by omega)]
    have hse : qSe (upd (upd (upd (upd (upd (A 15) (a + 6) ((A 15) (a + 5))) (a + 5) 0) (a + 2) r1) (a + 4) r3) (a + 1) r4) T4 a (ss_turn ((th, ch, nx, le), ba, ro, mi, sd, n, b, br, bp, bo, on) (Tsec (nI DL.length) (nI s) 2)) := by
      rw [show ss_turn ((th, ch, nx, le), ba, ro, mi, sd, n, b, br, bp, bo, on) (Tsec (nI DL.length) (nI s) 2) = ((th, ch, nx, le), ba, Tmx 4 ro (Tsh (Tsec (nI DL.length) (nI s) 2) (pt th 0)), (Tsec (nI DL.length) (nI s) 2), Tmx 5 ro (Tsh (Tsec (nI DL.length) (nI s) 2) (pt th 0)), 0, n, br, bp, bo, on) from cif_t sz]
      refine qSe_set (((p1.trans p2).trans p3).trans p4) hS2 (fun k k1 k2 k3 k4 k5 k6 => by rw [upd_ne (by omega), upd_ne (by omega), upd_ne (by omega), upd_ne (by omega), upd_ne (by omega)]) ?_ ?_ ?_ ?_ ?_
      · rw [upd_same]; exact hr4
      · rw [upd_ne (by omega), upd_ne (by omega), upd_same]; exact (tv_mono p4 (tv_mono p3 (tv_mono p2 hr1)))
      · rw [upd_ne (by omega), upd_same]; exact (tv_mono p4 hr3)
      · rw [upd_ne (by omega), upd_ne (by omega), upd_ne (by omega), upd_same]
      · rw [upd_ne (by omega), upd_ne (by omega), upd_ne (by omega), upd_ne (by omega), upd_same]; exact a7
    exact m_retv cd_Mo_chain rfl ⟨rfl, (mB_end (f := f) (A := A) (fun k q => by have e0 : ¬ (k = 0 ∨ k = 7) := (by omega); have e1 : ¬ k = 11 := (by omega); simp only [fset, mjF, e0, e1, if_false]) (fun j q => by have e0 : ¬ (1 ≤ j ∧ j ≤ 8) := (by omega); have e10 : ¬ j = 10 := (by omega); have e11 : ¬ j = 11 := (by omega); have e12 : ¬ j = 12 := (by omega); have e13 : ¬ j = 13 := (by omega); have e15 : ¬ j = 15 := (by omega); simp only [fset, mjA, drA, e0, e10, e11, e12, e13, e15, if_false]) (kk sz _ _ _ (((p1.trans p2).trans p3).trans p4) (by omega) (show rc (A4 1) _ ≤ _ by omega) (by exact MT_i hM4 rfl rfl rfl rfl rfl rfl rfl rfl rfl rfl) rfl ⟨rfl, rfl, rfl, rfl⟩ rfl hse e15))⟩
  · have c8 : ¬ ((A 15) (a + 4)) = 0 := c8
    exact m_retv cd_Mo_chain rfl ⟨rfl, k0 (fun q => c8 ((MT_0 hM a5).mpr q))⟩
set_option maxRecDepth 100000 in
theorem m_sends {sc : tm_X} {d : Nat} {f : Nat → Int32} {A : Nat → Nat → Int32} {T : List Tm} {DL : List (Int32 × Int32)} {G Kw : Tm → Prop} {s p m : Nat} {x : Int32} {B : Tm} {th ch ba ro mi sd bp bo : Tm} {nx n b : Int32} {le : List (Tm × Int32 × Tm)} {br on : Bool} {Q : MS → Prop} (hM : MT f A T DL G Kw) (hl : T.length + 5 ≤ 4000) (hr : rc (A 1) T.length + 1 < 1000) (hp : p < 6) (hS : qSe (A 15) T (30 + (2 * p + 0) * 38) ((th, ch, nx, le), ba, ro, mi, sd, n, b, br, bp, bo, on)) (kmi : kd mi = 1) (hx : tv T x B) (hBz : B ≠ tz) (h30 : f 30 = nI m) (hm : m < 16) (kk : ∀ f1 A1 T' r, T <+: T' → T'.length ≤ T.length + 5 → rc (A1 1) T'.length ≤ rc (A 1) T.length + 1 → MT (mjSf f1 f) (mjSA A1 A) T' DL G Kw → f1 30 = nI (m + 1) → A1 26 = upd (A 26) m r → tv T' r (ss_wire ((th, ch, nx, le), ba, ro, mi, sd, n, b, br, bp, bo, on) (nI s) (nI p) B) → qSe (A1 15) T' (30 + (2 * p + 0) * 38) (ss_sent ((th, ch, nx, le), ba, ro, mi, sd, n, b, br, bp, bo, on)) → (∀ k, ¬ ((30 + (2 * p + 0) * 38) ≤ k ∧ k < (30 + (2 * p + 0) * 38) + 38) → A1 15 k = A 15 k) → Q (mjSf f1 f, mjSA A1 A)) : mGv sc (d + 4) 225 [.ref 1482, .int (nI s), .int (nI p), .int x] (f, A) Q := by
  have hTl := MT_len hM
  have hS2 := hS
  obtain ⟨⟨a1, a2, a3, a4, a5, a6⟩, ⟨a7, a8, a9⟩, ⟨a10, a11⟩, _⟩ := hS
  show mg sc (d + 4) 225 0 [(0, .ref 1482), (1, .int (nI s)), (2, .int (nI p)), (3, .int x)] [] (f, A) _
  generalize elv : ([(0, .ref 1482), (1, .int (nI s)), (2, .int (nI p)), (3, .int x)] : tm_L) = lv
  have l0 : lv.lookup 0 = some (.ref 1482) := by rw [← elv]; rfl
  have l1 : lv.lookup 1 = some (.int (nI s)) := by rw [← elv]; rfl
  have l2 : lv.lookup 2 = some (.int (nI p)) := by rw [← elv]; rfl
  have l3 : lv.lookup 3 = some (.int x) := by rw [← elv]; rfl
  clear elv
  cases br with
  | true =>
    refine m_ild (pc' := 1) cd_Mo_sends rfl (Or.inr ⟨_, rfl, rfl, rfl⟩) l2 rfl ?_
    refine m_k1 (v := 0) (pc' := 2) cd_Mo_sends rfl (by decide) rfl ?_
    refine m_si (pc' := 5) cd_Mo_sends rfl rfl rfl rfl rfl cd_Mo_sessionAt rfl (Nat.le_of_ble_eq_true rfl) (m_sessionAt ?_)
    show mg _ _ _ 5 _ [.int (nI (30 + (2 * p + 0) * 38))] _ _
    refine m_ist (pc' := 7) cd_Mo_sends rfl (Or.inl ⟨rfl, rfl⟩) (by decide) rfl (fun lv el => ?_)
    have l0 := tm_lk el l0 rfl (by decide)
    have l1 := tm_lk el l1 rfl (by decide)
    have l2 := tm_lk el l2 rfl (by decide)
    have l3 := tm_lk el l3 rfl (by decide)
    have l4 : lv.lookup 4 = some (.int (nI (30 + (2 * p + 0) * 38))) := tm_lks el
    clear el
    refine m_ald (pc' := 8) cd_Mo_sends rfl (Or.inr ⟨_, rfl, rfl, rfl⟩) l0 rfl rfl ?_
    refine m_fR (r := 8) (a := 9) (ad := 1491) (pc' := 11) rfl rfl cd_Mo_sends rfl rfl rfl rfl rfl ?_
    refine m_k1 (v := 0) (pc' := 12) cd_Mo_sends rfl (by decide) rfl ?_
    refine m_ild (pc' := 13) cd_Mo_sends rfl (Or.inr ⟨_, rfl, rfl, rfl⟩) l1 rfl ?_
    refine m_aS (r := 8) (a := 9) (g := (A 9)) (p := 0) (pc' := 14) rfl rfl cd_Mo_sends rfl rfl rfl (vp_in_nI (n := 0) (by decide) (by decide)) (show (0 : Int32).toNatClampNeg = 0 by decide) ?_
    refine m_ald (pc' := 15) cd_Mo_sends rfl (Or.inr ⟨_, rfl, rfl, rfl⟩) l0 rfl rfl ?_
    refine m_fR (r := 8) (a := 9) (ad := 1491) (pc' := 18) rfl rfl cd_Mo_sends rfl rfl rfl rfl rfl ?_
    refine m_k1 (v := 1) (pc' := 19) cd_Mo_sends rfl (by decide) rfl ?_
    refine m_ild (pc' := 20) cd_Mo_sends rfl (Or.inr ⟨_, rfl, rfl, rfl⟩) l2 rfl ?_
    refine m_aS (r := 8) (a := 9) (g := (upd (A 9) 0 (nI s))) (p := 1) (pc' := 21) rfl rfl cd_Mo_sends rfl rfl rfl (vp_in_nI (n := 1) (by decide) (by decide)) (show (1 : Int32).toNatClampNeg = 1 by decide) ?_
    rw [fset_fset]
    refine m_ald (pc' := 22) cd_Mo_sends rfl (Or.inr ⟨_, rfl, rfl, rfl⟩) l0 rfl rfl ?_
    refine m_fR (r := 8) (a := 9) (ad := 1491) (pc' := 25) rfl rfl cd_Mo_sends rfl rfl rfl rfl rfl ?_
    refine m_k1 (v := 2) (pc' := 26) cd_Mo_sends rfl (by decide) rfl ?_
    refine m_ald (pc' := 27) cd_Mo_sends rfl (Or.inr ⟨_, rfl, rfl, rfl⟩) l0 rfl rfl ?_
    refine m_fR (r := 14) (a := 15) (ad := 1497) (pc' := 30) rfl rfl cd_Mo_sends rfl rfl rfl rfl rfl ?_
    refine m_ild (pc' := 32) cd_Mo_sends rfl (Or.inl ⟨rfl, rfl⟩) l4 rfl ?_
    refine m_k1 (v := 5) (pc' := 33) cd_Mo_sends rfl (by decide) rfl ?_
    refine m_pure (pc' := 34) (st' := [.int ((nI (30 + (2 * p + 0) * 38)) + 5), .ref 1497, .int 2, .ref 1491]) cd_Mo_sends rfl rfl (fun _ _ => rfl) ?_
    refine m_eq (show ((nI (30 + (2 * p + 0) * 38)) + 5 : Int32) = nI ((30 + (2 * p + 0) * 38) + 5) from nI_add (30 + (2 * p + 0) * 38) 5) ?_
    refine m_aI (r := 14) (a := 15) (g := (A 15)) (x := n) (pc' := 35) rfl rfl cd_Mo_sends rfl rfl rfl (vp_in_nI (by omega) (by decide)) (by rw [(nI_clamp (by omega))]; exact a7) ?_
    refine m_aS (r := 8) (a := 9) (g := (upd (upd (A 9) 0 (nI s)) 1 (nI p))) (p := 2) (pc' := 36) rfl rfl cd_Mo_sends rfl rfl rfl (vp_in_nI (n := 2) (by decide) (by decide)) (show (2 : Int32).toNatClampNeg = 2 by decide) ?_
    rw [fset_fset]
    refine m_ald (pc' := 37) cd_Mo_sends rfl (Or.inr ⟨_, rfl, rfl, rfl⟩) l0 rfl rfl ?_
    refine m_fR (r := 8) (a := 9) (ad := 1491) (pc' := 40) rfl rfl cd_Mo_sends rfl rfl rfl rfl rfl ?_
    refine m_k1 (v := 3) (pc' := 41) cd_Mo_sends rfl (by decide) rfl ?_
    refine m_ald (pc' := 42) cd_Mo_sends rfl (Or.inr ⟨_, rfl, rfl, rfl⟩) l0 rfl rfl ?_
    refine m_fR (r := 14) (a := 15) (ad := 1497) (pc' := 45) rfl rfl cd_Mo_sends rfl rfl rfl rfl rfl ?_
    refine m_ild (pc' := 47) cd_Mo_sends rfl (Or.inl ⟨rfl, rfl⟩) l4 rfl ?_
    refine m_k2 (v := 6) (pc' := 49) cd_Mo_sends rfl (by decide) rfl ?_
    refine m_pure (pc' := 50) (st' := [.int ((nI (30 + (2 * p + 0) * 38)) + 6), .ref 1497, .int 3, .ref 1491]) cd_Mo_sends rfl rfl (fun _ _ => rfl) ?_
    refine m_eq (show ((nI (30 + (2 * p + 0) * 38)) + 6 : Int32) = nI ((30 + (2 * p + 0) * 38) + 6) from nI_add (30 + (2 * p + 0) * 38) 6) ?_
    refine m_aI (r := 14) (a := 15) (g := (A 15)) (x := b) (pc' := 51) rfl rfl cd_Mo_sends rfl rfl rfl (vp_in_nI (by omega) (by decide)) (by rw [(nI_clamp (by omega))]; exact a8) ?_
    refine m_aS (r := 8) (a := 9) (g := (upd (upd (upd (A 9) 0 (nI s)) 1 (nI p)) 2 n)) (p := 3) (pc' := 52) rfl rfl cd_Mo_sends rfl rfl rfl (vp_in_nI (n := 3) (by decide) (by decide)) (show (3 : Int32).toNatClampNeg = 3 by decide) ?_
    rw [fset_fset]
    refine m_ald (pc' := 53) cd_Mo_sends rfl (Or.inr ⟨_, rfl, rfl, rfl⟩) l0 rfl rfl ?_
    refine m_fR (r := 8) (a := 9) (ad := 1491) (pc' := 56) rfl rfl cd_Mo_sends rfl rfl rfl rfl rfl ?_
    refine m_k1 (v := 4) (pc' := 57) cd_Mo_sends rfl (by decide) rfl ?_
    refine m_ald (pc' := 58) cd_Mo_sends rfl (Or.inr ⟨_, rfl, rfl, rfl⟩) l0 rfl rfl ?_
    refine m_fR (r := 14) (a := 15) (ad := 1497) (pc' := 61) rfl rfl cd_Mo_sends rfl rfl rfl rfl rfl ?_
    refine m_ild (pc' := 63) cd_Mo_sends rfl (Or.inl ⟨rfl, rfl⟩) l4 rfl ?_
    refine m_k1 (v := 0) (pc' := 64) cd_Mo_sends rfl (by decide) rfl ?_
    refine m_pure (pc' := 65) (st' := [.int ((nI (30 + (2 * p + 0) * 38)) + 0), .ref 1497, .int 4, .ref 1491]) cd_Mo_sends rfl rfl (fun _ _ => rfl) ?_
    refine m_eq (show ((nI (30 + (2 * p + 0) * 38)) + 0 : Int32) = nI ((30 + (2 * p + 0) * 38) + 0) from nI_add (30 + (2 * p + 0) * 38) 0) ?_
    refine m_aI (r := 14) (a := 15) (g := (A 15)) (x := ((A 15) ((30 + (2 * p + 0) * 38) + 0))) (pc' := 66) rfl rfl cd_Mo_sends rfl rfl rfl (vp_in_nI (by omega) (by decide)) (congrArg (A 15) (nI_clamp (by omega))) ?_
    refine m_aS (r := 8) (a := 9) (g := (upd (upd (upd (upd (A 9) 0 (nI s)) 1 (nI p)) 2 n) 3 b)) (p := 4) (pc' := 67) rfl rfl cd_Mo_sends rfl rfl rfl (vp_in_nI (n := 4) (by decide) (by decide)) (show (4 : Int32).toNatClampNeg = 4 by decide) ?_
    rw [fset_fset]
    refine m_ald (pc' := 68) cd_Mo_sends rfl (Or.inr ⟨_, rfl, rfl, rfl⟩) l0 rfl rfl ?_
    refine m_fR (r := 8) (a := 9) (ad := 1491) (pc' := 71) rfl rfl cd_Mo_sends rfl rfl rfl rfl rfl ?_
    refine m_k2 (v := 6) (pc' := 73) cd_Mo_sends rfl (by decide) rfl ?_
    refine m_ald (pc' := 74) cd_Mo_sends rfl (Or.inr ⟨_, rfl, rfl, rfl⟩) l0 rfl rfl ?_
    refine m_fR (r := 14) (a := 15) (ad := 1497) (pc' := 77) rfl rfl cd_Mo_sends rfl rfl rfl rfl rfl ?_
    refine m_ild (pc' := 79) cd_Mo_sends rfl (Or.inl ⟨rfl, rfl⟩) l4 rfl ?_
    refine m_k2 (v := 9) (pc' := 81) cd_Mo_sends rfl (by decide) rfl ?_
    refine m_pure (pc' := 82) (st' := [.int ((nI (30 + (2 * p + 0) * 38)) + 9), .ref 1497, .int 6, .ref 1491]) cd_Mo_sends rfl rfl (fun _ _ => rfl) ?_
    refine m_eq (show ((nI (30 + (2 * p + 0) * 38)) + 9 : Int32) = nI ((30 + (2 * p + 0) * 38) + 9) from nI_add (30 + (2 * p + 0) * 38) 9) ?_
    refine m_aI (r := 14) (a := 15) (g := (A 15)) (x := 1) (pc' := 83) rfl rfl cd_Mo_sends rfl rfl rfl (vp_in_nI (by omega) (by decide)) (by rw [(nI_clamp (by omega))]; exact a10) ?_
    refine m_k1 (v := 1) (pc' := 84) cd_Mo_sends rfl (by decide) rfl ?_
    refine m_if2 (t := 100) (pc' := 87) cd_Mo_sends rfl rfl rfl (fun c84 => ?_) (fun c84 => ?_)
    · exact absurd (show ¬ (1 : Int32) = 1 from c84) (by decide)
    · have c84 : (1 : Int32) = 1 := Classical.not_not.mp c84
      refine m_ald (pc' := 88) cd_Mo_sends rfl (Or.inr ⟨_, rfl, rfl, rfl⟩) l0 rfl rfl ?_
      refine m_fR (r := 14) (a := 15) (ad := 1497) (pc' := 91) rfl rfl cd_Mo_sends rfl rfl rfl rfl rfl ?_
      refine m_ild (pc' := 93) cd_Mo_sends rfl (Or.inl ⟨rfl, rfl⟩) l4 rfl ?_
      refine m_k2 (v := 10) (pc' := 95) cd_Mo_sends rfl (by decide) rfl ?_
      refine m_pure (pc' := 96) (st' := [.int ((nI (30 + (2 * p + 0) * 38)) + 10), .ref 1497, .int 6, .ref 1491]) cd_Mo_sends rfl rfl (fun _ _ => rfl) ?_
      refine m_eq (show ((nI (30 + (2 * p + 0) * 38)) + 10 : Int32) = nI ((30 + (2 * p + 0) * 38) + 10) from nI_add (30 + (2 * p + 0) * 38) 10) ?_
      refine m_aI (r := 14) (a := 15) (g := (A 15)) (x := ((A 15) ((30 + (2 * p + 0) * 38) + 10))) (pc' := 97) rfl rfl cd_Mo_sends rfl rfl rfl (vp_in_nI (by omega) (by decide)) (congrArg (A 15) (nI_clamp (by omega))) ?_
      refine m_pure (pc' := 101) (st' := [.int (((A 15) ((30 + (2 * p + 0) * 38) + 10))), .int 6, .ref 1491]) cd_Mo_sends rfl rfl (fun _ _ => rfl) ?_
      refine m_aS (r := 8) (a := 9) (g := (upd (upd (upd (upd (upd (A 9) 0 (nI s)) 1 (nI p)) 2 n) 3 b) 4 ((A 15) ((30 + (2 * p + 0) * 38) + 0)))) (p := 6) (pc' := 102) rfl rfl cd_Mo_sends rfl rfl rfl (vp_in_nI (n := 6) (by decide) (by decide)) (show (6 : Int32).toNatClampNeg = 6 by decide) ?_
      rw [fset_fset]
      refine m_ald (pc' := 103) cd_Mo_sends rfl (Or.inr ⟨_, rfl, rfl, rfl⟩) l0 rfl rfl ?_
      refine m_fR (r := 8) (a := 9) (ad := 1491) (pc' := 106) rfl rfl cd_Mo_sends rfl rfl rfl rfl rfl ?_
      refine m_k2 (v := 7) (pc' := 108) cd_Mo_sends rfl (by decide) rfl ?_
      refine m_ald (pc' := 109) cd_Mo_sends rfl (Or.inr ⟨_, rfl, rfl, rfl⟩) l0 rfl rfl ?_
      refine m_fR (r := 14) (a := 15) (ad := 1497) (pc' := 112) rfl rfl cd_Mo_sends rfl rfl rfl rfl rfl ?_
      refine m_ild (pc' := 114) cd_Mo_sends rfl (Or.inl ⟨rfl, rfl⟩) l4 rfl ?_
      refine m_k2 (v := 9) (pc' := 116) cd_Mo_sends rfl (by decide) rfl ?_
      refine m_pure (pc' := 117) (st' := [.int ((nI (30 + (2 * p + 0) * 38)) + 9), .ref 1497, .int 7, .ref 1491]) cd_Mo_sends rfl rfl (fun _ _ => rfl) ?_
      refine m_eq (show ((nI (30 + (2 * p + 0) * 38)) + 9 : Int32) = nI ((30 + (2 * p + 0) * 38) + 9) from nI_add (30 + (2 * p + 0) * 38) 9) ?_
      refine m_aI (r := 14) (a := 15) (g := (A 15)) (x := 1) (pc' := 118) rfl rfl cd_Mo_sends rfl rfl rfl (vp_in_nI (by omega) (by decide)) (by rw [(nI_clamp (by omega))]; exact a10) ?_
      refine m_k1 (v := 1) (pc' := 119) cd_Mo_sends rfl (by decide) rfl ?_
      refine m_if2 (t := 135) (pc' := 122) cd_Mo_sends rfl rfl rfl (fun c119 => ?_) (fun c119 => ?_)
      · exact absurd (show ¬ (1 : Int32) = 1 from c119) (by decide)
      · have c119 : (1 : Int32) = 1 := Classical.not_not.mp c119
        refine m_ald (pc' := 123) cd_Mo_sends rfl (Or.inr ⟨_, rfl, rfl, rfl⟩) l0 rfl rfl ?_
        refine m_fR (r := 14) (a := 15) (ad := 1497) (pc' := 126) rfl rfl cd_Mo_sends rfl rfl rfl rfl rfl ?_
        refine m_ild (pc' := 128) cd_Mo_sends rfl (Or.inl ⟨rfl, rfl⟩) l4 rfl ?_
        refine m_k2 (v := 11) (pc' := 130) cd_Mo_sends rfl (by decide) rfl ?_
        refine m_pure (pc' := 131) (st' := [.int ((nI (30 + (2 * p + 0) * 38)) + 11), .ref 1497, .int 7, .ref 1491]) cd_Mo_sends rfl rfl (fun _ _ => rfl) ?_
        refine m_eq (show ((nI (30 + (2 * p + 0) * 38)) + 11 : Int32) = nI ((30 + (2 * p + 0) * 38) + 11) from nI_add (30 + (2 * p + 0) * 38) 11) ?_
        refine m_aI (r := 14) (a := 15) (g := (A 15)) (x := ((A 15) ((30 + (2 * p + 0) * 38) + 11))) (pc' := 132) rfl rfl cd_Mo_sends rfl rfl rfl (vp_in_nI (by omega) (by decide)) (congrArg (A 15) (nI_clamp (by omega))) ?_
        refine m_pure (pc' := 136) (st' := [.int (((A 15) ((30 + (2 * p + 0) * 38) + 11))), .int 7, .ref 1491]) cd_Mo_sends rfl rfl (fun _ _ => rfl) ?_
        refine m_aS (r := 8) (a := 9) (g := (upd (upd (upd (upd (upd (upd (A 9) 0 (nI s)) 1 (nI p)) 2 n) 3 b) 4 ((A 15) ((30 + (2 * p + 0) * 38) + 0))) 6 ((A 15) ((30 + (2 * p + 0) * 38) + 10)))) (p := 7) (pc' := 137) rfl rfl cd_Mo_sends rfl rfl rfl (vp_in_nI (n := 7) (by decide) (by decide)) (show (7 : Int32).toNatClampNeg = 7 by decide) ?_
        rw [fset_fset]
        refine m_ald (pc' := 138) cd_Mo_sends rfl (Or.inr ⟨_, rfl, rfl, rfl⟩) l0 rfl rfl ?_
        refine m_ald (pc' := 139) cd_Mo_sends rfl (Or.inr ⟨_, rfl, rfl, rfl⟩) l0 rfl rfl ?_
        refine m_fR (r := 14) (a := 15) (ad := 1497) (pc' := 142) rfl rfl cd_Mo_sends rfl rfl rfl rfl rfl ?_
        refine m_ild (pc' := 144) cd_Mo_sends rfl (Or.inl ⟨rfl, rfl⟩) l4 rfl ?_
        refine m_k1 (v := 2) (pc' := 145) cd_Mo_sends rfl (by decide) rfl ?_
        refine m_pure (pc' := 146) (st' := [.int ((nI (30 + (2 * p + 0) * 38)) + 2), .ref 1497, .ref 1482]) cd_Mo_sends rfl rfl (fun _ _ => rfl) ?_
        refine m_eq (show ((nI (30 + (2 * p + 0) * 38)) + 2 : Int32) = nI ((30 + (2 * p + 0) * 38) + 2) from nI_add (30 + (2 * p + 0) * 38) 2) ?_
        refine m_aI (r := 14) (a := 15) (g := (A 15)) (x := ((A 15) ((30 + (2 * p + 0) * 38) + 2))) (pc' := 147) rfl rfl cd_Mo_sends rfl rfl rfl (vp_in_nI (by omega) (by decide)) (congrArg (A 15) (nI_clamp (by omega))) ?_
        refine m_ci (pc' := 150) cd_Mo_sends rfl rfl rfl rfl rfl cd_Mo_publicOf rfl (Nat.le_of_ble_eq_true rfl) (m_publicOf (by exact MT_i hM rfl rfl rfl rfl rfl rfl rfl rfl rfl rfl) (by omega) (by show rc (A 1) T.length < 1000; omega) a3 kmi (fun f1 A1 T1 r1 hx1 hr1 => ?_))
        obtain ⟨p1, q1, s1, hM1⟩ := hx1
        have hM1 : MT f1 A1 T1 _ _ _ := MT_i hM1 rfl rfl rfl rfl rfl rfl rfl rfl rfl rfl
        have s1 : rc (A1 1) T1.length ≤ rc (A 1) T.length + 0 := s1
        show mg _ _ _ 150 _ [.int r1] _ _
        refine m_ist (pc' := 152) cd_Mo_sends rfl (Or.inl ⟨rfl, rfl⟩) (by decide) rfl (fun lv el => ?_)
        have l0 := tm_lk el l0 rfl (by decide)
        have l1 := tm_lk el l1 rfl (by decide)
        have l2 := tm_lk el l2 rfl (by decide)
        have l3 := tm_lk el l3 rfl (by decide)
        have l4 := tm_lk el l4 rfl (by decide)
        have l5 : lv.lookup 5 = some (.int r1) := tm_lks el
        clear el
        refine m_ald (pc' := 153) cd_Mo_sends rfl (Or.inr ⟨_, rfl, rfl, rfl⟩) l0 rfl rfl ?_
        refine m_fR (r := 8) (a := 9) (ad := 1491) (pc' := 156) rfl rfl cd_Mo_sends rfl rfl rfl rfl rfl ?_
        refine m_k1 (v := 5) (pc' := 157) cd_Mo_sends rfl (by decide) rfl ?_
        refine m_ild (pc' := 159) cd_Mo_sends rfl (Or.inl ⟨rfl, rfl⟩) l5 rfl ?_
        refine m_aS (r := 8) (a := 9) (g := (upd (upd (upd (upd (upd (upd (upd (A 9) 0 (nI s)) 1 (nI p)) 2 n) 3 b) 4 ((A 15) ((30 + (2 * p + 0) * 38) + 0))) 6 ((A 15) ((30 + (2 * p + 0) * 38) + 10))) 7 ((A 15) ((30 + (2 * p + 0) * 38) + 11)))) (p := 5) (pc' := 160) rfl rfl cd_Mo_sends rfl rfl rfl (vp_in_nI (n := 5) (by decide) (by decide)) (show (5 : Int32).toNatClampNeg = 5 by decide) ?_
        refine m_ald (pc' := 161) cd_Mo_sends rfl (Or.inr ⟨_, rfl, rfl, rfl⟩) l0 rfl rfl ?_
        refine m_k2 (v := 7) (pc' := 163) cd_Mo_sends rfl (by decide) rfl ?_
        refine m_k1 (v := 3) (pc' := 164) cd_Mo_sends rfl (by decide) rfl ?_
        refine m_k1 (v := 0) (pc' := 165) cd_Mo_sends rfl (by decide) rfl ?_
        refine m_k1 (v := 0) (pc' := 166) cd_Mo_sends rfl (by decide) rfl ?_
        refine m_ci (pc' := 169) cd_Mo_sends rfl rfl rfl rfl rfl cd_Mo_term rfl (Nat.le_of_ble_eq_true rfl) (m_row (P0 := ba) (P1 := (Tpub mi)) (P2 := bp) (P3 := bo) (by exact MT_i hM1 rfl rfl rfl rfl rfl rfl rfl rfl rfl rfl) (by omega) (by show rc (A1 1) T1.length < 1000; omega) (by exact (tv_mono p1 a1)) (by exact hr1) (by exact (tv_mono p1 (a11 rfl).1)) (by exact (tv_mono p1 (a11 rfl).2)) (fun f2 A2 T2 r2 hx2 hr2 => ?_))
        obtain ⟨p2, q2, s2, hM2⟩ := hx2
        have hM2 : MT f2 A2 T2 _ _ _ := MT_i hM2 rfl rfl rfl rfl rfl rfl rfl rfl rfl rfl
        have s2 : rc (A2 1) T2.length ≤ rc (A1 1) T1.length + 1 := s2
        have hr2 : tv T2 r2 (Trw 3 (nI s) (nI p) n b ba (Tpub mi) bp bo) := hr2
        show mg _ _ _ 169 _ [.int r2] _ _
        refine m_ist (pc' := 171) cd_Mo_sends rfl (Or.inl ⟨rfl, rfl⟩) (by decide) rfl (fun lv el => ?_)
        have l0 := tm_lk el l0 rfl (by decide)
        have l1 := tm_lk el l1 rfl (by decide)
        have l2 := tm_lk el l2 rfl (by decide)
        have l3 := tm_lk el l3 rfl (by decide)
        have l4 := tm_lk el l4 rfl (by decide)
        have l5 := tm_lk el l5 rfl (by decide)
        have l6 : lv.lookup 6 = some (.int r2) := tm_lks el
        clear el
        refine m_ald (pc' := 172) cd_Mo_sends rfl (Or.inr ⟨_, rfl, rfl, rfl⟩) l0 rfl rfl ?_
        refine m_fR (r := 25) (a := 26) (ad := 1508) (pc' := 175) rfl rfl cd_Mo_sends rfl rfl rfl rfl rfl ?_
        refine m_ald (pc' := 176) cd_Mo_sends rfl (Or.inr ⟨_, rfl, rfl, rfl⟩) l0 rfl rfl ?_
        refine m_fI (k := 30) (x := (nI m)) (pc' := 179) cd_Mo_sends rfl rfl rfl rfl rfl h30 ?_
        refine m_ald (pc' := 180) cd_Mo_sends rfl (Or.inr ⟨_, rfl, rfl, rfl⟩) l0 rfl rfl ?_
        refine m_k1 (v := 5) (pc' := 181) cd_Mo_sends rfl (by decide) rfl ?_
        refine m_ald (pc' := 182) cd_Mo_sends rfl (Or.inr ⟨_, rfl, rfl, rfl⟩) l0 rfl rfl ?_
        refine m_k2 (v := 6) (pc' := 184) cd_Mo_sends rfl (by decide) rfl ?_
        refine m_ald (pc' := 185) cd_Mo_sends rfl (Or.inr ⟨_, rfl, rfl, rfl⟩) l0 rfl rfl ?_
        refine m_fR (r := 14) (a := 15) (ad := 1497) (pc' := 188) rfl rfl cd_Mo_sends rfl rfl rfl rfl rfl ?_
        refine m_ild (pc' := 190) cd_Mo_sends rfl (Or.inl ⟨rfl, rfl⟩) l4 rfl ?_
        refine m_k1 (v := 4) (pc' := 191) cd_Mo_sends rfl (by decide) rfl ?_
        refine m_pure (pc' := 192) (st' := [.int ((nI (30 + (2 * p + 0) * 38)) + 4), .ref 1497, .int 6, .ref 1482, .int 5, .ref 1482, .int ((nI m)), .ref 1508]) cd_Mo_sends rfl rfl (fun _ _ => rfl) ?_
        refine m_eq (show ((nI (30 + (2 * p + 0) * 38)) + 4 : Int32) = nI ((30 + (2 * p + 0) * 38) + 4) from nI_add (30 + (2 * p + 0) * 38) 4) ?_
        refine m_aI (r := 14) (a := 15) (g := (A 15)) (x := ((A 15) ((30 + (2 * p + 0) * 38) + 4))) (pc' := 193) rfl rfl cd_Mo_sends rfl rfl rfl (vp_in_nI (by omega) (by decide)) (congrArg (A 15) (nI_clamp (by omega))) ?_
        refine m_k1 (v := 0) (pc' := 194) cd_Mo_sends rfl (by decide) rfl ?_
        refine m_ci (pc' := 197) cd_Mo_sends rfl rfl rfl rfl rfl cd_Mo_mix rfl (Nat.le_of_ble_eq_true rfl) (m_mix (by exact MT_i hM2 rfl rfl rfl rfl rfl rfl rfl rfl rfl rfl) (by omega) (by show rc (A2 1) T2.length < 1000; omega) (tv_mono p2 (tv_mono p1 a5)) (MT_z hM2) (fun f3 A3 T3 r3 hx3 hr3 => ?_))
        obtain ⟨p3, q3, s3, hM3⟩ := hx3
        have hM3 : MT f3 A3 T3 _ _ _ := MT_i hM3 rfl rfl rfl rfl rfl rfl rfl rfl rfl rfl
        have s3 : rc (A3 1) T3.length ≤ rc (A2 1) T2.length + 0 := s3
        show mg _ _ _ 197 _ [.int r3, .int 5, .ref 1482, .int ((nI m)), .ref 1508] _ _
        refine m_ild (pc' := 199) cd_Mo_sends rfl (Or.inl ⟨rfl, rfl⟩) l6 rfl ?_
        refine m_ild (pc' := 200) cd_Mo_sends rfl (Or.inr ⟨_, rfl, rfl, rfl⟩) l3 rfl ?_
        refine m_ci (pc' := 203) cd_Mo_sends rfl rfl rfl rfl rfl cd_Mo_term rfl (Nat.le_of_ble_eq_true rfl) (m_sealed (by exact MT_i hM3 rfl rfl rfl rfl rfl rfl rfl rfl rfl rfl) (by omega) (by show rc (A3 1) T3.length < 1000; omega) hr3 (tv_mono p3 hr2) (tv_mono p3 (tv_mono p2 (tv_mono p1 hx))) (fun e => nomatch e) (fun e => nomatch e) hBz (fun f4 A4 T4 r4 hx4 hr4 => ?_))
        obtain ⟨p4, q4, s4, hM4⟩ := hx4
        have hM4 : MT f4 A4 T4 _ _ _ := MT_i hM4 rfl rfl rfl rfl rfl rfl rfl rfl rfl rfl
        have s4 : rc (A4 1) T4.length ≤ rc (A3 1) T3.length + 0 := s4
        show mg _ _ _ 203 _ [.int r4, .int ((nI m)), .ref 1508] _ _
        refine m_aS (r := 25) (a := 26) (g := (A 26)) (p := m) (pc' := 204) rfl rfl cd_Mo_sends rfl rfl rfl (vp_in_nI (by omega) (by decide)) (nI_clamp (by omega)) ?_
        refine m_ald (pc' := 205) cd_Mo_sends rfl (Or.inr ⟨_, rfl, rfl, rfl⟩) l0 rfl rfl ?_
        refine m_pure (pc' := 206) (st' := [.ref 1482, .ref 1482]) cd_Mo_sends rfl rfl (fun _ _ => rfl) ?_
        refine m_fI (k := 30) (x := (nI m)) (pc' := 209) cd_Mo_sends rfl rfl rfl rfl rfl h30 ?_
        refine m_k1 (v := 1) (pc' := 210) cd_Mo_sends rfl (by decide) rfl ?_
        refine m_pure (pc' := 211) (st' := [.int ((nI m) + 1), .ref 1482]) cd_Mo_sends rfl rfl (fun _ _ => rfl) ?_
        refine m_eq (show ((nI m) + 1 : Int32) = nI (m + 1) from nI_add m 1) ?_
        refine m_pI (k := 30) (pc' := 214) cd_Mo_sends rfl rfl rfl rfl (by simp [tm_okV, narrow, fits]) rfl rfl ?_
        refine m_ald (pc' := 215) cd_Mo_sends rfl (Or.inr ⟨_, rfl, rfl, rfl⟩) l0 rfl rfl ?_
        refine m_fR (r := 14) (a := 15) (ad := 1497) (pc' := 218) rfl rfl cd_Mo_sends rfl rfl rfl rfl rfl ?_
        refine m_ild (pc' := 220) cd_Mo_sends rfl (Or.inl ⟨rfl, rfl⟩) l4 rfl ?_
        refine m_k1 (v := 4) (pc' := 221) cd_Mo_sends rfl (by decide) rfl ?_
        refine m_pure (pc' := 222) (st' := [.int ((nI (30 + (2 * p + 0) * 38)) + 4), .ref 1497]) cd_Mo_sends rfl rfl (fun _ _ => rfl) ?_
        refine m_eq (show ((nI (30 + (2 * p + 0) * 38)) + 4 : Int32) = nI ((30 + (2 * p + 0) * 38) + 4) from nI_add (30 + (2 * p + 0) * 38) 4) ?_
        refine m_ald (pc' := 223) cd_Mo_sends rfl (Or.inr ⟨_, rfl, rfl, rfl⟩) l0 rfl rfl ?_
        refine m_k2 (v := 7) (pc' := 225) cd_Mo_sends rfl (by decide) rfl ?_
        refine m_ald (pc' := 226) cd_Mo_sends rfl (Or.inr ⟨_, rfl, rfl, rfl⟩) l0 rfl rfl ?_
        refine m_fR (r := 14) (a := 15) (ad := 1497) (pc' := 229) rfl rfl cd_Mo_sends rfl rfl rfl rfl rfl ?_
        refine m_ild (pc' := 231) cd_Mo_sends rfl (Or.inl ⟨rfl, rfl⟩) l4 rfl ?_
        refine m_k1 (v := 4) (pc' := 232) cd_Mo_sends rfl (by decide) rfl ?_
        refine m_pure (pc' := 233) (st' := [.int ((nI (30 + (2 * p + 0) * 38)) + 4), .ref 1497, .int 7, .ref 1482, .int (nI ((30 + (2 * p + 0) * 38) + 4)), .ref 1497]) cd_Mo_sends rfl rfl (fun _ _ => rfl) ?_
        refine m_eq (show ((nI (30 + (2 * p + 0) * 38)) + 4 : Int32) = nI ((30 + (2 * p + 0) * 38) + 4) from nI_add (30 + (2 * p + 0) * 38) 4) ?_
        refine m_aI (r := 14) (a := 15) (g := (A 15)) (x := ((A 15) ((30 + (2 * p + 0) * 38) + 4))) (pc' := 234) rfl rfl cd_Mo_sends rfl rfl rfl (vp_in_nI (by omega) (by decide)) (congrArg (A 15) (nI_clamp (by omega))) ?_
        refine m_k1 (v := 0) (pc' := 235) cd_Mo_sends rfl (by decide) rfl ?_
        refine m_ci (pc' := 238) cd_Mo_sends rfl rfl rfl rfl rfl cd_Mo_mix rfl (Nat.le_of_ble_eq_true rfl) (m_mix (by exact MT_i hM4 rfl rfl rfl rfl rfl rfl rfl rfl rfl rfl) (by omega) (by show rc (A4 1) T4.length < 1000; omega) (tv_mono p4 (tv_mono p3 (tv_mono p2 (tv_mono p1 a5)))) (MT_z hM4) (fun f5 A5 T5 r5 hx5 hr5 => ?_))
        obtain ⟨p5, q5, s5, hM5⟩ := hx5
        have hM5 : MT f5 A5 T5 _ _ _ := MT_i hM5 rfl rfl rfl rfl rfl rfl rfl rfl rfl rfl
        have s5 : rc (A5 1) T5.length ≤ rc (A4 1) T4.length + 0 := s5
        show mg _ _ _ 238 _ [.int r5, .int (nI ((30 + (2 * p + 0) * 38) + 4)), .ref 1497] _ _
        refine m_aS (r := 14) (a := 15) (g := (A 15)) (p := ((30 + (2 * p + 0) * 38) + 4)) (pc' := 239) rfl rfl cd_Mo_sends rfl rfl rfl (vp_in_nI (by omega) (by decide)) (nI_clamp (by omega)) ?_
        refine m_ald (pc' := 240) cd_Mo_sends rfl (Or.inr ⟨_, rfl, rfl, rfl⟩) l0 rfl rfl ?_
        refine m_fR (r := 14) (a := 15) (ad := 1497) (pc' := 243) rfl rfl cd_Mo_sends rfl rfl rfl rfl rfl ?_
        refine m_ild (pc' := 245) cd_Mo_sends rfl (Or.inl ⟨rfl, rfl⟩) l4 rfl ?_
        refine m_k1 (v := 5) (pc' := 246) cd_Mo_sends rfl (by decide) rfl ?_
        refine m_pure (pc' := 247) (st' := [.int ((nI (30 + (2 * p + 0) * 38)) + 5), .ref 1497]) cd_Mo_sends rfl rfl (fun _ _ => rfl) ?_
        refine m_eq (show ((nI (30 + (2 * p + 0) * 38)) + 5 : Int32) = nI ((30 + (2 * p + 0) * 38) + 5) from nI_add (30 + (2 * p + 0) * 38) 5) ?_
        refine m_pure (pc' := 248) (st' := [.int (nI ((30 + (2 * p + 0) * 38) + 5)), .ref 1497, .int (nI ((30 + (2 * p + 0) * 38) + 5)), .ref 1497]) cd_Mo_sends rfl rfl (fun _ _ => rfl) ?_
        refine m_aI (r := 14) (a := 15) (g := (upd (A 15) ((30 + (2 * p + 0) * 38) + 4) r5)) (x := n) (pc' := 249) rfl rfl cd_Mo_sends rfl rfl rfl (vp_in_nI (by omega) (by decide)) (by rw [(nI_clamp (by omega)), upd_ne (by omega)]; exact a7) ?_
        refine m_k1 (v := 1) (pc' := 250) cd_Mo_sends rfl (by decide) rfl ?_
        refine m_pure (pc' := 251) (st' := [.int (n + 1), .int (nI ((30 + (2 * p + 0) * 38) + 5)), .ref 1497]) cd_Mo_sends rfl rfl (fun _ _ => rfl) ?_
        refine m_aS (r := 14) (a := 15) (g := (upd (A 15) ((30 + (2 * p + 0) * 38) + 4) r5)) (p := ((30 + (2 * p + 0) * 38) + 5)) (pc' := 252) rfl rfl cd_Mo_sends rfl rfl rfl (vp_in_nI (by omega) (by decide)) (nI_clamp (by omega)) ?_
        rw [fset_fset]
        have e15 : ∀ k, ¬ ((30 + (2 * p + 0) * 38) ≤ k ∧ k < (30 + (2 * p + 0) * 38) + 38) → (upd (upd (A 15) ((30 + (2 * p + 0) * 38) + 4) r5) ((30 + (2 * p + 0) * 38) + 5) (n + 1)) k = A 15 k := fun k q => by rw [upd_ne (by omega), upd_ne (by omega)]
        have hse : qSe (upd (upd (A 15) ((30 + (2 * p + 0) * 38) + 4) r5) ((30 + (2 * p + 0) * 38) + 5) (n + 1)) T5 (30 + (2 * p + 0) * 38) (ss_sent ((th, ch, nx, le), ba, ro, mi, sd, n, b, true, bp, bo, on)) := by
          refine qSe_set ((((p1.trans p2).trans p3).trans p4).trans p5) hS2 (fun k k1 k2 k3 k4 k5 k6 => by rw [upd_ne (by omega), upd_ne (by omega)]) ?_ ?_ ?_ ?_ ?_
          · rw [upd_ne (by omega), upd_ne (by omega)]; exact (tv_mono p5 (tv_mono p4 (tv_mono p3 (tv_mono p2 (tv_mono p1 a2)))))
          · rw [upd_ne (by omega), upd_ne (by omega)]; exact (tv_mono p5 (tv_mono p4 (tv_mono p3 (tv_mono p2 (tv_mono p1 a3)))))
          · rw [upd_ne (by omega), upd_same]; exact hr5
          · rw [upd_same]
          · rw [upd_ne (by omega), upd_ne (by omega)]; exact a8
        exact m_retv cd_Mo_sends rfl ⟨rfl, (mS_end (f := f) (A := A) (fun k q => by have e0 : ¬ (k = 0 ∨ k = 7) := (by omega); have e1 : ¬ k = 30 := (by omega); simp only [fset, mjF, e0, e1, if_false]) (fun j q => by have e0 : ¬ (1 ≤ j ∧ j ≤ 8) := (by omega); have e9 : ¬ j = 9 := (by omega); have e15 : ¬ j = 15 := (by omega); have e26 : ¬ j = 26 := (by omega); simp only [fset, mjA, drA, e0, e9, e15, e26, if_false]) (kk _ _ _ r4 ((((p1.trans p2).trans p3).trans p4).trans p5) (by omega) (show rc (A5 1) _ ≤ _ by omega) (by exact MT_i hM5 rfl rfl rfl rfl rfl rfl rfl rfl rfl rfl) rfl rfl (tv_mono p5 hr4) hse e15))⟩
  | false =>
    refine m_ild (pc' := 1) cd_Mo_sends rfl (Or.inr ⟨_, rfl, rfl, rfl⟩) l2 rfl ?_
    refine m_k1 (v := 0) (pc' := 2) cd_Mo_sends rfl (by decide) rfl ?_
    refine m_si (pc' := 5) cd_Mo_sends rfl rfl rfl rfl rfl cd_Mo_sessionAt rfl (Nat.le_of_ble_eq_true rfl) (m_sessionAt ?_)
    show mg _ _ _ 5 _ [.int (nI (30 + (2 * p + 0) * 38))] _ _
    refine m_ist (pc' := 7) cd_Mo_sends rfl (Or.inl ⟨rfl, rfl⟩) (by decide) rfl (fun lv el => ?_)
    have l0 := tm_lk el l0 rfl (by decide)
    have l1 := tm_lk el l1 rfl (by decide)
    have l2 := tm_lk el l2 rfl (by decide)
    have l3 := tm_lk el l3 rfl (by decide)
    have l4 : lv.lookup 4 = some (.int (nI (30 + (2 * p + 0) * 38))) := tm_lks el
    clear el
    refine m_ald (pc' := 8) cd_Mo_sends rfl (Or.inr ⟨_, rfl, rfl, rfl⟩) l0 rfl rfl ?_
    refine m_fR (r := 8) (a := 9) (ad := 1491) (pc' := 11) rfl rfl cd_Mo_sends rfl rfl rfl rfl rfl ?_
    refine m_k1 (v := 0) (pc' := 12) cd_Mo_sends rfl (by decide) rfl ?_
    refine m_ild (pc' := 13) cd_Mo_sends rfl (Or.inr ⟨_, rfl, rfl, rfl⟩) l1 rfl ?_
    refine m_aS (r := 8) (a := 9) (g := (A 9)) (p := 0) (pc' := 14) rfl rfl cd_Mo_sends rfl rfl rfl (vp_in_nI (n := 0) (by decide) (by decide)) (show (0 : Int32).toNatClampNeg = 0 by decide) ?_
    refine m_ald (pc' := 15) cd_Mo_sends rfl (Or.inr ⟨_, rfl, rfl, rfl⟩) l0 rfl rfl ?_
    refine m_fR (r := 8) (a := 9) (ad := 1491) (pc' := 18) rfl rfl cd_Mo_sends rfl rfl rfl rfl rfl ?_
    refine m_k1 (v := 1) (pc' := 19) cd_Mo_sends rfl (by decide) rfl ?_
    refine m_ild (pc' := 20) cd_Mo_sends rfl (Or.inr ⟨_, rfl, rfl, rfl⟩) l2 rfl ?_
    refine m_aS (r := 8) (a := 9) (g := (upd (A 9) 0 (nI s))) (p := 1) (pc' := 21) rfl rfl cd_Mo_sends rfl rfl rfl (vp_in_nI (n := 1) (by decide) (by decide)) (show (1 : Int32).toNatClampNeg = 1 by decide) ?_
    rw [fset_fset]
    refine m_ald (pc' := 22) cd_Mo_sends rfl (Or.inr ⟨_, rfl, rfl, rfl⟩) l0 rfl rfl ?_
    refine m_fR (r := 8) (a := 9) (ad := 1491) (pc' := 25) rfl rfl cd_Mo_sends rfl rfl rfl rfl rfl ?_
    refine m_k1 (v := 2) (pc' := 26) cd_Mo_sends rfl (by decide) rfl ?_
    refine m_ald (pc' := 27) cd_Mo_sends rfl (Or.inr ⟨_, rfl, rfl, rfl⟩) l0 rfl rfl ?_
    refine m_fR (r := 14) (a := 15) (ad := 1497) (pc' := 30) rfl rfl cd_Mo_sends rfl rfl rfl rfl rfl ?_
    refine m_ild (pc' := 32) cd_Mo_sends rfl (Or.inl ⟨rfl, rfl⟩) l4 rfl ?_
    refine m_k1 (v := 5) (pc' := 33) cd_Mo_sends rfl (by decide) rfl ?_
    refine m_pure (pc' := 34) (st' := [.int ((nI (30 + (2 * p + 0) * 38)) + 5), .ref 1497, .int 2, .ref 1491]) cd_Mo_sends rfl rfl (fun _ _ => rfl) ?_
    refine m_eq (show ((nI (30 + (2 * p + 0) * 38)) + 5 : Int32) = nI ((30 + (2 * p + 0) * 38) + 5) from nI_add (30 + (2 * p + 0) * 38) 5) ?_
    refine m_aI (r := 14) (a := 15) (g := (A 15)) (x := n) (pc' := 35) rfl rfl cd_Mo_sends rfl rfl rfl (vp_in_nI (by omega) (by decide)) (by rw [(nI_clamp (by omega))]; exact a7) ?_
    refine m_aS (r := 8) (a := 9) (g := (upd (upd (A 9) 0 (nI s)) 1 (nI p))) (p := 2) (pc' := 36) rfl rfl cd_Mo_sends rfl rfl rfl (vp_in_nI (n := 2) (by decide) (by decide)) (show (2 : Int32).toNatClampNeg = 2 by decide) ?_
    rw [fset_fset]
    refine m_ald (pc' := 37) cd_Mo_sends rfl (Or.inr ⟨_, rfl, rfl, rfl⟩) l0 rfl rfl ?_
    refine m_fR (r := 8) (a := 9) (ad := 1491) (pc' := 40) rfl rfl cd_Mo_sends rfl rfl rfl rfl rfl ?_
    refine m_k1 (v := 3) (pc' := 41) cd_Mo_sends rfl (by decide) rfl ?_
    refine m_ald (pc' := 42) cd_Mo_sends rfl (Or.inr ⟨_, rfl, rfl, rfl⟩) l0 rfl rfl ?_
    refine m_fR (r := 14) (a := 15) (ad := 1497) (pc' := 45) rfl rfl cd_Mo_sends rfl rfl rfl rfl rfl ?_
    refine m_ild (pc' := 47) cd_Mo_sends rfl (Or.inl ⟨rfl, rfl⟩) l4 rfl ?_
    refine m_k2 (v := 6) (pc' := 49) cd_Mo_sends rfl (by decide) rfl ?_
    refine m_pure (pc' := 50) (st' := [.int ((nI (30 + (2 * p + 0) * 38)) + 6), .ref 1497, .int 3, .ref 1491]) cd_Mo_sends rfl rfl (fun _ _ => rfl) ?_
    refine m_eq (show ((nI (30 + (2 * p + 0) * 38)) + 6 : Int32) = nI ((30 + (2 * p + 0) * 38) + 6) from nI_add (30 + (2 * p + 0) * 38) 6) ?_
    refine m_aI (r := 14) (a := 15) (g := (A 15)) (x := b) (pc' := 51) rfl rfl cd_Mo_sends rfl rfl rfl (vp_in_nI (by omega) (by decide)) (by rw [(nI_clamp (by omega))]; exact a8) ?_
    refine m_aS (r := 8) (a := 9) (g := (upd (upd (upd (A 9) 0 (nI s)) 1 (nI p)) 2 n)) (p := 3) (pc' := 52) rfl rfl cd_Mo_sends rfl rfl rfl (vp_in_nI (n := 3) (by decide) (by decide)) (show (3 : Int32).toNatClampNeg = 3 by decide) ?_
    rw [fset_fset]
    refine m_ald (pc' := 53) cd_Mo_sends rfl (Or.inr ⟨_, rfl, rfl, rfl⟩) l0 rfl rfl ?_
    refine m_fR (r := 8) (a := 9) (ad := 1491) (pc' := 56) rfl rfl cd_Mo_sends rfl rfl rfl rfl rfl ?_
    refine m_k1 (v := 4) (pc' := 57) cd_Mo_sends rfl (by decide) rfl ?_
    refine m_ald (pc' := 58) cd_Mo_sends rfl (Or.inr ⟨_, rfl, rfl, rfl⟩) l0 rfl rfl ?_
    refine m_fR (r := 14) (a := 15) (ad := 1497) (pc' := 61) rfl rfl cd_Mo_sends rfl rfl rfl rfl rfl ?_
    refine m_ild (pc' := 63) cd_Mo_sends rfl (Or.inl ⟨rfl, rfl⟩) l4 rfl ?_
    refine m_k1 (v := 0) (pc' := 64) cd_Mo_sends rfl (by decide) rfl ?_
    refine m_pure (pc' := 65) (st' := [.int ((nI (30 + (2 * p + 0) * 38)) + 0), .ref 1497, .int 4, .ref 1491]) cd_Mo_sends rfl rfl (fun _ _ => rfl) ?_
    refine m_eq (show ((nI (30 + (2 * p + 0) * 38)) + 0 : Int32) = nI ((30 + (2 * p + 0) * 38) + 0) from nI_add (30 + (2 * p + 0) * 38) 0) ?_
    refine m_aI (r := 14) (a := 15) (g := (A 15)) (x := ((A 15) ((30 + (2 * p + 0) * 38) + 0))) (pc' := 66) rfl rfl cd_Mo_sends rfl rfl rfl (vp_in_nI (by omega) (by decide)) (congrArg (A 15) (nI_clamp (by omega))) ?_
    refine m_aS (r := 8) (a := 9) (g := (upd (upd (upd (upd (A 9) 0 (nI s)) 1 (nI p)) 2 n) 3 b)) (p := 4) (pc' := 67) rfl rfl cd_Mo_sends rfl rfl rfl (vp_in_nI (n := 4) (by decide) (by decide)) (show (4 : Int32).toNatClampNeg = 4 by decide) ?_
    rw [fset_fset]
    refine m_ald (pc' := 68) cd_Mo_sends rfl (Or.inr ⟨_, rfl, rfl, rfl⟩) l0 rfl rfl ?_
    refine m_fR (r := 8) (a := 9) (ad := 1491) (pc' := 71) rfl rfl cd_Mo_sends rfl rfl rfl rfl rfl ?_
    refine m_k2 (v := 6) (pc' := 73) cd_Mo_sends rfl (by decide) rfl ?_
    refine m_ald (pc' := 74) cd_Mo_sends rfl (Or.inr ⟨_, rfl, rfl, rfl⟩) l0 rfl rfl ?_
    refine m_fR (r := 14) (a := 15) (ad := 1497) (pc' := 77) rfl rfl cd_Mo_sends rfl rfl rfl rfl rfl ?_
    refine m_ild (pc' := 79) cd_Mo_sends rfl (Or.inl ⟨rfl, rfl⟩) l4 rfl ?_
    refine m_k2 (v := 9) (pc' := 81) cd_Mo_sends rfl (by decide) rfl ?_
    refine m_pure (pc' := 82) (st' := [.int ((nI (30 + (2 * p + 0) * 38)) + 9), .ref 1497, .int 6, .ref 1491]) cd_Mo_sends rfl rfl (fun _ _ => rfl) ?_
    refine m_eq (show ((nI (30 + (2 * p + 0) * 38)) + 9 : Int32) = nI ((30 + (2 * p + 0) * 38) + 9) from nI_add (30 + (2 * p + 0) * 38) 9) ?_
    refine m_aI (r := 14) (a := 15) (g := (A 15)) (x := 0) (pc' := 83) rfl rfl cd_Mo_sends rfl rfl rfl (vp_in_nI (by omega) (by decide)) (by rw [(nI_clamp (by omega))]; exact a10) ?_
    refine m_k1 (v := 1) (pc' := 84) cd_Mo_sends rfl (by decide) rfl ?_
    refine m_if2 (t := 100) (pc' := 87) cd_Mo_sends rfl rfl rfl (fun c84 => ?_) (fun c84 => ?_)
    · have c84 : ¬ (0 : Int32) = 1 := c84
      refine m_k1 (v := 0) (pc' := 101) cd_Mo_sends rfl (by decide) rfl ?_
      refine m_aS (r := 8) (a := 9) (g := (upd (upd (upd (upd (upd (A 9) 0 (nI s)) 1 (nI p)) 2 n) 3 b) 4 ((A 15) ((30 + (2 * p + 0) * 38) + 0)))) (p := 6) (pc' := 102) rfl rfl cd_Mo_sends rfl rfl rfl (vp_in_nI (n := 6) (by decide) (by decide)) (show (6 : Int32).toNatClampNeg = 6 by decide) ?_
      rw [fset_fset]
      refine m_ald (pc' := 103) cd_Mo_sends rfl (Or.inr ⟨_, rfl, rfl, rfl⟩) l0 rfl rfl ?_
      refine m_fR (r := 8) (a := 9) (ad := 1491) (pc' := 106) rfl rfl cd_Mo_sends rfl rfl rfl rfl rfl ?_
      refine m_k2 (v := 7) (pc' := 108) cd_Mo_sends rfl (by decide) rfl ?_
      refine m_ald (pc' := 109) cd_Mo_sends rfl (Or.inr ⟨_, rfl, rfl, rfl⟩) l0 rfl rfl ?_
      refine m_fR (r := 14) (a := 15) (ad := 1497) (pc' := 112) rfl rfl cd_Mo_sends rfl rfl rfl rfl rfl ?_
      refine m_ild (pc' := 114) cd_Mo_sends rfl (Or.inl ⟨rfl, rfl⟩) l4 rfl ?_
      refine m_k2 (v := 9) (pc' := 116) cd_Mo_sends rfl (by decide) rfl ?_
      refine m_pure (pc' := 117) (st' := [.int ((nI (30 + (2 * p + 0) * 38)) + 9), .ref 1497, .int 7, .ref 1491]) cd_Mo_sends rfl rfl (fun _ _ => rfl) ?_
      refine m_eq (show ((nI (30 + (2 * p + 0) * 38)) + 9 : Int32) = nI ((30 + (2 * p + 0) * 38) + 9) from nI_add (30 + (2 * p + 0) * 38) 9) ?_
      refine m_aI (r := 14) (a := 15) (g := (A 15)) (x := 0) (pc' := 118) rfl rfl cd_Mo_sends rfl rfl rfl (vp_in_nI (by omega) (by decide)) (by rw [(nI_clamp (by omega))]; exact a10) ?_
      refine m_k1 (v := 1) (pc' := 119) cd_Mo_sends rfl (by decide) rfl ?_
      refine m_if2 (t := 135) (pc' := 122) cd_Mo_sends rfl rfl rfl (fun c119 => ?_) (fun c119 => ?_)
      · have c119 : ¬ (0 : Int32) = 1 := c119
        refine m_k1 (v := 0) (pc' := 136) cd_Mo_sends rfl (by decide) rfl ?_
        refine m_aS (r := 8) (a := 9) (g := (upd (upd (upd (upd (upd (upd (A 9) 0 (nI s)) 1 (nI p)) 2 n) 3 b) 4 ((A 15) ((30 + (2 * p + 0) * 38) + 0))) 6 0)) (p := 7) (pc' := 137) rfl rfl cd_Mo_sends rfl rfl rfl (vp_in_nI (n := 7) (by decide) (by decide)) (show (7 : Int32).toNatClampNeg = 7 by decide) ?_
        rw [fset_fset]
        refine m_ald (pc' := 138) cd_Mo_sends rfl (Or.inr ⟨_, rfl, rfl, rfl⟩) l0 rfl rfl ?_
        refine m_ald (pc' := 139) cd_Mo_sends rfl (Or.inr ⟨_, rfl, rfl, rfl⟩) l0 rfl rfl ?_
        refine m_fR (r := 14) (a := 15) (ad := 1497) (pc' := 142) rfl rfl cd_Mo_sends rfl rfl rfl rfl rfl ?_
        refine m_ild (pc' := 144) cd_Mo_sends rfl (Or.inl ⟨rfl, rfl⟩) l4 rfl ?_
        refine m_k1 (v := 2) (pc' := 145) cd_Mo_sends rfl (by decide) rfl ?_
        refine m_pure (pc' := 146) (st' := [.int ((nI (30 + (2 * p + 0) * 38)) + 2), .ref 1497, .ref 1482]) cd_Mo_sends rfl rfl (fun _ _ => rfl) ?_
        refine m_eq (show ((nI (30 + (2 * p + 0) * 38)) + 2 : Int32) = nI ((30 + (2 * p + 0) * 38) + 2) from nI_add (30 + (2 * p + 0) * 38) 2) ?_
        refine m_aI (r := 14) (a := 15) (g := (A 15)) (x := ((A 15) ((30 + (2 * p + 0) * 38) + 2))) (pc' := 147) rfl rfl cd_Mo_sends rfl rfl rfl (vp_in_nI (by omega) (by decide)) (congrArg (A 15) (nI_clamp (by omega))) ?_
        refine m_ci (pc' := 150) cd_Mo_sends rfl rfl rfl rfl rfl cd_Mo_publicOf rfl (Nat.le_of_ble_eq_true rfl) (m_publicOf (by exact MT_i hM rfl rfl rfl rfl rfl rfl rfl rfl rfl rfl) (by omega) (by show rc (A 1) T.length < 1000; omega) a3 kmi (fun f1 A1 T1 r1 hx1 hr1 => ?_))
        obtain ⟨p1, q1, s1, hM1⟩ := hx1
        have hM1 : MT f1 A1 T1 _ _ _ := MT_i hM1 rfl rfl rfl rfl rfl rfl rfl rfl rfl rfl
        have s1 : rc (A1 1) T1.length ≤ rc (A 1) T.length + 0 := s1
        show mg _ _ _ 150 _ [.int r1] _ _
        refine m_ist (pc' := 152) cd_Mo_sends rfl (Or.inl ⟨rfl, rfl⟩) (by decide) rfl (fun lv el => ?_)
        have l0 := tm_lk el l0 rfl (by decide)
        have l1 := tm_lk el l1 rfl (by decide)
        have l2 := tm_lk el l2 rfl (by decide)
        have l3 := tm_lk el l3 rfl (by decide)
        have l4 := tm_lk el l4 rfl (by decide)
        have l5 : lv.lookup 5 = some (.int r1) := tm_lks el
        clear el
        refine m_ald (pc' := 153) cd_Mo_sends rfl (Or.inr ⟨_, rfl, rfl, rfl⟩) l0 rfl rfl ?_
        refine m_fR (r := 8) (a := 9) (ad := 1491) (pc' := 156) rfl rfl cd_Mo_sends rfl rfl rfl rfl rfl ?_
        refine m_k1 (v := 5) (pc' := 157) cd_Mo_sends rfl (by decide) rfl ?_
        refine m_ild (pc' := 159) cd_Mo_sends rfl (Or.inl ⟨rfl, rfl⟩) l5 rfl ?_
        refine m_aS (r := 8) (a := 9) (g := (upd (upd (upd (upd (upd (upd (upd (A 9) 0 (nI s)) 1 (nI p)) 2 n) 3 b) 4 ((A 15) ((30 + (2 * p + 0) * 38) + 0))) 6 0) 7 0)) (p := 5) (pc' := 160) rfl rfl cd_Mo_sends rfl rfl rfl (vp_in_nI (n := 5) (by decide) (by decide)) (show (5 : Int32).toNatClampNeg = 5 by decide) ?_
        refine m_ald (pc' := 161) cd_Mo_sends rfl (Or.inr ⟨_, rfl, rfl, rfl⟩) l0 rfl rfl ?_
        refine m_k2 (v := 7) (pc' := 163) cd_Mo_sends rfl (by decide) rfl ?_
        refine m_k1 (v := 3) (pc' := 164) cd_Mo_sends rfl (by decide) rfl ?_
        refine m_k1 (v := 0) (pc' := 165) cd_Mo_sends rfl (by decide) rfl ?_
        refine m_k1 (v := 0) (pc' := 166) cd_Mo_sends rfl (by decide) rfl ?_
        refine m_ci (pc' := 169) cd_Mo_sends rfl rfl rfl rfl rfl cd_Mo_term rfl (Nat.le_of_ble_eq_true rfl) (m_row (P0 := ba) (P1 := (Tpub mi)) (P2 := tz) (P3 := tz) (by exact MT_i hM1 rfl rfl rfl rfl rfl rfl rfl rfl rfl rfl) (by omega) (by show rc (A1 1) T1.length < 1000; omega) (by exact (tv_mono p1 a1)) (by exact hr1) (by exact (MT_z hM1)) (by exact (MT_z hM1)) (fun f2 A2 T2 r2 hx2 hr2 => ?_))
        obtain ⟨p2, q2, s2, hM2⟩ := hx2
        have hM2 : MT f2 A2 T2 _ _ _ := MT_i hM2 rfl rfl rfl rfl rfl rfl rfl rfl rfl rfl
        have s2 : rc (A2 1) T2.length ≤ rc (A1 1) T1.length + 1 := s2
        have hr2 : tv T2 r2 (Trw 3 (nI s) (nI p) n b ba (Tpub mi) tz tz) := hr2
        show mg _ _ _ 169 _ [.int r2] _ _
        refine m_ist (pc' := 171) cd_Mo_sends rfl (Or.inl ⟨rfl, rfl⟩) (by decide) rfl (fun lv el => ?_)
        have l0 := tm_lk el l0 rfl (by decide)
        have l1 := tm_lk el l1 rfl (by decide)
        have l2 := tm_lk el l2 rfl (by decide)
        have l3 := tm_lk el l3 rfl (by decide)
        have l4 := tm_lk el l4 rfl (by decide)
        have l5 := tm_lk el l5 rfl (by decide)
        have l6 : lv.lookup 6 = some (.int r2) := tm_lks el
        clear el
        refine m_ald (pc' := 172) cd_Mo_sends rfl (Or.inr ⟨_, rfl, rfl, rfl⟩) l0 rfl rfl ?_
        refine m_fR (r := 25) (a := 26) (ad := 1508) (pc' := 175) rfl rfl cd_Mo_sends rfl rfl rfl rfl rfl ?_
        refine m_ald (pc' := 176) cd_Mo_sends rfl (Or.inr ⟨_, rfl, rfl, rfl⟩) l0 rfl rfl ?_
        refine m_fI (k := 30) (x := (nI m)) (pc' := 179) cd_Mo_sends rfl rfl rfl rfl rfl h30 ?_
        refine m_ald (pc' := 180) cd_Mo_sends rfl (Or.inr ⟨_, rfl, rfl, rfl⟩) l0 rfl rfl ?_
        refine m_k1 (v := 5) (pc' := 181) cd_Mo_sends rfl (by decide) rfl ?_
        refine m_ald (pc' := 182) cd_Mo_sends rfl (Or.inr ⟨_, rfl, rfl, rfl⟩) l0 rfl rfl ?_
        refine m_k2 (v := 6) (pc' := 184) cd_Mo_sends rfl (by decide) rfl ?_
        refine m_ald (pc' := 185) cd_Mo_sends rfl (Or.inr ⟨_, rfl, rfl, rfl⟩) l0 rfl rfl ?_
        refine m_fR (r := 14) (a := 15) (ad := 1497) (pc' := 188) rfl rfl cd_Mo_sends rfl rfl rfl rfl rfl ?_
        refine m_ild (pc' := 190) cd_Mo_sends rfl (Or.inl ⟨rfl, rfl⟩) l4 rfl ?_
        refine m_k1 (v := 4) (pc' := 191) cd_Mo_sends rfl (by decide) rfl ?_
        refine m_pure (pc' := 192) (st' := [.int ((nI (30 + (2 * p + 0) * 38)) + 4), .ref 1497, .int 6, .ref 1482, .int 5, .ref 1482, .int ((nI m)), .ref 1508]) cd_Mo_sends rfl rfl (fun _ _ => rfl) ?_
        refine m_eq (show ((nI (30 + (2 * p + 0) * 38)) + 4 : Int32) = nI ((30 + (2 * p + 0) * 38) + 4) from nI_add (30 + (2 * p + 0) * 38) 4) ?_
        refine m_aI (r := 14) (a := 15) (g := (A 15)) (x := ((A 15) ((30 + (2 * p + 0) * 38) + 4))) (pc' := 193) rfl rfl cd_Mo_sends rfl rfl rfl (vp_in_nI (by omega) (by decide)) (congrArg (A 15) (nI_clamp (by omega))) ?_
        refine m_k1 (v := 0) (pc' := 194) cd_Mo_sends rfl (by decide) rfl ?_
        refine m_ci (pc' := 197) cd_Mo_sends rfl rfl rfl rfl rfl cd_Mo_mix rfl (Nat.le_of_ble_eq_true rfl) (m_mix (by exact MT_i hM2 rfl rfl rfl rfl rfl rfl rfl rfl rfl rfl) (by omega) (by show rc (A2 1) T2.length < 1000; omega) (tv_mono p2 (tv_mono p1 a5)) (MT_z hM2) (fun f3 A3 T3 r3 hx3 hr3 => ?_))
        obtain ⟨p3, q3, s3, hM3⟩ := hx3
        have hM3 : MT f3 A3 T3 _ _ _ := MT_i hM3 rfl rfl rfl rfl rfl rfl rfl rfl rfl rfl
        have s3 : rc (A3 1) T3.length ≤ rc (A2 1) T2.length + 0 := s3
        show mg _ _ _ 197 _ [.int r3, .int 5, .ref 1482, .int ((nI m)), .ref 1508] _ _
        refine m_ild (pc' := 199) cd_Mo_sends rfl (Or.inl ⟨rfl, rfl⟩) l6 rfl ?_
        refine m_ild (pc' := 200) cd_Mo_sends rfl (Or.inr ⟨_, rfl, rfl, rfl⟩) l3 rfl ?_
        refine m_ci (pc' := 203) cd_Mo_sends rfl rfl rfl rfl rfl cd_Mo_term rfl (Nat.le_of_ble_eq_true rfl) (m_sealed (by exact MT_i hM3 rfl rfl rfl rfl rfl rfl rfl rfl rfl rfl) (by omega) (by show rc (A3 1) T3.length < 1000; omega) hr3 (tv_mono p3 hr2) (tv_mono p3 (tv_mono p2 (tv_mono p1 hx))) (fun e => nomatch e) (fun e => nomatch e) hBz (fun f4 A4 T4 r4 hx4 hr4 => ?_))
        obtain ⟨p4, q4, s4, hM4⟩ := hx4
        have hM4 : MT f4 A4 T4 _ _ _ := MT_i hM4 rfl rfl rfl rfl rfl rfl rfl rfl rfl rfl
        have s4 : rc (A4 1) T4.length ≤ rc (A3 1) T3.length + 0 := s4
        show mg _ _ _ 203 _ [.int r4, .int ((nI m)), .ref 1508] _ _
        refine m_aS (r := 25) (a := 26) (g := (A 26)) (p := m) (pc' := 204) rfl rfl cd_Mo_sends rfl rfl rfl (vp_in_nI (by omega) (by decide)) (nI_clamp (by omega)) ?_
        refine m_ald (pc' := 205) cd_Mo_sends rfl (Or.inr ⟨_, rfl, rfl, rfl⟩) l0 rfl rfl ?_
        refine m_pure (pc' := 206) (st' := [.ref 1482, .ref 1482]) cd_Mo_sends rfl rfl (fun _ _ => rfl) ?_
        refine m_fI (k := 30) (x := (nI m)) (pc' := 209) cd_Mo_sends rfl rfl rfl rfl rfl h30 ?_
        refine m_k1 (v := 1) (pc' := 210) cd_Mo_sends rfl (by decide) rfl ?_
        refine m_pure (pc' := 211) (st' := [.int ((nI m) + 1), .ref 1482]) cd_Mo_sends rfl rfl (fun _ _ => rfl) ?_
        refine m_eq (show ((nI m) + 1 : Int32) = nI (m + 1) from nI_add m 1) ?_
        refine m_pI (k := 30) (pc' := 214) cd_Mo_sends rfl rfl rfl rfl (by simp [tm_okV, narrow, fits]) rfl rfl ?_
        refine m_ald (pc' := 215) cd_Mo_sends rfl (Or.inr ⟨_, rfl, rfl, rfl⟩) l0 rfl rfl ?_
        refine m_fR (r := 14) (a := 15) (ad := 1497) (pc' := 218) rfl rfl cd_Mo_sends rfl rfl rfl rfl rfl ?_
        refine m_ild (pc' := 220) cd_Mo_sends rfl (Or.inl ⟨rfl, rfl⟩) l4 rfl ?_
        refine m_k1 (v := 4) (pc' := 221) cd_Mo_sends rfl (by decide) rfl ?_
        refine m_pure (pc' := 222) (st' := [.int ((nI (30 + (2 * p + 0) * 38)) + 4), .ref 1497]) cd_Mo_sends rfl rfl (fun _ _ => rfl) ?_
        refine m_eq (show ((nI (30 + (2 * p + 0) * 38)) + 4 : Int32) = nI ((30 + (2 * p + 0) * 38) + 4) from nI_add (30 + (2 * p + 0) * 38) 4) ?_
        refine m_ald (pc' := 223) cd_Mo_sends rfl (Or.inr ⟨_, rfl, rfl, rfl⟩) l0 rfl rfl ?_
        refine m_k2 (v := 7) (pc' := 225) cd_Mo_sends rfl (by decide) rfl ?_
        refine m_ald (pc' := 226) cd_Mo_sends rfl (Or.inr ⟨_, rfl, rfl, rfl⟩) l0 rfl rfl ?_
        refine m_fR (r := 14) (a := 15) (ad := 1497) (pc' := 229) rfl rfl cd_Mo_sends rfl rfl rfl rfl rfl ?_
        refine m_ild (pc' := 231) cd_Mo_sends rfl (Or.inl ⟨rfl, rfl⟩) l4 rfl ?_
        refine m_k1 (v := 4) (pc' := 232) cd_Mo_sends rfl (by decide) rfl ?_
        refine m_pure (pc' := 233) (st' := [.int ((nI (30 + (2 * p + 0) * 38)) + 4), .ref 1497, .int 7, .ref 1482, .int (nI ((30 + (2 * p + 0) * 38) + 4)), .ref 1497]) cd_Mo_sends rfl rfl (fun _ _ => rfl) ?_
        refine m_eq (show ((nI (30 + (2 * p + 0) * 38)) + 4 : Int32) = nI ((30 + (2 * p + 0) * 38) + 4) from nI_add (30 + (2 * p + 0) * 38) 4) ?_
        refine m_aI (r := 14) (a := 15) (g := (A 15)) (x := ((A 15) ((30 + (2 * p + 0) * 38) + 4))) (pc' := 234) rfl rfl cd_Mo_sends rfl rfl rfl (vp_in_nI (by omega) (by decide)) (congrArg (A 15) (nI_clamp (by omega))) ?_
        refine m_k1 (v := 0) (pc' := 235) cd_Mo_sends rfl (by decide) rfl ?_
        refine m_ci (pc' := 238) cd_Mo_sends rfl rfl rfl rfl rfl cd_Mo_mix rfl (Nat.le_of_ble_eq_true rfl) (m_mix (by exact MT_i hM4 rfl rfl rfl rfl rfl rfl rfl rfl rfl rfl) (by omega) (by show rc (A4 1) T4.length < 1000; omega) (tv_mono p4 (tv_mono p3 (tv_mono p2 (tv_mono p1 a5)))) (MT_z hM4) (fun f5 A5 T5 r5 hx5 hr5 => ?_))
        obtain ⟨p5, q5, s5, hM5⟩ := hx5
        have hM5 : MT f5 A5 T5 _ _ _ := MT_i hM5 rfl rfl rfl rfl rfl rfl rfl rfl rfl rfl
        have s5 : rc (A5 1) T5.length ≤ rc (A4 1) T4.length + 0 := s5
        show mg _ _ _ 238 _ [.int r5, .int (nI ((30 + (2 * p + 0) * 38) + 4)), .ref 1497] _ _
        refine m_aS (r := 14) (a := 15) (g := (A 15)) (p := ((30 + (2 * p + 0) * 38) + 4)) (pc' := 239) rfl rfl cd_Mo_sends rfl rfl rfl (vp_in_nI (by omega) (by decide)) (nI_clamp (by omega)) ?_
        refine m_ald (pc' := 240) cd_Mo_sends rfl (Or.inr ⟨_, rfl, rfl, rfl⟩) l0 rfl rfl ?_
        refine m_fR (r := 14) (a := 15) (ad := 1497) (pc' := 243) rfl rfl cd_Mo_sends rfl rfl rfl rfl rfl ?_
        refine m_ild (pc' := 245) cd_Mo_sends rfl (Or.inl ⟨rfl, rfl⟩) l4 rfl ?_
        refine m_k1 (v := 5) (pc' := 246) cd_Mo_sends rfl (by decide) rfl ?_
        refine m_pure (pc' := 247) (st' := [.int ((nI (30 + (2 * p + 0) * 38)) + 5), .ref 1497]) cd_Mo_sends rfl rfl (fun _ _ => rfl) ?_
        refine m_eq (show ((nI (30 + (2 * p + 0) * 38)) + 5 : Int32) = nI ((30 + (2 * p + 0) * 38) + 5) from nI_add (30 + (2 * p + 0) * 38) 5) ?_
        refine m_pure (pc' := 248) (st' := [.int (nI ((30 + (2 * p + 0) * 38) + 5)), .ref 1497, .int (nI ((30 + (2 * p + 0) * 38) + 5)), .ref 1497]) cd_Mo_sends rfl rfl (fun _ _ => rfl) ?_
        refine m_aI (r := 14) (a := 15) (g := (upd (A 15) ((30 + (2 * p + 0) * 38) + 4) r5)) (x := n) (pc' := 249) rfl rfl cd_Mo_sends rfl rfl rfl (vp_in_nI (by omega) (by decide)) (by rw [(nI_clamp (by omega)), upd_ne (by omega)]; exact a7) ?_
        refine m_k1 (v := 1) (pc' := 250) cd_Mo_sends rfl (by decide) rfl ?_
        refine m_pure (pc' := 251) (st' := [.int (n + 1), .int (nI ((30 + (2 * p + 0) * 38) + 5)), .ref 1497]) cd_Mo_sends rfl rfl (fun _ _ => rfl) ?_
        refine m_aS (r := 14) (a := 15) (g := (upd (A 15) ((30 + (2 * p + 0) * 38) + 4) r5)) (p := ((30 + (2 * p + 0) * 38) + 5)) (pc' := 252) rfl rfl cd_Mo_sends rfl rfl rfl (vp_in_nI (by omega) (by decide)) (nI_clamp (by omega)) ?_
        rw [fset_fset]
        have e15 : ∀ k, ¬ ((30 + (2 * p + 0) * 38) ≤ k ∧ k < (30 + (2 * p + 0) * 38) + 38) → (upd (upd (A 15) ((30 + (2 * p + 0) * 38) + 4) r5) ((30 + (2 * p + 0) * 38) + 5) (n + 1)) k = A 15 k := fun k q => by rw [upd_ne (by omega), upd_ne (by omega)]
        have hse : qSe (upd (upd (A 15) ((30 + (2 * p + 0) * 38) + 4) r5) ((30 + (2 * p + 0) * 38) + 5) (n + 1)) T5 (30 + (2 * p + 0) * 38) (ss_sent ((th, ch, nx, le), ba, ro, mi, sd, n, b, false, bp, bo, on)) := by
          refine qSe_set ((((p1.trans p2).trans p3).trans p4).trans p5) hS2 (fun k k1 k2 k3 k4 k5 k6 => by rw [upd_ne (by omega), upd_ne (by omega)]) ?_ ?_ ?_ ?_ ?_
          · rw [upd_ne (by omega), upd_ne (by omega)]; exact (tv_mono p5 (tv_mono p4 (tv_mono p3 (tv_mono p2 (tv_mono p1 a2)))))
          · rw [upd_ne (by omega), upd_ne (by omega)]; exact (tv_mono p5 (tv_mono p4 (tv_mono p3 (tv_mono p2 (tv_mono p1 a3)))))
          · rw [upd_ne (by omega), upd_same]; exact hr5
          · rw [upd_same]
          · rw [upd_ne (by omega), upd_ne (by omega)]; exact a8
        exact m_retv cd_Mo_sends rfl ⟨rfl, (mS_end (f := f) (A := A) (fun k q => by have e0 : ¬ (k = 0 ∨ k = 7) := (by omega); have e1 : ¬ k = 30 := (by omega); simp only [fset, mjF, e0, e1, if_false]) (fun j q => by have e0 : ¬ (1 ≤ j ∧ j ≤ 8) := (by omega); have e9 : ¬ j = 9 := (by omega); have e15 : ¬ j = 15 := (by omega); have e26 : ¬ j = 26 := (by omega); simp only [fset, mjA, drA, e0, e9, e15, e26, if_false]) (kk _ _ _ r4 ((((p1.trans p2).trans p3).trans p4).trans p5) (by omega) (show rc (A5 1) _ ≤ _ by omega) (by exact MT_i hM5 rfl rfl rfl rfl rfl rfl rfl rfl rfl rfl) rfl rfl (tv_mono p5 hr4) hse e15))⟩
      · exact absurd (show ¬ (¬ (0 : Int32) = 1) from c119) (by decide)
    · exact absurd (show ¬ (¬ (0 : Int32) = 1) from c84) (by decide)
