/-! The reference: post, a chain key handed out -/
theorem tv_memb {T : List Tm} {x : Int32} {X : Tm} (h : tv T x X) : X ∈ T := by
  obtain ⟨p, -, h⟩ := h
  exact List.mem_of_getElem? h
theorem mk_same {T T' : List Tm} {X : Tm} (hn : ndp T') (hp : T <+: T') (hy : ∀ Y, Y ∈ T' → Y ∈ T ∨ Y = X) (hX : X ∈ T) : T' = T := by
  obtain ⟨E, rfl⟩ := hp
  cases E with
  | nil => simp
  | cons a E =>
    have ha : a ∈ T := (hy a (by simp)).elim (fun q => q) (fun e => e ▸ hX)
    obtain ⟨i, hi⟩ := List.getElem?_of_mem ha
    have h1 : (T ++ a :: E)[T.length]? = some a := by simp
    have h2 : (T ++ a :: E)[i]? = some a := by rw [List.getElem?_append_left (tv_lt hi)]; exact hi
    have h3 := hn _ _ _ h1 h2
    have h4 := tv_lt hi
    omega
theorem MT_parts {f : Nat → Int32} {A : Nat → Nat → Int32} {T : List Tm} {DL : List (Int32 × Int32)} {G W : Tm → Prop} (hM : MT f A T DL G W) {X : Tm} (hX : X ∈ T) (h7 : kd X = 7) {k : Nat} (hk : k < 4) : pt X k ∈ T := by
  obtain ⟨i, hi⟩ := List.getElem?_of_mem hX
  obtain ⟨j, -, hj⟩ := (MT_cells hM hi h7).2 k hk
  exact List.mem_of_getElem? hj
theorem m_rowN {sc : tm_X} {d : Nat} {f : Nat → Int32} {A : Nat → Nat → Int32} {T : List Tm} {DL : List (Int32 × Int32)} {G W : Tm → Prop} {k : Int32} {P0 P1 P2 P3 : Tm} {Q : Int32 → MS → Prop} (hM : MT f A T DL G W) (hl : T.length < 4000) (hr : rc (A 1) T.length < 1000) (h0 : tv T (A 9 4) P0) (h1 : tv T (A 9 5) P1) (h2 : tv T (A 9 6) P2) (h3 : tv T (A 9 7) P3) (kk : ∀ f1 A1 T' r, (Trw k (A 9 0) (A 9 1) (A 9 2) (A 9 3) P0 P1 P2 P3 ∈ T → T' = T) → mx f f1 A A1 T T' 1 1 DL G W → tv T' r (Trw k (A 9 0) (A 9 1) (A 9 2) (A 9 3) P0 P1 P2 P3) → Q r (mjF f1 f, mjA A1 A)) : mGi sc (d + 2) 180 [.ref 1482, .int 7, .int k, .int 0, .int 0] (f, A) Q := m_term (X := Trw k (A 9 0) (A 9 1) (A 9 2) (A 9 3) P0 P1 P2 P3) hM (Or.inr (Or.inr (Or.inr (Or.inr (Or.inr (Or.inr ⟨rfl, rfl, rfl, P0, P1, P2, P3, pv_tv h0, pv_tv h1, pv_tv h2, pv_tv h3, rfl⟩)))))) hl hr (fun q => absurd (show (7 : Int32) = 1 from q) (by decide)) (fun f1 A1 T' i h1 h2 h3 h4 hy h5 => kk f1 A1 T' _ (fun q => mk_same h5.2.2.1.1 h1 hy q) ⟨h1, h2, h3, h5⟩ ⟨i, rfl, h4⟩)
/-- what holds while a device hands out -/
def PS (f : Nat → Int32) (A : Nat → Nat → Int32) (T : List Tm) (DL : List (Int32 × Int32)) (G Kw : Tm → Prop) (id : Tm) (K0 K1 : PK) (on : List (Tm × Int32)) (lnu : Int32) (se : Nat → List SS) (me : Nat → MM) (dir : Nat → Tm) (NW : List Tm) : Prop := (MT f A T DL G Kw ∧ f 11 = nI DL.length) ∧ qDv (A 15) T (id, K0, K1, on, lnu, se, me) ∧ (∀ i, i < 30 → tv T (A 17 i) (dir i)) ∧ f 30 = nI NW.length ∧ (∀ (i : Nat) (X : Tm), NW[i]? = some X → tv T (A 26 i) X)
theorem qMm_gave {w h : Nat → Int32} {T : List Tm} {a : Nat} {M : MM} {b : Int32} (hM : qMm w T a M) (e : ∀ k, k ≠ a + 7 → h k = w k) (e7 : h (a + 7) = M.2.2.2.2.2.2.2.1 ||| b) : qMm h T a (mm_gave M b) := by
  obtain ⟨ve, ma, go, ge, ch, si, ix, ga, sl, gv⟩ := M
  obtain ⟨⟨h1, h2, h3, h4⟩, ⟨h5, h6⟩, ⟨h7, h8, h9⟩, h10⟩ := hM
  refine ⟨⟨(e _ (by omega)).trans h1, (e _ (by omega)).trans h2, (e _ (by omega)).trans h3, (e _ (by omega)).trans h4⟩, ⟨by rw [e _ (by omega)]; exact h5, by rw [e _ (by omega)]; exact h6⟩, ⟨(e _ (by omega)).trans h7, e7, (e _ (by omega)).trans h9⟩, fun p hp => ?_⟩
  obtain ⟨⟨q1, q2⟩, q3⟩ := h10 p hp
  exact ⟨⟨(e _ (by omega)).trans q1, q2⟩, fun k G hG => qGv_c (List.prefix_refl T) (fun j hj => e _ (by omega)) (q3 k G hG)⟩
theorem NW_add {A A' : Nat → Nat → Int32} {T T' : List Tm} {NW : List Tm} {r : Int32} {X : Tm} (hT : T <+: T') (h : ∀ (i : Nat) (X : Tm), NW[i]? = some X → tv T (A 26 i) X) (e : A' 26 = upd (A 26) NW.length r) (hr : tv T' r X) : ∀ (i : Nat) (Y : Tm), (NW ++ [X])[i]? = some Y → tv T' (A' 26 i) Y := by
  intro i Y hY
  rw [e]
  by_cases c : i < NW.length
  · rw [List.getElem?_append_left c] at hY
    rw [upd_ne (by omega)]
    exact tv_mono hT (h i Y hY)
  · rw [List.getElem?_append_right (by omega)] at hY
    by_cases c2 : i - NW.length = 0
    · rw [c2] at hY
      cases hY
      rw [show i = NW.length by omega, upd_same]
      exact hr
    · rw [List.getElem?_eq_none (by simp; omega)] at hY
      cases hY
set_option maxRecDepth 100000 in
theorem m_publicOfN {sc : tm_X} {d : Nat} {f : Nat → Int32} {A : Nat → Nat → Int32} {T : List Tm} {DL : List (Int32 × Int32)} {G W : Tm → Prop} {x : Int32} {P : Tm} {Q : Int32 → MS → Prop} (hM : MT f A T DL G W) (hl : T.length < 4000) (hr : rc (A 1) T.length < 1000) (hx : tv T x P) (hk : kd P = 1) (kk : ∀ f1 A1 T' r, (Tpub P ∈ T → T' = T) → mx f f1 A A1 T T' 1 0 DL G W → tv T' r (Tpub P) → Q r (mjF f1 f, mjA A1 A)) : mGi sc (d + 3) 188 [.ref 1482, .int x] (f, A) Q := by
  show mg sc (d + 3) 188 0 [(0, .ref 1482), (1, .int x)] [] (f, A) _
  generalize elv : ([(0, .ref 1482), (1, .int x)] : tm_L) = lv
  have l0 : lv.lookup 0 = some (.ref 1482) := by rw [← elv]; rfl
  have l1 : lv.lookup 1 = some (.int x) := by rw [← elv]; rfl
  clear elv
  refine m_ald (pc' := 1) cd_Mo_publicOf rfl (Or.inr ⟨_, rfl, rfl, rfl⟩) l0 rfl rfl ?_
  refine m_k1 (v := 2) (pc' := 2) cd_Mo_publicOf rfl (by decide) rfl ?_
  refine m_ild (pc' := 3) cd_Mo_publicOf rfl (Or.inr ⟨_, rfl, rfl, rfl⟩) l1 rfl ?_
  refine m_k1 (v := 0) (pc' := 4) cd_Mo_publicOf rfl (by decide) rfl ?_
  refine m_k1 (v := 0) (pc' := 5) cd_Mo_publicOf rfl (by decide) rfl ?_
  refine m_ci (pc' := 8) cd_Mo_publicOf rfl rfl rfl rfl rfl cd_Mo_term rfl (Nat.le_of_ble_eq_true rfl) (m_term (X := Tpub P) hM (Or.inr (Or.inl ⟨rfl, rfl, rfl, P, pv_tv hx, hk, rfl⟩)) hl hr (fun q => absurd (show (2 : Int32) = 1 from q) (by decide)) (fun f1 A1 T' i h1 h2 h3 h4 hy h5 => ?_))
  show mg _ _ _ 8 _ [.int (nI i)] _ _
  exact m_reti cd_Mo_publicOf rfl ⟨_, rfl, (kk f1 A1 T' _ (fun q => mk_same h5.2.2.1.1 h1 hy q) ⟨h1, h2, h3, h5⟩ ⟨i, rfl, h4⟩)⟩
set_option maxRecDepth 100000 in
theorem m_rowOfN {sc : tm_X} {d : Nat} {f : Nat → Int32} {A : Nat → Nat → Int32} {T : List Tm} {DL : List (Int32 × Int32)} {G W : Tm → Prop} {k n0 n1 n2 n3 x y : Int32} {P R : Tm} {Q : Int32 → MS → Prop} (hM : MT f A T DL G W) (hl : T.length < 4000) (hr : rc (A 1) T.length < 1000) (hx : tv T x P) (hy : tv T y R) (kk : ∀ f1 A1 T' r g, (Trw k n0 n1 n2 n3 P R tz tz ∈ T → T' = T) → mx f f1 (fset A 9 g) A1 T T' 1 1 DL G W → tv T' r (Trw k n0 n1 n2 n3 P R tz tz) → Q r (mjF f1 f, mjA A1 (fset A 9 g))) : mGi sc (d + 3) 208 [.ref 1482, .int k, .int n0, .int n1, .int n2, .int n3, .int x, .int y] (f, A) Q := by
  show mg sc (d + 3) 208 0 [(0, .ref 1482), (1, .int k), (2, .int n0), (3, .int n1), (4, .int n2), (5, .int n3), (6, .int x), (7, .int y)] [] (f, A) _
  generalize elv : ([(0, .ref 1482), (1, .int k), (2, .int n0), (3, .int n1), (4, .int n2), (5, .int n3), (6, .int x), (7, .int y)] : tm_L) = lv
  have l0 : lv.lookup 0 = some (.ref 1482) := by rw [← elv]; rfl
  have l1 : lv.lookup 1 = some (.int k) := by rw [← elv]; rfl
  have l2 : lv.lookup 2 = some (.int n0) := by rw [← elv]; rfl
  have l3 : lv.lookup 3 = some (.int n1) := by rw [← elv]; rfl
  have l4 : lv.lookup 4 = some (.int n2) := by rw [← elv]; rfl
  have l5 : lv.lookup 5 = some (.int n3) := by rw [← elv]; rfl
  have l6 : lv.lookup 6 = some (.int x) := by rw [← elv]; rfl
  have l7 : lv.lookup 7 = some (.int y) := by rw [← elv]; rfl
  clear elv
  refine m_ald (pc' := 1) cd_Mo_rowOf rfl (Or.inr ⟨_, rfl, rfl, rfl⟩) l0 rfl rfl ?_
  refine m_fR (r := 8) (a := 9) (ad := 1491) (pc' := 4) rfl rfl cd_Mo_rowOf rfl rfl rfl rfl rfl ?_
  refine m_k1 (v := 0) (pc' := 5) cd_Mo_rowOf rfl (by decide) rfl ?_
  refine m_ild (pc' := 6) cd_Mo_rowOf rfl (Or.inr ⟨_, rfl, rfl, rfl⟩) l2 rfl ?_
  refine m_aS (r := 8) (a := 9) (g := (A 9)) (p := 0) (pc' := 7) rfl rfl cd_Mo_rowOf rfl rfl rfl (vp_in_nI (n := 0) (by decide) (by decide)) (show (0 : Int32).toNatClampNeg = 0 by decide) ?_
  refine m_ald (pc' := 8) cd_Mo_rowOf rfl (Or.inr ⟨_, rfl, rfl, rfl⟩) l0 rfl rfl ?_
  refine m_fR (r := 8) (a := 9) (ad := 1491) (pc' := 11) rfl rfl cd_Mo_rowOf rfl rfl rfl rfl rfl ?_
  refine m_k1 (v := 1) (pc' := 12) cd_Mo_rowOf rfl (by decide) rfl ?_
  refine m_ild (pc' := 13) cd_Mo_rowOf rfl (Or.inr ⟨_, rfl, rfl, rfl⟩) l3 rfl ?_
  refine m_aS (r := 8) (a := 9) (g := (upd (A 9) 0 n0)) (p := 1) (pc' := 14) rfl rfl cd_Mo_rowOf rfl rfl rfl (vp_in_nI (n := 1) (by decide) (by decide)) (show (1 : Int32).toNatClampNeg = 1 by decide) ?_
  rw [fset_fset]
  refine m_ald (pc' := 15) cd_Mo_rowOf rfl (Or.inr ⟨_, rfl, rfl, rfl⟩) l0 rfl rfl ?_
  refine m_fR (r := 8) (a := 9) (ad := 1491) (pc' := 18) rfl rfl cd_Mo_rowOf rfl rfl rfl rfl rfl ?_
  refine m_k1 (v := 2) (pc' := 19) cd_Mo_rowOf rfl (by decide) rfl ?_
  refine m_ild (pc' := 21) cd_Mo_rowOf rfl (Or.inl ⟨rfl, rfl⟩) l4 rfl ?_
  refine m_aS (r := 8) (a := 9) (g := (upd (upd (A 9) 0 n0) 1 n1)) (p := 2) (pc' := 22) rfl rfl cd_Mo_rowOf rfl rfl rfl (vp_in_nI (n := 2) (by decide) (by decide)) (show (2 : Int32).toNatClampNeg = 2 by decide) ?_
  rw [fset_fset]
  refine m_ald (pc' := 23) cd_Mo_rowOf rfl (Or.inr ⟨_, rfl, rfl, rfl⟩) l0 rfl rfl ?_
  refine m_fR (r := 8) (a := 9) (ad := 1491) (pc' := 26) rfl rfl cd_Mo_rowOf rfl rfl rfl rfl rfl ?_
  refine m_k1 (v := 3) (pc' := 27) cd_Mo_rowOf rfl (by decide) rfl ?_
  refine m_ild (pc' := 29) cd_Mo_rowOf rfl (Or.inl ⟨rfl, rfl⟩) l5 rfl ?_
  refine m_aS (r := 8) (a := 9) (g := (upd (upd (upd (A 9) 0 n0) 1 n1) 2 n2)) (p := 3) (pc' := 30) rfl rfl cd_Mo_rowOf rfl rfl rfl (vp_in_nI (n := 3) (by decide) (by decide)) (show (3 : Int32).toNatClampNeg = 3 by decide) ?_
  rw [fset_fset]
  refine m_ald (pc' := 31) cd_Mo_rowOf rfl (Or.inr ⟨_, rfl, rfl, rfl⟩) l0 rfl rfl ?_
  refine m_fR (r := 8) (a := 9) (ad := 1491) (pc' := 34) rfl rfl cd_Mo_rowOf rfl rfl rfl rfl rfl ?_
  refine m_k1 (v := 4) (pc' := 35) cd_Mo_rowOf rfl (by decide) rfl ?_
  refine m_ild (pc' := 37) cd_Mo_rowOf rfl (Or.inl ⟨rfl, rfl⟩) l6 rfl ?_
  refine m_aS (r := 8) (a := 9) (g := (upd (upd (upd (upd (A 9) 0 n0) 1 n1) 2 n2) 3 n3)) (p := 4) (pc' := 38) rfl rfl cd_Mo_rowOf rfl rfl rfl (vp_in_nI (n := 4) (by decide) (by decide)) (show (4 : Int32).toNatClampNeg = 4 by decide) ?_
  rw [fset_fset]
  refine m_ald (pc' := 39) cd_Mo_rowOf rfl (Or.inr ⟨_, rfl, rfl, rfl⟩) l0 rfl rfl ?_
  refine m_fR (r := 8) (a := 9) (ad := 1491) (pc' := 42) rfl rfl cd_Mo_rowOf rfl rfl rfl rfl rfl ?_
  refine m_k1 (v := 5) (pc' := 43) cd_Mo_rowOf rfl (by decide) rfl ?_
  refine m_ild (pc' := 45) cd_Mo_rowOf rfl (Or.inl ⟨rfl, rfl⟩) l7 rfl ?_
  refine m_aS (r := 8) (a := 9) (g := (upd (upd (upd (upd (upd (A 9) 0 n0) 1 n1) 2 n2) 3 n3) 4 x)) (p := 5) (pc' := 46) rfl rfl cd_Mo_rowOf rfl rfl rfl (vp_in_nI (n := 5) (by decide) (by decide)) (show (5 : Int32).toNatClampNeg = 5 by decide) ?_
  rw [fset_fset]
  refine m_ald (pc' := 47) cd_Mo_rowOf rfl (Or.inr ⟨_, rfl, rfl, rfl⟩) l0 rfl rfl ?_
  refine m_fR (r := 8) (a := 9) (ad := 1491) (pc' := 50) rfl rfl cd_Mo_rowOf rfl rfl rfl rfl rfl ?_
  refine m_k2 (v := 6) (pc' := 52) cd_Mo_rowOf rfl (by decide) rfl ?_
  refine m_k1 (v := 0) (pc' := 53) cd_Mo_rowOf rfl (by decide) rfl ?_
  refine m_aS (r := 8) (a := 9) (g := (upd (upd (upd (upd (upd (upd (A 9) 0 n0) 1 n1) 2 n2) 3 n3) 4 x) 5 y)) (p := 6) (pc' := 54) rfl rfl cd_Mo_rowOf rfl rfl rfl (vp_in_nI (n := 6) (by decide) (by decide)) (show (6 : Int32).toNatClampNeg = 6 by decide) ?_
  rw [fset_fset]
  refine m_ald (pc' := 55) cd_Mo_rowOf rfl (Or.inr ⟨_, rfl, rfl, rfl⟩) l0 rfl rfl ?_
  refine m_fR (r := 8) (a := 9) (ad := 1491) (pc' := 58) rfl rfl cd_Mo_rowOf rfl rfl rfl rfl rfl ?_
  refine m_k2 (v := 7) (pc' := 60) cd_Mo_rowOf rfl (by decide) rfl ?_
  refine m_k1 (v := 0) (pc' := 61) cd_Mo_rowOf rfl (by decide) rfl ?_
  refine m_aS (r := 8) (a := 9) (g := (upd (upd (upd (upd (upd (upd (upd (A 9) 0 n0) 1 n1) 2 n2) 3 n3) 4 x) 5 y) 6 0)) (p := 7) (pc' := 62) rfl rfl cd_Mo_rowOf rfl rfl rfl (vp_in_nI (n := 7) (by decide) (by decide)) (show (7 : Int32).toNatClampNeg = 7 by decide) ?_
  rw [fset_fset]
  refine m_ald (pc' := 63) cd_Mo_rowOf rfl (Or.inr ⟨_, rfl, rfl, rfl⟩) l0 rfl rfl ?_
  refine m_k2 (v := 7) (pc' := 65) cd_Mo_rowOf rfl (by decide) rfl ?_
  refine m_ild (pc' := 66) cd_Mo_rowOf rfl (Or.inr ⟨_, rfl, rfl, rfl⟩) l1 rfl ?_
  refine m_k1 (v := 0) (pc' := 67) cd_Mo_rowOf rfl (by decide) rfl ?_
  refine m_k1 (v := 0) (pc' := 68) cd_Mo_rowOf rfl (by decide) rfl ?_
  refine m_ci (pc' := 71) cd_Mo_rowOf rfl rfl rfl rfl rfl cd_Mo_term rfl (Nat.le_of_ble_eq_true rfl) (m_rowN hM hl hr hx hy (MT_z hM) (MT_z hM) (fun f1 A1 T' r h0 h1 h2 => ?_))
  show mg _ _ _ 71 _ [.int r] _ _
  exact m_reti cd_Mo_rowOf rfl ⟨_, rfl, (kk f1 A1 T' r _ h0 ⟨h1.1, h1.2.1, h1.2.2.1, h1.2.2.2⟩ h2)⟩
set_option maxRecDepth 100000 in
theorem l_mhand2 {sc : tm_X} {d : Nat} {f : Nat → Int32} {A : Nat → Nat → Int32} {T : List Tm} {DL : List (Int32 × Int32)} {G Kw : Tm → Prop} {id : Tm} {K0 K1 : PK} {on : List (Tm × Int32)} {lnu : Int32} {se : Nat → List SS} {me : Nat → MM} {dir : Nat → Tm} {NW : List Tm} {s p g : Nat} {th1 ch1 ba1 ro1 mi1 sd1 bp1 bo1 : Tm} {nx1 n1 b1 : Int32} {le1 : List (Tm × Int32 × Tm)} {br1 oc1 : Bool} {lz : List SS} {Q : Option Value → MS → Prop} {gb : Nat} (hgb : mm_gift (me g) (nI g) ∈ T ∨ 2 ≤ gb) (hP : PS f A T DL G Kw id K0 K1 on lnu se me dir NW) (hl : T.length + 7 ≤ 4000) (hr : rc (A 1) T.length + 2 < 1000) (hp : p < 6) (hg : g < 4) (hse : se p = ((th1, ch1, nx1, le1), ba1, ro1, mi1, sd1, n1, b1, br1, bp1, bo1, oc1) :: lz) (kmi : kd mi1 = 1) (ksi : kd (me g).2.2.2.2.2.1 = 1) (hnw : NW.length < 16) (kk : ∀ f1 A1 T1 (lv : tm_L), T <+: T1 → T1.length ≤ T.length + 5 + gb → mm_gift (me g) (nI g) ∈ T1 → rc (A1 1) T1.length ≤ rc (A 1) T.length + 2 → (∀ k, ¬ (k = 0 ∨ k = 7 ∨ k = 30) → f1 k = f k) → (∀ j, ¬ ((1 ≤ j ∧ j ≤ 9) ∨ j = 15 ∨ j = 26) → A1 j = A j) → PS f1 A1 T1 DL G Kw id K0 K1 on lnu (fset se p (ss_sent ((th1, ch1, nx1, le1), ba1, ro1, mi1, sd1, n1, b1, br1, bp1, bo1, oc1) :: lz)) (fset me g (mm_gave (me g) (1 <<< (nI p &&& 31)))) dir (NW ++ [(ss_wire ((th1, ch1, nx1, le1), ba1, ro1, mi1, sd1, n1, b1, br1, bp1, bo1, oc1) (nI s) (nI p) (mm_gift (me g) (nI g)))]) → lv.lookup 0 = some (.ref 1482) → lv.lookup 1 = some (.int (nI s)) → lv.lookup 2 = some (.int (nI g)) → lv.lookup 4 = some (.int (nI (486 + g * 279))) → lv.lookup 5 = some (.int (nI p)) → mg sc (d + 5) 228 346 lv [] (f1, A1) Q) : ∀ lv : tm_L, lv.lookup 0 = some (.ref 1482) → lv.lookup 1 = some (.int (nI s)) → lv.lookup 2 = some (.int (nI g)) → lv.lookup 4 = some (.int (nI (486 + g * 279))) → lv.lookup 5 = some (.int (nI p)) → mg sc (d + 5) 228 274 lv [] (f, A) Q := by
  intro lv l0 l1 l2 l4 l5
  obtain ⟨⟨hM, h11⟩, hD, hdir, h30, h26⟩ := hP
  have hTl := MT_len hM
  rcases hmg : me g with ⟨ve, ma, go, ge, ch, si, ix, ga, sl, gv⟩
  rw [hmg] at ksi kk hgb
  have ksi : kd si = 1 := ksi
  have hG := hD.2.2.2 g hg
  rw [hmg] at hG
  have hSs := hD.2.2.1 p hp
  rw [hse] at hSs
  have hSe0 : qSe (A 15) T (30 + (2 * p + 0) * 38) ((th1, ch1, nx1, le1), ba1, ro1, mi1, sd1, n1, b1, br1, bp1, bo1, oc1) := hSs.2 0 _ rfl
  obtain ⟨⟨g1, g2, g3, g4⟩, ⟨g5, g6⟩, ⟨g7, g8, g9⟩, g10⟩ := hG
  refine m_ald (pc' := 275) cd_Mo_post rfl (Or.inr ⟨_, rfl, rfl, rfl⟩) l0 rfl rfl ?_
  refine m_ild (pc' := 276) cd_Mo_post rfl (Or.inr ⟨_, rfl, rfl, rfl⟩) l1 rfl ?_
  refine m_ild (pc' := 278) cd_Mo_post rfl (Or.inl ⟨rfl, rfl⟩) l5 rfl ?_
  refine m_ald (pc' := 279) cd_Mo_post rfl (Or.inr ⟨_, rfl, rfl, rfl⟩) l0 rfl rfl ?_
  refine m_k1 (v := 5) (pc' := 280) cd_Mo_post rfl (by decide) rfl ?_
  refine m_ild (pc' := 281) cd_Mo_post rfl (Or.inr ⟨_, rfl, rfl, rfl⟩) l2 rfl ?_
  refine m_ald (pc' := 282) cd_Mo_post rfl (Or.inr ⟨_, rfl, rfl, rfl⟩) l0 rfl rfl ?_
  refine m_fR (r := 14) (a := 15) (ad := 1497) (pc' := 285) rfl rfl cd_Mo_post rfl rfl rfl rfl rfl ?_
  refine m_ild (pc' := 287) cd_Mo_post rfl (Or.inl ⟨rfl, rfl⟩) l4 rfl ?_
  refine m_k1 (v := 3) (pc' := 288) cd_Mo_post rfl (by decide) rfl ?_
  refine m_pure (pc' := 289) (st' := [.int ((nI (486 + g * 279)) + 3), .ref 1497, .int (nI g), .int 5, .ref 1482, .int (nI p), .int (nI s), .ref 1482]) cd_Mo_post rfl rfl (fun _ _ => rfl) ?_
  refine m_eq (show ((nI (486 + g * 279)) + 3 : Int32) = nI ((486 + g * 279) + 3) from nI_add (486 + g * 279) 3) ?_
  refine m_aI (r := 14) (a := 15) (g := (A 15)) (x := ge) (pc' := 290) rfl rfl cd_Mo_post rfl rfl rfl (vp_in_nI (by omega) (by decide)) ((congrArg (A 15) (nI_clamp (by omega))).trans g4) ?_
  refine m_ald (pc' := 291) cd_Mo_post rfl (Or.inr ⟨_, rfl, rfl, rfl⟩) l0 rfl rfl ?_
  refine m_fR (r := 14) (a := 15) (ad := 1497) (pc' := 294) rfl rfl cd_Mo_post rfl rfl rfl rfl rfl ?_
  refine m_ild (pc' := 296) cd_Mo_post rfl (Or.inl ⟨rfl, rfl⟩) l4 rfl ?_
  refine m_k2 (v := 6) (pc' := 298) cd_Mo_post rfl (by decide) rfl ?_
  refine m_pure (pc' := 299) (st' := [.int ((nI (486 + g * 279)) + 6), .ref 1497, .int ge, .int (nI g), .int 5, .ref 1482, .int (nI p), .int (nI s), .ref 1482]) cd_Mo_post rfl rfl (fun _ _ => rfl) ?_
  refine m_eq (show ((nI (486 + g * 279)) + 6 : Int32) = nI ((486 + g * 279) + 6) from nI_add (486 + g * 279) 6) ?_
  refine m_aI (r := 14) (a := 15) (g := (A 15)) (x := ix) (pc' := 300) rfl rfl cd_Mo_post rfl rfl rfl (vp_in_nI (by omega) (by decide)) ((congrArg (A 15) (nI_clamp (by omega))).trans g7) ?_
  refine m_k1 (v := 0) (pc' := 301) cd_Mo_post rfl (by decide) rfl ?_
  refine m_ald (pc' := 302) cd_Mo_post rfl (Or.inr ⟨_, rfl, rfl, rfl⟩) l0 rfl rfl ?_
  refine m_fR (r := 14) (a := 15) (ad := 1497) (pc' := 305) rfl rfl cd_Mo_post rfl rfl rfl rfl rfl ?_
  refine m_ild (pc' := 307) cd_Mo_post rfl (Or.inl ⟨rfl, rfl⟩) l4 rfl ?_
  refine m_k1 (v := 4) (pc' := 308) cd_Mo_post rfl (by decide) rfl ?_
  refine m_pure (pc' := 309) (st' := [.int ((nI (486 + g * 279)) + 4), .ref 1497, .int 0, .int ix, .int ge, .int (nI g), .int 5, .ref 1482, .int (nI p), .int (nI s), .ref 1482]) cd_Mo_post rfl rfl (fun _ _ => rfl) ?_
  refine m_eq (show ((nI (486 + g * 279)) + 4 : Int32) = nI ((486 + g * 279) + 4) from nI_add (486 + g * 279) 4) ?_
  refine m_aI (r := 14) (a := 15) (g := (A 15)) (x := ((A 15) ((486 + g * 279) + 4))) (pc' := 310) rfl rfl cd_Mo_post rfl rfl rfl (vp_in_nI (by omega) (by decide)) (congrArg (A 15) (nI_clamp (by omega))) ?_
  refine m_ald (pc' := 311) cd_Mo_post rfl (Or.inr ⟨_, rfl, rfl, rfl⟩) l0 rfl rfl ?_
  refine m_ald (pc' := 312) cd_Mo_post rfl (Or.inr ⟨_, rfl, rfl, rfl⟩) l0 rfl rfl ?_
  refine m_fR (r := 14) (a := 15) (ad := 1497) (pc' := 315) rfl rfl cd_Mo_post rfl rfl rfl rfl rfl ?_
  refine m_ild (pc' := 317) cd_Mo_post rfl (Or.inl ⟨rfl, rfl⟩) l4 rfl ?_
  refine m_k1 (v := 5) (pc' := 318) cd_Mo_post rfl (by decide) rfl ?_
  refine m_pure (pc' := 319) (st' := [.int ((nI (486 + g * 279)) + 5), .ref 1497, .ref 1482, .int (((A 15) ((486 + g * 279) + 4))), .int 0, .int ix, .int ge, .int (nI g), .int 5, .ref 1482, .int (nI p), .int (nI s), .ref 1482]) cd_Mo_post rfl rfl (fun _ _ => rfl) ?_
  refine m_eq (show ((nI (486 + g * 279)) + 5 : Int32) = nI ((486 + g * 279) + 5) from nI_add (486 + g * 279) 5) ?_
  refine m_aI (r := 14) (a := 15) (g := (A 15)) (x := ((A 15) ((486 + g * 279) + 5))) (pc' := 320) rfl rfl cd_Mo_post rfl rfl rfl (vp_in_nI (by omega) (by decide)) (congrArg (A 15) (nI_clamp (by omega))) ?_
  refine m_ci (pc' := 323) cd_Mo_post rfl rfl rfl rfl rfl cd_Mo_publicOf rfl (Nat.le_of_ble_eq_true rfl) (m_publicOfN (by exact MT_i hM rfl rfl rfl rfl rfl rfl rfl rfl rfl rfl) (by omega) (by show rc (A 1) T.length < 1000; omega) g6 ksi (fun f1 A1 T1 r1 hy1 hx1 hr1 => ?_))
  obtain ⟨p1, q1, s1, hM1⟩ := hx1
  have hM1 : MT f1 A1 T1 _ _ _ := MT_i hM1 rfl rfl rfl rfl rfl rfl rfl rfl rfl rfl
  have s1 : rc (A1 1) T1.length ≤ rc (A 1) T.length + 0 := s1
  show mg _ _ _ 323 _ [.int r1, .int (((A 15) ((486 + g * 279) + 4))), .int 0, .int ix, .int ge, .int (nI g), .int 5, .ref 1482, .int (nI p), .int (nI s), .ref 1482] _ _
  refine m_ci (pc' := 326) cd_Mo_post rfl rfl rfl rfl rfl cd_Mo_rowOf rfl (Nat.le_of_ble_eq_true rfl) (m_rowOfN (by exact MT_i hM1 rfl rfl rfl rfl rfl rfl rfl rfl rfl rfl) (by omega) (by show rc (A1 1) T1.length < 1000; omega) (tv_mono p1 g5) hr1 (fun f2 A2 T2 r2 g2 hy2 hx2 hr2 => ?_))
  obtain ⟨p2, q2, s2, hM2⟩ := hx2
  have hM2 : MT f2 A2 T2 _ _ _ := MT_i hM2 rfl rfl rfl rfl rfl rfl rfl rfl rfl rfl
  have s2 : rc (A2 1) T2.length ≤ rc (A1 1) T1.length + 1 := s2
  show mg _ _ _ 326 _ [.int r2, .int (nI p), .int (nI s), .ref 1482] _ _
  refine m_cv (pc' := 329) cd_Mo_post rfl rfl rfl rfl rfl cd_Mo_sends rfl (Nat.le_of_ble_eq_true rfl) (m_sends (m := NW.length) (by exact MT_i hM2 rfl rfl rfl rfl rfl rfl rfl rfl rfl rfl) (by omega) (by show rc (A2 1) T2.length + 1 < 1000; omega) hp (by exact qSe_c (p1.trans p2) (fun _ _ => rfl) hSe0) kmi hr2 (fun e => nomatch e) (by exact h30) hnw (fun f3 A3 T3 r3 p3 q3 s3 hM3 e30 e26 hw3 hse3 he15 => ?_))
  have s3 : rc (A3 1) T3.length ≤ rc (A2 1) T2.length + 1 := s3
  have pT := (p1.trans p2).trans p3
  have hgT : T2.length ≤ T.length + gb := by
    rcases hgb with z | z
    · have z1 := MT_parts hM z rfl (k := 1) (by decide)
      have e1 := hy1 z1
      have e2 := hy2 (by rw [e1]; exact z)
      rw [e2, e1]; omega
    · omega
  have hgM : mm_gift (ve, ma, go, ge, ch, si, ix, ga, sl, gv) (nI g) ∈ T3 := p3.subset (tv_memb hr2)
  show mg _ _ _ 329 _ [] _ _
  refine m_ald (pc' := 330) cd_Mo_post rfl (Or.inr ⟨_, rfl, rfl, rfl⟩) l0 rfl rfl ?_
  refine m_fR (r := 14) (a := 15) (ad := 1497) (pc' := 333) rfl rfl cd_Mo_post rfl rfl rfl rfl rfl ?_
  refine m_ild (pc' := 335) cd_Mo_post rfl (Or.inl ⟨rfl, rfl⟩) l4 rfl ?_
  refine m_k2 (v := 7) (pc' := 337) cd_Mo_post rfl (by decide) rfl ?_
  refine m_pure (pc' := 338) (st' := [.int ((nI (486 + g * 279)) + 7), .ref 1497]) cd_Mo_post rfl rfl (fun _ _ => rfl) ?_
  refine m_eq (show ((nI (486 + g * 279)) + 7 : Int32) = nI ((486 + g * 279) + 7) from nI_add (486 + g * 279) 7) ?_
  refine m_pure (pc' := 339) (st' := [.int (nI ((486 + g * 279) + 7)), .ref 1497, .int (nI ((486 + g * 279) + 7)), .ref 1497]) cd_Mo_post rfl rfl (fun _ _ => rfl) ?_
  refine m_aI (r := 14) (a := 15) (g := (A3 15)) (x := ga) (pc' := 340) rfl rfl cd_Mo_post rfl rfl rfl (vp_in_nI (by omega) (by decide)) ((congrArg (A3 15) (nI_clamp (by omega))).trans ((he15 _ (by omega)).trans g8)) ?_
  refine m_k1 (v := 1) (pc' := 341) cd_Mo_post rfl (by decide) rfl ?_
  refine m_ild (pc' := 343) cd_Mo_post rfl (Or.inl ⟨rfl, rfl⟩) l5 rfl ?_
  refine m_pure (pc' := 344) (st' := [.int ((1 : Int32) <<< ((nI p) &&& 31)), .int ga, .int (nI ((486 + g * 279) + 7)), .ref 1497]) cd_Mo_post rfl rfl (fun _ _ => rfl) ?_
  refine m_pure (pc' := 345) (st' := [.int (ga ||| ((1 : Int32) <<< ((nI p) &&& 31))), .int (nI ((486 + g * 279) + 7)), .ref 1497]) cd_Mo_post rfl rfl (fun _ _ => rfl) ?_
  refine m_aS (r := 14) (a := 15) (g := (A3 15)) (p := ((486 + g * 279) + 7)) (pc' := 346) rfl rfl cd_Mo_post rfl rfl rfl (vp_in_nI (by omega) (by decide)) (nI_clamp (by omega)) ?_
  have hD3 : qDv (A3 15) T3 (id, K0, K1, on, lnu, (fset se p (ss_sent ((th1, ch1, nx1, le1), ba1, ro1, mi1, sd1, n1, b1, br1, bp1, bo1, oc1) :: lz)), me) := by
    refine qDv_ses hp hD pT ⟨⟨?_, hSs.1.2⟩, fun k S hk => ?_⟩ (fun k k1 k2 => he15 k (by omega))
    · rw [he15 _ (by omega)]; exact hSs.1.1
    · rcases k with _ | k
      · cases hk; exact hse3
      · exact qSe_c pT (fun i hi => he15 _ (by have hk2 : k + 1 < 2 := Nat.lt_of_lt_of_le (List.getElem?_eq_some_iff.mp hk).1 hSs.1.2; omega)) (hSs.2 (k + 1) S hk)
  have hG3 := hD3.2.2.2 g hg
  rw [hmg] at hG3
  have hG4 : qMm (upd (A3 15) ((486 + g * 279) + 7) (ga ||| ((1 : Int32) <<< ((nI p) &&& 31)))) T3 (486 + g * 279) (mm_gave (ve, ma, go, ge, ch, si, ix, ga, sl, gv) (1 <<< (nI p &&& 31))) := qMm_gave hG3 (fun k hk => upd_ne hk) upd_same
  have hD4 := qDv_grp hg hD3 (List.prefix_refl T3) hG4 (fun j hj => upd_ne (by omega))
  refine kk _ _ T3 lv pT (by omega) hgM (by show rc (A3 1) _ ≤ _; omega) (fun k q => by have e0 : ¬ k = 0 := (by omega); have e7 : ¬ k = 7 := (by omega); have e30 : ¬ k = 30 := (by omega); simp only [fset, mjF, mjSf, e0, e7, e30, or_self, if_false]) (fun j q => by have e0 : ¬ (1 ≤ j ∧ j ≤ 8) := (by omega); have e01 : ¬ (1 ≤ j ∧ j ≤ 9) := (by omega); have e9 : ¬ j = 9 := (by omega); have e15 : ¬ j = 15 := (by omega); have e26 : ¬ j = 26 := (by omega); simp only [fset, mjA, mjSA, e0, e01, e9, e15, e26, or_self, if_false]) ⟨⟨by exact MT_i hM3 rfl rfl rfl rfl rfl rfl rfl rfl rfl rfl, h11⟩, hD4, fun i hi => tv_mono pT (hdir i hi), ?_, NW_add pT h26 e26 hw3⟩ l0 l1 l2 l4 l5
  show f3 30 = _
  rw [e30]; congr 1; simp
set_option maxRecDepth 100000 in
theorem l_mhand {sc : tm_X} {d : Nat} {f : Nat → Int32} {A : Nat → Nat → Int32} {T : List Tm} {DL : List (Int32 × Int32)} {G Kw : Tm → Prop} {id : Tm} {K0 K1 : PK} {on : List (Tm × Int32)} {lnu : Int32} {se : Nat → List SS} {me : Nat → MM} {dir : Nat → Tm} {NW : List Tm} {s p g : Nat} {th1 ch1 ba1 ro1 mi1 sd1 bp1 bo1 : Tm} {nx1 n1 b1 : Int32} {le1 : List (Tm × Int32 × Tm)} {br1 oc1 : Bool} {lz : List SS} {Q : Option Value → MS → Prop} {gb : Nat} (hgb : mm_gift (me g) (nI g) ∈ T ∨ 2 ≤ gb) (hP : PS f A T DL G Kw id K0 K1 on lnu se me dir NW) (hl : T.length + 11 ≤ 4000) (hr : rc (A 1) T.length + 2 < 1000) (hdl : DL.length + 1 ≤ 3000) (hs : s < 6) (hp : p < 6) (hg : g < 4) (hse : se p = ((th1, ch1, nx1, le1), ba1, ro1, mi1, sd1, n1, b1, br1, bp1, bo1, oc1) :: lz) (kth : kd th1 = 2) (kmi : kd mi1 = 1) (ksi : kd (me g).2.2.2.2.2.1 = 1) (hnw : NW.length < 16) (kk : ∀ f1 A1 T1 (E : List (Int32 × Int32)) (lv : tm_L), T <+: T1 → T1.length ≤ T.length + 5 + 4 * E.length + gb → mm_gift (me g) (nI g) ∈ T1 → rc (A1 1) T1.length ≤ rc (A 1) T.length + 2 → (∀ k, ¬ (k = 0 ∨ k = 7 ∨ k = 11 ∨ k = 30) → f1 k = f k) → (∀ j, ¬ ((1 ≤ j ∧ j ≤ 13) ∨ j = 15 ∨ j = 17 ∨ j = 26) → A1 j = A j) → PS f1 A1 T1 (DL ++ E) G Kw id K0 K1 on lnu (fset se p (ss_sent (ss_turn ((th1, ch1, nx1, le1), ba1, ro1, mi1, sd1, n1, b1, br1, bp1, bo1, oc1) (Tsec (nI DL.length) (nI s) 2)) :: lz)) (fset me g (mm_gave (me g) (1 <<< (nI p &&& 31)))) dir (NW ++ [(ss_wire (ss_turn ((th1, ch1, nx1, le1), ba1, ro1, mi1, sd1, n1, b1, br1, bp1, bo1, oc1) (Tsec (nI DL.length) (nI s) 2)) (nI s) (nI p) (mm_gift (me g) (nI g)))]) → DL.length + E.length = dr_turn ((th1, ch1, nx1, le1), ba1, ro1, mi1, sd1, n1, b1, br1, bp1, bo1, oc1) DL.length → (∀ e, e ∈ E → e = (nI s, 2)) → dws A A1 DL.length (f 21) (E.map fun e => (e.1, decide (e.2 ≠ 0))) → lv.lookup 0 = some (.ref 1482) → lv.lookup 1 = some (.int (nI s)) → lv.lookup 2 = some (.int (nI g)) → lv.lookup 4 = some (.int (nI (486 + g * 279))) → lv.lookup 5 = some (.int (nI p)) → mg sc (d + 5) 228 346 lv [] (f1, A1) Q) : ∀ lv : tm_L, lv.lookup 0 = some (.ref 1482) → lv.lookup 1 = some (.int (nI s)) → lv.lookup 2 = some (.int (nI g)) → lv.lookup 4 = some (.int (nI (486 + g * 279))) → lv.lookup 5 = some (.int (nI p)) → mg sc (d + 5) 228 263 lv [] (f, A) Q := by
  intro lv l0 l1 l2 l4 l5
  have hP0 := hP
  obtain ⟨⟨hM, h11⟩, hD, hdir, h30, h26⟩ := hP
  have hSs := hD.2.2.1 p hp
  rw [hse] at hSs
  have hSe0 : qSe (A 15) T (30 + (2 * p + 0) * 38) ((th1, ch1, nx1, le1), ba1, ro1, mi1, sd1, n1, b1, br1, bp1, bo1, oc1) := hSs.2 0 _ rfl
  refine m_ald (pc' := 264) cd_Mo_post rfl (Or.inr ⟨_, rfl, rfl, rfl⟩) l0 rfl rfl ?_
  refine m_ild (pc' := 265) cd_Mo_post rfl (Or.inr ⟨_, rfl, rfl, rfl⟩) l1 rfl ?_
  refine m_ild (pc' := 267) cd_Mo_post rfl (Or.inl ⟨rfl, rfl⟩) l5 rfl ?_
  refine m_k1 (v := 0) (pc' := 268) cd_Mo_post rfl (by decide) rfl ?_
  refine m_si (pc' := 271) cd_Mo_post rfl rfl rfl rfl rfl cd_Mo_sessionAt rfl (Nat.le_of_ble_eq_true rfl) (m_sessionAt (k := 0) ?_)
  show mg _ _ _ 271 _ [.int (nI (30 + (2 * p + 0) * 38)), .int (nI s), .ref 1482] _ _
  refine m_cv (pc' := 274) cd_Mo_post rfl rfl rfl rfl rfl cd_Mo_chain rfl (Nat.le_of_ble_eq_true rfl) (m_chain hM (by omega) (by omega) h11 hdl (by omega) hSe0 kth (fun hsd => ?_) (fun hsd f1 A1 T1 p1 q1 s1 hM1 e11 hdw h17 hse1 he15 => ?_))
  · skip
    show mg _ _ _ 274 _ [] _ _
    have eT : (ss_turn ((th1, ch1, nx1, le1), ba1, ro1, mi1, sd1, n1, b1, br1, bp1, bo1, oc1) (Tsec (nI DL.length) (nI s) 2)) = ((th1, ch1, nx1, le1), ba1, ro1, mi1, sd1, n1, b1, br1, bp1, bo1, oc1) := ss_turn_f hsd
    have edr : dr_turn ((th1, ch1, nx1, le1), ba1, ro1, mi1, sd1, n1, b1, br1, bp1, bo1, oc1) DL.length = DL.length := if_neg (fun q => hsd (tnil_iff.mp q))
    rw [eT] at kk
    refine l_mhand2 hgb hP0 (by omega) hr hp hg hse kmi ksi hnw (fun f2 A2 T2 lv p2 q2 m2 s2 ef eA hP2 l0 l1 l2 l4 l5 => ?_) lv l0 l1 l2 l4 l5
    refine kk f2 A2 T2 [] lv p2 (by simp only [List.length_nil]; omega) m2 s2 (fun k q => ef k (by omega)) (fun j q => eA j (by omega)) (by rw [List.append_nil]; exact hP2) (by rw [edr]; rfl) (fun e he => absurd he List.not_mem_nil) ?_ l0 l1 l2 l4 l5
    exact ⟨eA 10 (by decide), eA 11 (by decide), eA 12 (by decide), eA 13 (by decide)⟩
  · skip
    show mg _ _ _ 274 _ [] _ _
    have eT : (ss_turn ((th1, ch1, nx1, le1), ba1, ro1, mi1, sd1, n1, b1, br1, bp1, bo1, oc1) (Tsec (nI DL.length) (nI s) 2)) = ((th1, ch1, nx1, le1), ba1, Tmx 4 ro1 (Tsh (Tsec (nI DL.length) (nI s) 2) (pt th1 0)), (Tsec (nI DL.length) (nI s) 2), Tmx 5 ro1 (Tsh (Tsec (nI DL.length) (nI s) 2) (pt th1 0)), 0, n1, br1, bp1, bo1, oc1) := ss_turn_t hsd
    have edr : dr_turn ((th1, ch1, nx1, le1), ba1, ro1, mi1, sd1, n1, b1, br1, bp1, bo1, oc1) DL.length = DL.length + 1 := if_pos (tnil_iff.mpr hsd)
    rw [eT] at kk hse1
    have s1 : rc (A1 1) T1.length ≤ rc (A 1) T.length := s1
    have hD1 : qDv (A1 15) T1 (id, K0, K1, on, lnu, fset se p (((th1, ch1, nx1, le1), ba1, Tmx 4 ro1 (Tsh (Tsec (nI DL.length) (nI s) 2) (pt th1 0)), (Tsec (nI DL.length) (nI s) 2), Tmx 5 ro1 (Tsh (Tsec (nI DL.length) (nI s) 2) (pt th1 0)), 0, n1, br1, bp1, bo1, oc1) :: lz), me) := by
      refine qDv_ses hp hD p1 ⟨⟨?_, hSs.1.2⟩, fun k S hk => ?_⟩ (fun k k1 k2 => he15 k (by omega))
      · rw [he15 _ (by omega)]; exact hSs.1.1
      · rcases k with _ | k
        · cases hk; exact hse1
        · exact qSe_c p1 (fun i hi => he15 _ (by have hk2 : k + 1 < 2 := Nat.lt_of_lt_of_le (List.getElem?_eq_some_iff.mp hk).1 hSs.1.2; omega)) (hSs.2 (k + 1) S hk)
    have hP1 : PS (mjBf f1 f) (mjBA A1 A) T1 (DL ++ [(nI s, 2)]) G Kw id K0 K1 on lnu (fset se p (((th1, ch1, nx1, le1), ba1, Tmx 4 ro1 (Tsh (Tsec (nI DL.length) (nI s) 2) (pt th1 0)), (Tsec (nI DL.length) (nI s) 2), Tmx 5 ro1 (Tsh (Tsec (nI DL.length) (nI s) 2) (pt th1 0)), 0, n1, br1, bp1, bo1, oc1) :: lz)) me dir NW := ⟨⟨hM1, e11.trans (by congr 1; simp)⟩, hD1, fun i hi => by show tv T1 (A1 17 i) _; rw [h17]; exact tv_mono p1 (hdir i hi), h30, fun i X hX => tv_mono p1 (h26 i X hX)⟩
    refine l_mhand2 (lz := lz) (hgb.imp_left (fun z => p1.subset z)) hP1 (by omega) (by show rc (A1 1) _ + 2 < 1000; omega) hp hg (fset_same _ _ _) rfl ksi hnw (fun f2 A2 T2 lv p2 q2 m2 s2 ef eA hP2 l0 l1 l2 l4 l5 => ?_) lv l0 l1 l2 l4 l5
    have s2 : rc (A2 1) T2.length ≤ rc (A1 1) T1.length + 2 := s2
    rw [fset_fset] at hP2
    refine kk f2 A2 T2 [(nI s, 2)] lv (p1.trans p2) (by simp only [List.length_cons, List.length_nil]; omega) m2 (by omega) (fun k q => (ef k (by omega)).trans (by have e0 : ¬ k = 0 := (by omega); have e7 : ¬ k = 7 := (by omega); have e11 : ¬ k = 11 := (by omega); simp only [mjBf, e0, e7, e11, or_self, if_false])) (fun j q => (eA j (by omega)).trans (by have e0 : ¬ (1 ≤ j ∧ j ≤ 13) := (by omega); have e15 : ¬ j = 15 := (by omega); have e17 : ¬ j = 17 := (by omega); simp only [mjBA, e0, e15, e17, or_self, if_false])) hP2 (by rw [edr]; rfl) (fun e he => List.mem_singleton.mp he) ?_ l0 l1 l2 l4 l5
    exact ⟨(eA 10 (by decide)).trans hdw.1, (eA 11 (by decide)).trans hdw.2.1, (eA 12 (by decide)).trans hdw.2.2.1, (eA 13 (by decide)).trans hdw.2.2.2⟩
