/-! The reference's terms: what reading them gives; makers -/
theorem MT_len {f : Nat → Int32} {A : Nat → Nat → Int32} {T : List Tm} {DL : List (Int32 × Int32)} {G W : Tm → Prop} (hM : MT f A T DL G W) : 1 ≤ T.length ∧ T.length ≤ 4000 := hM.1.1.2
theorem MT_z {f : Nat → Int32} {A : Nat → Nat → Int32} {T : List Tm} {DL : List (Int32 × Int32)} {G W : Tm → Prop} (hM : MT f A T DL G W) : tv T 0 tz := ⟨0, rfl, hM.1.2.2.1.1⟩
theorem MT_inj {f : Nat → Int32} {A : Nat → Nat → Int32} {T : List Tm} {DL : List (Int32 × Int32)} {G W : Tm → Prop} (hM : MT f A T DL G W) {x y : Int32} {X : Tm} (h1 : tv T x X) (h2 : tv T y X) : x = y := by
  obtain ⟨i, rfl, h1⟩ := h1
  obtain ⟨j, rfl, h2⟩ := h2
  rw [hM.2.2.1.1 i j X h1 h2]
theorem MT_fun {f : Nat → Int32} {A : Nat → Nat → Int32} {T : List Tm} {DL : List (Int32 × Int32)} {G W : Tm → Prop} (hM : MT f A T DL G W) {x : Int32} {X Y : Tm} (h1 : tv T x X) (h2 : tv T x Y) : X = Y := tv_fun (by have := MT_len hM; omega) h1 h2
theorem MT_eq {f : Nat → Int32} {A : Nat → Nat → Int32} {T : List Tm} {DL : List (Int32 × Int32)} {G W : Tm → Prop} (hM : MT f A T DL G W) {x y : Int32} {X Y : Tm} (h1 : tv T x X) (h2 : tv T y Y) : x = y ↔ X = Y := ⟨fun e => MT_fun hM h1 (e ▸ h2), fun e => MT_inj hM h1 (e ▸ h2)⟩
theorem MT_0 {f : Nat → Int32} {A : Nat → Nat → Int32} {T : List Tm} {DL : List (Int32 × Int32)} {G W : Tm → Prop} (hM : MT f A T DL G W) {x : Int32} {X : Tm} (h1 : tv T x X) : x = 0 ↔ X = tz := MT_eq hM h1 (MT_z hM)
theorem tv_ix {T : List Tm} {x : Int32} {X : Tm} (h : tv T x X) : ∃ i, x = nI i ∧ i < T.length ∧ T[i]? = some X := by
  obtain ⟨i, e, h⟩ := h
  exact ⟨i, e, tv_lt h, h⟩
theorem pv_tv {T : List Tm} {x : Int32} {P : Tm} (h : tv T x P) : pv T T.length x P := by
  obtain ⟨i, e, h⟩ := h
  exact ⟨i, e, tv_lt h, h⟩
theorem tv_pv {T : List Tm} {i : Nat} {x : Int32} {P : Tm} (h : pv T i x P) : tv T x P := by
  obtain ⟨p, e, -, h⟩ := h
  exact ⟨p, e, h⟩
theorem MT_kd {f : Nat → Int32} {A : Nat → Nat → Int32} {T : List Tm} {DL : List (Int32 × Int32)} {G W : Tm → Prop} (hM : MT f A T DL G W) {i : Nat} {X : Tm} (h : T[i]? = some X) : A 1 i = kd X := by
  rcases Nat.eq_zero_or_pos i with z | z
  · subst z
    rw [hM.1.2.2.1.1] at h
    cases h
    exact hM.1.2.2.1.2
  · exact (tkr_kd (MT_row hM z h).2).symm
theorem MT_pos {f : Nat → Int32} {A : Nat → Nat → Int32} {T : List Tm} {DL : List (Int32 × Int32)} {G W : Tm → Prop} (hM : MT f A T DL G W) {i : Nat} {X : Tm} (h : T[i]? = some X) (hX : X ≠ tz) : 0 < i := by
  rcases Nat.eq_zero_or_pos i with z | z
  · subst z
    rw [hM.1.2.2.1.1] at h
    cases h
    exact absurd rfl hX
  · exact z
theorem kd_nz {X : Tm} {w : Int32} (h : kd X = w) (hw : w ≠ 0) : X ≠ tz := fun e => by rw [e] at h; exact hw h.symm
theorem MT_sp {f : Nat → Int32} {A : Nat → Nat → Int32} {T : List Tm} {DL : List (Int32 × Int32)} {G W : Tm → Prop} (hM : MT f A T DL G W) {i : Nat} {X : Tm} (h : T[i]? = some X) : Tsp X := by
  by_cases e : X = tz
  · exact Or.inl e
  · exact tkr_sp (MT_row hM (MT_pos hM h e) h).2
theorem MT_tsp {f : Nat → Int32} {A : Nat → Nat → Int32} {T : List Tm} {DL : List (Int32 × Int32)} {G W : Tm → Prop} (hM : MT f A T DL G W) {x : Int32} {X : Tm} (h : tv T x X) : Tsp X := by
  obtain ⟨i, -, h⟩ := h
  exact MT_sp hM h
/-- one -/
theorem MT_mk {f : Nat → Int32} {A : Nat → Nat → Int32} {T : List Tm} {DL : List (Int32 × Int32)} {G W : Tm → Prop} (hM : MT f A T DL G W) {i : Nat} {X : Tm} (h : T[i]? = some X) (hk : kd X = 1 ∨ kd X = 4 ∨ kd X = 7) : A 2 i = mk X := by
  have hz : X ≠ tz := by rcases hk with hk | hk | hk <;> exact kd_nz hk (by decide)
  have q := (MT_row hM (MT_pos hM h hz) h).2
  rcases q with ⟨h1, h2, h3, m, d, p, h4, h5, rfl⟩ | ⟨h1, h2, h3, P, h4, h5, rfl⟩ | ⟨h1, h2, P, R, h3, h4, h5, h6, rfl⟩ | ⟨h1, P, R, h2, h3, rfl⟩ | ⟨h1, P, R, S, h2, h3, h4, rfl⟩ | ⟨h1, h2, P, R, h3, h4, rfl⟩ | ⟨h1, h2, h3, P0, P1, P2, P3, h4, h5, h6, h7, rfl⟩
  · exact h4
  · exact absurd hk (by show ¬ ((2 : Int32) = 1 ∨ (2 : Int32) = 4 ∨ (2 : Int32) = 7); decide)
  · exact absurd hk (by show ¬ ((3 : Int32) = 1 ∨ (3 : Int32) = 4 ∨ (3 : Int32) = 7); decide)
  · rfl
  · exact absurd hk (by show ¬ ((5 : Int32) = 1 ∨ (5 : Int32) = 4 ∨ (5 : Int32) = 7); decide)
  · exact absurd hk (by show ¬ ((6 : Int32) = 1 ∨ (6 : Int32) = 4 ∨ (6 : Int32) = 7); decide)
  · rfl
theorem MT_one {f : Nat → Int32} {A : Nat → Nat → Int32} {T : List Tm} {DL : List (Int32 × Int32)} {G W : Tm → Prop} (hM : MT f A T DL G W) {i : Nat} {X : Tm} (h : T[i]? = some X) (hk : kd X = 2 ∨ kd X = 3 ∨ kd X = 5 ∨ kd X = 6) : tv T (A 2 i) (pt X 0) := by
  have hz : X ≠ tz := by rcases hk with hk | hk | hk | hk <;> exact kd_nz hk (by decide)
  have q := (MT_row hM (MT_pos hM h hz) h).2
  rcases q with ⟨h1, h2, h3, m, d, p, h4, h5, rfl⟩ | ⟨h1, h2, h3, P, h4, h5, rfl⟩ | ⟨h1, h2, P, R, h3, h4, h5, h6, rfl⟩ | ⟨h1, P, R, h2, h3, rfl⟩ | ⟨h1, P, R, S, h2, h3, h4, rfl⟩ | ⟨h1, h2, P, R, h3, h4, rfl⟩ | ⟨h1, h2, h3, P0, P1, P2, P3, h4, h5, h6, h7, rfl⟩
  · exact absurd hk (by show ¬ ((1 : Int32) = 2 ∨ (1 : Int32) = 3 ∨ (1 : Int32) = 5 ∨ (1 : Int32) = 6); decide)
  · exact tv_pv h4
  · exact tv_pv h3
  · exact absurd hk (by show ¬ ((4 : Int32) = 2 ∨ (4 : Int32) = 3 ∨ (4 : Int32) = 5 ∨ (4 : Int32) = 6); decide)
  · exact tv_pv h2.1
  · exact tv_pv h3.1
  · exact absurd hk (by show ¬ ((7 : Int32) = 2 ∨ (7 : Int32) = 3 ∨ (7 : Int32) = 5 ∨ (7 : Int32) = 6); decide)
theorem MT_two {f : Nat → Int32} {A : Nat → Nat → Int32} {T : List Tm} {DL : List (Int32 × Int32)} {G W : Tm → Prop} (hM : MT f A T DL G W) {i : Nat} {X : Tm} (h : T[i]? = some X) (hk : kd X = 3 ∨ kd X = 5 ∨ kd X = 6) : tv T (A 3 i) (pt X 1) := by
  have hz : X ≠ tz := by rcases hk with hk | hk | hk <;> exact kd_nz hk (by decide)
  have q := (MT_row hM (MT_pos hM h hz) h).2
  have h7 : ¬ A 1 i = 7 := by rw [MT_kd hM h]; rcases hk with hk | hk | hk <;> (rw [hk]; decide)
  rw [if_neg h7] at q
  rcases q with ⟨h1, h2, h3, m, d, p, h4, h5, rfl⟩ | ⟨h1, h2, h3, P, h4, h5, rfl⟩ | ⟨h1, h2, P, R, h3, h4, h5, h6, rfl⟩ | ⟨h1, P, R, h2, h3, rfl⟩ | ⟨h1, P, R, S, h2, h3, h4, rfl⟩ | ⟨h1, h2, P, R, h3, h4, rfl⟩ | ⟨h1, h2, h3, P0, P1, P2, P3, h4, h5, h6, h7, rfl⟩
  · exact absurd hk (by show ¬ ((1 : Int32) = 3 ∨ (1 : Int32) = 5 ∨ (1 : Int32) = 6); decide)
  · exact absurd hk (by show ¬ ((2 : Int32) = 3 ∨ (2 : Int32) = 5 ∨ (2 : Int32) = 6); decide)
  · exact tv_pv h4
  · exact absurd hk (by show ¬ ((4 : Int32) = 3 ∨ (4 : Int32) = 5 ∨ (4 : Int32) = 6); decide)
  · exact tv_pv h3.1
  · exact tv_pv h4.1
  · exact absurd hk (by show ¬ ((7 : Int32) = 3 ∨ (7 : Int32) = 5 ∨ (7 : Int32) = 6); decide)
theorem MT_mix {f : Nat → Int32} {A : Nat → Nat → Int32} {T : List Tm} {DL : List (Int32 × Int32)} {G W : Tm → Prop} (hM : MT f A T DL G W) {i : Nat} {X : Tm} (h : T[i]? = some X) (hk : kd X = 4) : tv T (A 3 i) (pt X 0) ∧ tv T (A 4 i) (pt X 1) := by
  have q := (MT_row hM (MT_pos hM h (kd_nz hk (by decide))) h).2
  have h7 : ¬ A 1 i = 7 := by rw [MT_kd hM h, hk]; decide
  rw [if_neg h7] at q
  rcases q with ⟨h1, h2, h3, m, d, p, h4, h5, rfl⟩ | ⟨h1, h2, h3, P, h4, h5, rfl⟩ | ⟨h1, h2, P, R, h3, h4, h5, h6, rfl⟩ | ⟨h1, P, R, h2, h3, rfl⟩ | ⟨h1, P, R, S, h2, h3, h4, rfl⟩ | ⟨h1, h2, P, R, h3, h4, rfl⟩ | ⟨h1, h2, h3, P0, P1, P2, P3, h4, h5, h6, h7, rfl⟩
  · exact absurd hk (by show ¬ (1 : Int32) = 4; decide)
  · exact absurd hk (by show ¬ (2 : Int32) = 4; decide)
  · exact absurd hk (by show ¬ (3 : Int32) = 4; decide)
  · exact ⟨tv_pv h2, tv_pv h3⟩
  · exact absurd hk (by show ¬ (5 : Int32) = 4; decide)
  · exact absurd hk (by show ¬ (6 : Int32) = 4; decide)
  · exact absurd hk (by show ¬ (7 : Int32) = 4; decide)
theorem MT_three {f : Nat → Int32} {A : Nat → Nat → Int32} {T : List Tm} {DL : List (Int32 × Int32)} {G W : Tm → Prop} (hM : MT f A T DL G W) {i : Nat} {X : Tm} (h : T[i]? = some X) (hk : kd X = 5) : tv T (A 4 i) (pt X 2) := by
  have q := (MT_row hM (MT_pos hM h (kd_nz hk (by decide))) h).2
  rcases q with ⟨h1, h2, h3, m, d, p, h4, h5, rfl⟩ | ⟨h1, h2, h3, P, h4, h5, rfl⟩ | ⟨h1, h2, P, R, h3, h4, h5, h6, rfl⟩ | ⟨h1, P, R, h2, h3, rfl⟩ | ⟨h1, P, R, S, h2, h3, h4, rfl⟩ | ⟨h1, h2, P, R, h3, h4, rfl⟩ | ⟨h1, h2, h3, P0, P1, P2, P3, h4, h5, h6, h7, rfl⟩
  · exact absurd hk (by show ¬ (1 : Int32) = 5; decide)
  · exact absurd hk (by show ¬ (2 : Int32) = 5; decide)
  · exact absurd hk (by show ¬ (3 : Int32) = 5; decide)
  · exact absurd hk (by show ¬ (4 : Int32) = 5; decide)
  · exact tv_pv h4.1
  · exact absurd hk (by show ¬ (6 : Int32) = 5; decide)
  · exact absurd hk (by show ¬ (7 : Int32) = 5; decide)
/-- a row's cells -/
theorem MT_cells {f : Nat → Int32} {A : Nat → Nat → Int32} {T : List Tm} {DL : List (Int32 × Int32)} {G W : Tm → Prop} (hM : MT f A T DL G W) {i : Nat} {X : Tm} (h : T[i]? = some X) (hk : kd X = 7) : (∀ k, k < 4 → mrw (A 1) (A 7) i k = nu X k) ∧ ∀ k, k < 4 → tv T (mrw (A 1) (A 7) i (4 + k)) (pt X k) := by
  have q := (MT_row hM (MT_pos hM h (kd_nz hk (by decide))) h).2
  rcases q with ⟨h1, h2, h3, m, d, p, h4, h5, rfl⟩ | ⟨h1, h2, h3, P, h4, h5, rfl⟩ | ⟨h1, h2, P, R, h3, h4, h5, h6, rfl⟩ | ⟨h1, P, R, h2, h3, rfl⟩ | ⟨h1, P, R, S, h2, h3, h4, rfl⟩ | ⟨h1, h2, P, R, h3, h4, rfl⟩ | ⟨h1, h2, h3, P0, P1, P2, P3, h4, h5, h6, h7, rfl⟩
  · exact absurd hk (by show ¬ (1 : Int32) = 7; decide)
  · exact absurd hk (by show ¬ (2 : Int32) = 7; decide)
  · exact absurd hk (by show ¬ (3 : Int32) = 7; decide)
  · exact absurd hk (by show ¬ (4 : Int32) = 7; decide)
  · exact absurd hk (by show ¬ (5 : Int32) = 7; decide)
  · exact absurd hk (by show ¬ (6 : Int32) = 7; decide)
  · refine ⟨fun k hk4 => ?_, fun k hk4 => ?_⟩
    · rcases (by omega : k = 0 ∨ k = 1 ∨ k = 2 ∨ k = 3) with rfl | rfl | rfl | rfl <;> rfl
    · rcases (by omega : k = 0 ∨ k = 1 ∨ k = 2 ∨ k = 3) with rfl | rfl | rfl | rfl
      · exact tv_pv h4
      · exact tv_pv h5
      · exact tv_pv h6
      · exact tv_pv h7
theorem MT_sec {f : Nat → Int32} {A : Nat → Nat → Int32} {T : List Tm} {DL : List (Int32 × Int32)} {G W : Tm → Prop} (hM : MT f A T DL G W) {Y : Tm} (h : Y ∈ T) (hk : kd Y = 1) : ∃ m d p, m < DL.length ∧ DL[m]? = some (d, p) ∧ Y = Tsec (nI m) d p := by
  obtain ⟨i, h⟩ := List.getElem?_of_mem h
  have q := (MT_row hM (MT_pos hM h (kd_nz hk (by decide))) h).2
  rcases q with ⟨h1, h2, h3, m, d, p, h4, h5, rfl⟩ | ⟨h1, h2, h3, P, h4, h5, rfl⟩ | ⟨h1, h2, P, R, h3, h4, h5, h6, rfl⟩ | ⟨h1, P, R, h2, h3, rfl⟩ | ⟨h1, P, R, S, h2, h3, h4, rfl⟩ | ⟨h1, h2, P, R, h3, h4, rfl⟩ | ⟨h1, h2, h3, P0, P1, P2, P3, h4, h5, h6, h7, rfl⟩
  · exact ⟨m, d, p, (List.getElem?_eq_some_iff.mp h5).1, h5, rfl⟩
  · exact absurd hk (by show ¬ (2 : Int32) = 1; decide)
  · exact absurd hk (by show ¬ (3 : Int32) = 1; decide)
  · exact absurd hk (by show ¬ (4 : Int32) = 1; decide)
  · exact absurd hk (by show ¬ (5 : Int32) = 1; decide)
  · exact absurd hk (by show ¬ (6 : Int32) = 1; decide)
  · exact absurd hk (by show ¬ (7 : Int32) = 1; decide)
theorem MT_DL {f : Nat → Int32} {A : Nat → Nat → Int32} {T : List Tm} {DL : List (Int32 × Int32)} {G W : Tm → Prop} (hM : MT f A T DL G W) {DL' : List (Int32 × Int32)} (hd : DL <+: DL') (hl : DL'.length ≤ 3000) : MT f A T DL' G W := by
  obtain ⟨⟨h1, h2, h3, h4⟩, h5, h6, h7⟩ := hM
  exact ⟨⟨h1, h2, h3, hl⟩, fun i X i0 hX => ⟨(h5 i X i0 hX).1, tkr_mono (List.prefix_refl T) hd (Nat.le_refl i) (h5 i X i0 hX).2⟩, h6, h7⟩
/-- a step that makes at most m terms, q rows -/
def mx (f f1 : Nat → Int32) (A A1 : Nat → Nat → Int32) (T T' : List Tm) (m q : Nat) (DL : List (Int32 × Int32)) (G W : Tm → Prop) : Prop := T <+: T' ∧ T'.length ≤ T.length + m ∧ rc (A1 1) T'.length ≤ rc (A 1) T.length + q ∧ MT (mjF f1 f) (mjA A1 A) T' DL G W
set_option maxRecDepth 100000 in
theorem m_publicOf {sc : tm_X} {d : Nat} {f : Nat → Int32} {A : Nat → Nat → Int32} {T : List Tm} {DL : List (Int32 × Int32)} {G W : Tm → Prop} {x : Int32} {P : Tm} {Q : Int32 → MS → Prop} (hM : MT f A T DL G W) (hl : T.length < 4000) (hr : rc (A 1) T.length < 1000) (hx : tv T x P) (hk : kd P = 1) (kk : ∀ f1 A1 T' r, mx f f1 A A1 T T' 1 0 DL G W → tv T' r (Tpub P) → Q r (mjF f1 f, mjA A1 A)) : mGi sc (d + 3) 188 [.ref 1482, .int x] (f, A) Q := by
  show mg sc (d + 3) 188 0 [(0, .ref 1482), (1, .int x)] [] (f, A) _
  generalize elv : ([(0, .ref 1482), (1, .int x)] : tm_L) = lv
  have l0 : lv.lookup 0 = some (.ref 1482) := by rw [← elv]; rfl
  have l1 : lv.lookup 1 = some (.int x) := by rw [← elv]; rfl
  clear elv
  refine m_ald (pc' := 1) cd_Mo_publicOf rfl (Or.inr ⟨_, rfl, rfl, rfl⟩) l0 rfl rfl ?_
  refine m_k1 (v := 2) (pc' := 2) cd_Mo_publicOf rfl (by decide) rfl ?_
  refine m_ild (pc' := 3) cd_Mo_publicOf rfl (Or.inr ⟨_, rfl, rfl, rfl⟩) l1 rfl ?_
  refine m_k1 (v := 0) (pc' := 4) cd_Mo_publicOf rfl (by decide) rfl ?_
  refine m_k1 (v := 0) (pc' := 5) cd_Mo_publicOf rfl (by decide) rfl ?_
  refine m_ci (pc' := 8) cd_Mo_publicOf rfl rfl rfl rfl rfl cd_Mo_term rfl (Nat.le_of_ble_eq_true rfl) (m_term (X := (Tpub P)) hM (Or.inr (Or.inl ⟨rfl, rfl, rfl, P, pv_tv hx, hk, rfl⟩)) hl hr (fun q => absurd (show (2 : Int32) = 1 from q) (by decide)) (fun f1 A1 T' i h1 h2 h3 h4 _ h5 => ?_))
  show mg _ _ _ 8 _ [.int (nI i)] _ _
  exact m_reti cd_Mo_publicOf rfl ⟨_, rfl, (kk f1 A1 T' _ ⟨h1, h2, h3, h5⟩ ⟨i, rfl, h4⟩)⟩
set_option maxRecDepth 100000 in
theorem m_mix {sc : tm_X} {d : Nat} {f : Nat → Int32} {A : Nat → Nat → Int32} {T : List Tm} {DL : List (Int32 × Int32)} {G W : Tm → Prop} {n x y : Int32} {P R : Tm} {Q : Int32 → MS → Prop} (hM : MT f A T DL G W) (hl : T.length < 4000) (hr : rc (A 1) T.length < 1000) (hx : tv T x P) (hy : tv T y R) (kk : ∀ f1 A1 T' r, mx f f1 A A1 T T' 1 0 DL G W → tv T' r (Tmx n P R) → Q r (mjF f1 f, mjA A1 A)) : mGi sc (d + 3) 220 [.ref 1482, .int n, .int x, .int y] (f, A) Q := by
  show mg sc (d + 3) 220 0 [(0, .ref 1482), (1, .int n), (2, .int x), (3, .int y)] [] (f, A) _
  generalize elv : ([(0, .ref 1482), (1, .int n), (2, .int x), (3, .int y)] : tm_L) = lv
  have l0 : lv.lookup 0 = some (.ref 1482) := by rw [← elv]; rfl
  have l1 : lv.lookup 1 = some (.int n) := by rw [← elv]; rfl
  have l2 : lv.lookup 2 = some (.int x) := by rw [← elv]; rfl
  have l3 : lv.lookup 3 = some (.int y) := by rw [← elv]; rfl
  clear elv
  refine m_ald (pc' := 1) cd_Mo_mix rfl (Or.inr ⟨_, rfl, rfl, rfl⟩) l0 rfl rfl ?_
  refine m_k1 (v := 4) (pc' := 2) cd_Mo_mix rfl (by decide) rfl ?_
  refine m_ild (pc' := 3) cd_Mo_mix rfl (Or.inr ⟨_, rfl, rfl, rfl⟩) l1 rfl ?_
  refine m_ild (pc' := 4) cd_Mo_mix rfl (Or.inr ⟨_, rfl, rfl, rfl⟩) l2 rfl ?_
  refine m_ild (pc' := 5) cd_Mo_mix rfl (Or.inr ⟨_, rfl, rfl, rfl⟩) l3 rfl ?_
  refine m_ci (pc' := 8) cd_Mo_mix rfl rfl rfl rfl rfl cd_Mo_term rfl (Nat.le_of_ble_eq_true rfl) (m_term (X := (Tmx n P R)) hM (Or.inr (Or.inr (Or.inr (Or.inl ⟨rfl, P, R, pv_tv hx, pv_tv hy, rfl⟩)))) hl hr (fun q => absurd (show (4 : Int32) = 1 from q) (by decide)) (fun f1 A1 T' i h1 h2 h3 h4 _ h5 => ?_))
  show mg _ _ _ 8 _ [.int (nI i)] _ _
  exact m_reti cd_Mo_mix rfl ⟨_, rfl, (kk f1 A1 T' _ ⟨h1, h2, h3, h5⟩ ⟨i, rfl, h4⟩)⟩
theorem m_sealed {sc : tm_X} {d : Nat} {f : Nat → Int32} {A : Nat → Nat → Int32} {T : List Tm} {DL : List (Int32 × Int32)} {G W : Tm → Prop} {x y z : Int32} {P R S : Tm} {Q : Int32 → MS → Prop} (hM : MT f A T DL G W) (hl : T.length < 4000) (hr : rc (A 1) T.length < 1000) (hx : tv T x P) (hy : tv T y R) (hz : tv T z S) (hxz : P ≠ tz) (hyz : R ≠ tz) (hzz : S ≠ tz) (kk : ∀ f1 A1 T' r, mx f f1 A A1 T T' 1 0 DL G W → tv T' r (Tsl P R S) → Q r (mjF f1 f, mjA A1 A)) : mGi sc (d + 2) 180 [.ref 1482, .int 5, .int x, .int y, .int z] (f, A) Q := m_term (X := Tsl P R S) hM (Or.inr (Or.inr (Or.inr (Or.inr (Or.inl ⟨rfl, P, R, S, ⟨pv_tv hx, hxz⟩, ⟨pv_tv hy, hyz⟩, ⟨pv_tv hz, hzz⟩, rfl⟩))))) hl hr (fun q => absurd (show (5 : Int32) = 1 from q) (by decide)) (fun f1 A1 T' i h1 h2 h3 h4 _ h5 => kk f1 A1 T' _ ⟨h1, h2, h3, h5⟩ ⟨i, rfl, h4⟩)
theorem m_signed {sc : tm_X} {d : Nat} {f : Nat → Int32} {A : Nat → Nat → Int32} {T : List Tm} {DL : List (Int32 × Int32)} {G W : Tm → Prop} {x y : Int32} {P R : Tm} {Q : Int32 → MS → Prop} (hM : MT f A T DL G W) (hl : T.length < 4000) (hr : rc (A 1) T.length < 1000) (hx : tv T x P) (hy : tv T y R) (hxz : P ≠ tz) (hyz : R ≠ tz) (kk : ∀ f1 A1 T' r, mx f f1 A A1 T T' 1 0 DL G W → tv T' r (Tsg P R) → Q r (mjF f1 f, mjA A1 A)) : mGi sc (d + 2) 180 [.ref 1482, .int 6, .int x, .int y, .int 0] (f, A) Q := m_term (X := Tsg P R) hM (Or.inr (Or.inr (Or.inr (Or.inr (Or.inr (Or.inl ⟨rfl, rfl, P, R, ⟨pv_tv hx, hxz⟩, ⟨pv_tv hy, hyz⟩, rfl⟩)))))) hl hr (fun q => absurd (show (6 : Int32) = 1 from q) (by decide)) (fun f1 A1 T' i h1 h2 h3 h4 _ h5 => kk f1 A1 T' _ ⟨h1, h2, h3, h5⟩ ⟨i, rfl, h4⟩)
theorem m_row {sc : tm_X} {d : Nat} {f : Nat → Int32} {A : Nat → Nat → Int32} {T : List Tm} {DL : List (Int32 × Int32)} {G W : Tm → Prop} {k : Int32} {P0 P1 P2 P3 : Tm} {Q : Int32 → MS → Prop} (hM : MT f A T DL G W) (hl : T.length < 4000) (hr : rc (A 1) T.length < 1000) (h0 : tv T (A 9 4) P0) (h1 : tv T (A 9 5) P1) (h2 : tv T (A 9 6) P2) (h3 : tv T (A 9 7) P3) (kk : ∀ f1 A1 T' r, mx f f1 A A1 T T' 1 1 DL G W → tv T' r (Trw k (A 9 0) (A 9 1) (A 9 2) (A 9 3) P0 P1 P2 P3) → Q r (mjF f1 f, mjA A1 A)) : mGi sc (d + 2) 180 [.ref 1482, .int 7, .int k, .int 0, .int 0] (f, A) Q := m_term (X := Trw k (A 9 0) (A 9 1) (A 9 2) (A 9 3) P0 P1 P2 P3) hM (Or.inr (Or.inr (Or.inr (Or.inr (Or.inr (Or.inr ⟨rfl, rfl, rfl, P0, P1, P2, P3, pv_tv h0, pv_tv h1, pv_tv h2, pv_tv h3, rfl⟩)))))) hl hr (fun q => absurd (show (7 : Int32) = 1 from q) (by decide)) (fun f1 A1 T' i h1 h2 h3 h4 _ h5 => kk f1 A1 T' _ ⟨h1, h2, h3, h5⟩ ⟨i, rfl, h4⟩)
set_option maxRecDepth 100000 in
theorem m_shared {sc : tm_X} {d : Nat} {f : Nat → Int32} {A : Nat → Nat → Int32} {T : List Tm} {DL : List (Int32 × Int32)} {G W : Tm → Prop} {x y : Int32} {P R : Tm} {Q : Int32 → MS → Prop} (hM : MT f A T DL G W) (hl : T.length < 4000) (hr : rc (A 1) T.length < 1000) (hx : tv T x P) (hy : tv T y R) (hk : kd P = 1) (hk2 : kd R = 1) (kk : ∀ f1 A1 T' r, mx f f1 A A1 T T' 1 0 DL G W → tv T' r (Tsh P R) → Q r (mjF f1 f, mjA A1 A)) : mGi sc (d + 3) 218 [.ref 1482, .int x, .int y] (f, A) Q := by
  have hord : ∀ {u v : Int32} {U V : Tm}, tv T u U → tv T v V → kd U = 1 → kd V = 1 → u < v → mk U < mk V := fun {u v U V} hu hv ku kv huv => by
    obtain ⟨i, rfl, hi, hu⟩ := tv_ix hu
    obtain ⟨j, rfl, hj, hv⟩ := tv_ix hv
    have hlen := MT_len hM
    exact hM.2.2.2.1 i j U V ((nI_ltI (by omega) (by omega)).mp huv) hu hv ku kv
  show mg sc (d + 3) 218 0 [(0, .ref 1482), (1, .int x), (2, .int y)] [] (f, A) _
  generalize elv : ([(0, .ref 1482), (1, .int x), (2, .int y)] : tm_L) = lv
  have l0 : lv.lookup 0 = some (.ref 1482) := by rw [← elv]; rfl
  have l1 : lv.lookup 1 = some (.int x) := by rw [← elv]; rfl
  have l2 : lv.lookup 2 = some (.int y) := by rw [← elv]; rfl
  clear elv
  refine m_ild (pc' := 1) cd_Mo_shared rfl (Or.inr ⟨_, rfl, rfl, rfl⟩) l1 rfl ?_
  refine m_ild (pc' := 2) cd_Mo_shared rfl (Or.inr ⟨_, rfl, rfl, rfl⟩) l2 rfl ?_
  refine m_if2 (t := 16) (pc' := 5) cd_Mo_shared rfl rfl rfl (fun c2 => ?_) (fun c2 => ?_)
  · have c2 : y ≤ x := c2
    refine m_ald (pc' := 17) cd_Mo_shared rfl (Or.inr ⟨_, rfl, rfl, rfl⟩) l0 rfl rfl ?_
    refine m_k1 (v := 3) (pc' := 18) cd_Mo_shared rfl (by decide) rfl ?_
    refine m_ild (pc' := 19) cd_Mo_shared rfl (Or.inr ⟨_, rfl, rfl, rfl⟩) l2 rfl ?_
    refine m_ild (pc' := 20) cd_Mo_shared rfl (Or.inr ⟨_, rfl, rfl, rfl⟩) l1 rfl ?_
    refine m_k1 (v := 0) (pc' := 21) cd_Mo_shared rfl (by decide) rfl ?_
    have e : Tsh P R = Tsh0 R P := by
      by_cases q : y = x
      · subst q; have e2 := MT_fun hM hx hy; subst e2; exact if_neg Int32.lt_irrefl
      · exact if_pos (hord hy hx hk2 hk (by rcases Int32.lt_or_eq_of_le c2 with z | z; exact z; exact absurd z q))
    refine m_ci (pc' := 24) cd_Mo_shared rfl rfl rfl rfl rfl cd_Mo_term rfl (Nat.le_of_ble_eq_true rfl) (m_term (X := Tsh0 R P) hM (Or.inr (Or.inr (Or.inl ⟨rfl, rfl, R, P, pv_tv hy, pv_tv hx, hk2, hk, rfl⟩))) hl hr (fun q => absurd (show (3 : Int32) = 1 from q) (by decide)) (fun f1 A1 T' i h1 h2 h3 h4 _ h5 => ?_))
    show mg _ _ _ 24 _ [.int (nI i)] _ _
    exact m_reti cd_Mo_shared rfl ⟨_, rfl, (kk f1 A1 T' _ ⟨h1, h2, h3, h5⟩ ⟨i, rfl, by rw [e]; exact h4⟩)⟩
  · have c2 : ¬ y ≤ x := c2
    refine m_ald (pc' := 6) cd_Mo_shared rfl (Or.inr ⟨_, rfl, rfl, rfl⟩) l0 rfl rfl ?_
    refine m_k1 (v := 3) (pc' := 7) cd_Mo_shared rfl (by decide) rfl ?_
    refine m_ild (pc' := 8) cd_Mo_shared rfl (Or.inr ⟨_, rfl, rfl, rfl⟩) l1 rfl ?_
    refine m_ild (pc' := 9) cd_Mo_shared rfl (Or.inr ⟨_, rfl, rfl, rfl⟩) l2 rfl ?_
    refine m_k1 (v := 0) (pc' := 10) cd_Mo_shared rfl (by decide) rfl ?_
    have e : Tsh P R = Tsh0 P R := if_neg (Int32.lt_asymm (hord hx hy hk hk2 (Int32.not_le.mp c2)))
    refine m_ci (pc' := 13) cd_Mo_shared rfl rfl rfl rfl rfl cd_Mo_term rfl (Nat.le_of_ble_eq_true rfl) (m_term (X := Tsh0 P R) hM (Or.inr (Or.inr (Or.inl ⟨rfl, rfl, P, R, pv_tv hx, pv_tv hy, hk, hk2, rfl⟩))) hl hr (fun q => absurd (show (3 : Int32) = 1 from q) (by decide)) (fun f1 A1 T' i h1 h2 h3 h4 _ h5 => ?_))
    show mg _ _ _ 13 _ [.int (nI i)] _ _
    refine m_pure (pc' := 24) (st' := [.int (nI i)]) cd_Mo_shared rfl rfl (fun _ _ => rfl) ?_
    exact m_reti cd_Mo_shared rfl ⟨_, rfl, (kk f1 A1 T' _ ⟨h1, h2, h3, h5⟩ ⟨i, rfl, by rw [e]; exact h4⟩)⟩
set_option maxRecDepth 100000 in
theorem m_rowOf {sc : tm_X} {d : Nat} {f : Nat → Int32} {A : Nat → Nat → Int32} {T : List Tm} {DL : List (Int32 × Int32)} {G W : Tm → Prop} {k n0 n1 n2 n3 x y : Int32} {P R : Tm} {Q : Int32 → MS → Prop} (hM : MT f A T DL G W) (hl : T.length < 4000) (hr : rc (A 1) T.length < 1000) (hx : tv T x P) (hy : tv T y R) (kk : ∀ f1 A1 T' r g, mx f f1 (fset A 9 g) A1 T T' 1 1 DL G W → tv T' r (Trw k n0 n1 n2 n3 P R tz tz) → Q r (mjF f1 f, mjA A1 (fset A 9 g))) : mGi sc (d + 3) 208 [.ref 1482, .int k, .int n0, .int n1, .int n2, .int n3, .int x, .int y] (f, A) Q := by
  show mg sc (d + 3) 208 0 [(0, .ref 1482), (1, .int k), (2, .int n0), (3, .int n1), (4, .int n2), (5, .int n3), (6, .int x), (7, .int y)] [] (f, A) _
  generalize elv : ([(0, .ref 1482), (1, .int k), (2, .int n0), (3, .int n1), (4, .int n2), (5, .int n3), (6, .int x), (7, .int y)] : tm_L) = lv
  have l0 : lv.lookup 0 = some (.ref 1482) := by rw [← elv]; rfl
  have l1 : lv.lookup 1 = some (.int k) := by rw [← elv]; rfl
  have l2 : lv.lookup 2 = some (.int n0) := by rw [← elv]; rfl
  have l3 : lv.lookup 3 = some (.int n1) := by rw [← elv]; rfl
  have l4 : lv.lookup 4 = some (.int n2) := by rw [← elv]; rfl
  have l5 : lv.lookup 5 = some (.int n3) := by rw [← elv]; rfl
  have l6 : lv.lookup 6 = some (.int x) := by rw [← elv]; rfl
  have l7 : lv.lookup 7 = some (.int y) := by rw [← elv]; rfl
  clear elv
  refine m_ald (pc' := 1) cd_Mo_rowOf rfl (Or.inr ⟨_, rfl, rfl, rfl⟩) l0 rfl rfl ?_
  refine m_fR (r := 8) (a := 9) (ad := 1491) (pc' := 4) rfl rfl cd_Mo_rowOf rfl rfl rfl rfl rfl ?_
  refine m_k1 (v := 0) (pc' := 5) cd_Mo_rowOf rfl (by decide) rfl ?_
  refine m_ild (pc' := 6) cd_Mo_rowOf rfl (Or.inr ⟨_, rfl, rfl, rfl⟩) l2 rfl ?_
  refine m_aS (r := 8) (a := 9) (g := (A 9)) (p := 0) (pc' := 7) rfl rfl cd_Mo_rowOf rfl rfl rfl (vp_in_nI (n := 0) (by decide) (by decide)) (by decide) ?_
  refine m_ald (pc' := 8) cd_Mo_rowOf rfl (Or.inr ⟨_, rfl, rfl, rfl⟩) l0 rfl rfl ?_
  refine m_fR (r := 8) (a := 9) (ad := 1491) (pc' := 11) rfl rfl cd_Mo_rowOf rfl rfl rfl rfl rfl ?_
  refine m_k1 (v := 1) (pc' := 12) cd_Mo_rowOf rfl (by decide) rfl ?_
  refine m_ild (pc' := 13) cd_Mo_rowOf rfl (Or.inr ⟨_, rfl, rfl, rfl⟩) l3 rfl ?_
  refine m_aS (r := 8) (a := 9) (g := (upd (A 9) 0 n0)) (p := 1) (pc' := 14) rfl rfl cd_Mo_rowOf rfl rfl rfl (vp_in_nI (n := 1) (by decide) (by decide)) (by decide) ?_
  rw [fset_fset]
  refine m_ald (pc' := 15) cd_Mo_rowOf rfl (Or.inr ⟨_, rfl, rfl, rfl⟩) l0 rfl rfl ?_
  refine m_fR (r := 8) (a := 9) (ad := 1491) (pc' := 18) rfl rfl cd_Mo_rowOf rfl rfl rfl rfl rfl ?_
  refine m_k1 (v := 2) (pc' := 19) cd_Mo_rowOf rfl (by decide) rfl ?_
  refine m_ild (pc' := 21) cd_Mo_rowOf rfl (Or.inl ⟨rfl, rfl⟩) l4 rfl ?_
  refine m_aS (r := 8) (a := 9) (g := (upd (upd (A 9) 0 n0) 1 n1)) (p := 2) (pc' := 22) rfl rfl cd_Mo_rowOf rfl rfl rfl (vp_in_nI (n := 2) (by decide) (by decide)) (by decide) ?_
  rw [fset_fset]
  refine m_ald (pc' := 23) cd_Mo_rowOf rfl (Or.inr ⟨_, rfl, rfl, rfl⟩) l0 rfl rfl ?_
  refine m_fR (r := 8) (a := 9) (ad := 1491) (pc' := 26) rfl rfl cd_Mo_rowOf rfl rfl rfl rfl rfl ?_
  refine m_k1 (v := 3) (pc' := 27) cd_Mo_rowOf rfl (by decide) rfl ?_
  refine m_ild (pc' := 29) cd_Mo_rowOf rfl (Or.inl ⟨rfl, rfl⟩) l5 rfl ?_
  refine m_aS (r := 8) (a := 9) (g := (upd (upd (upd (A 9) 0 n0) 1 n1) 2 n2)) (p := 3) (pc' := 30) rfl rfl cd_Mo_rowOf rfl rfl rfl (vp_in_nI (n := 3) (by decide) (by decide)) (by decide) ?_
  rw [fset_fset]
  refine m_ald (pc' := 31) cd_Mo_rowOf rfl (Or.inr ⟨_, rfl, rfl, rfl⟩) l0 rfl rfl ?_
  refine m_fR (r := 8) (a := 9) (ad := 1491) (pc' := 34) rfl rfl cd_Mo_rowOf rfl rfl rfl rfl rfl ?_
  refine m_k1 (v := 4) (pc' := 35) cd_Mo_rowOf rfl (by decide) rfl ?_
  refine m_ild (pc' := 37) cd_Mo_rowOf rfl (Or.inl ⟨rfl, rfl⟩) l6 rfl ?_
  refine m_aS (r := 8) (a := 9) (g := (upd (upd (upd (upd (A 9) 0 n0) 1 n1) 2 n2) 3 n3)) (p := 4) (pc' := 38) rfl rfl cd_Mo_rowOf rfl rfl rfl (vp_in_nI (n := 4) (by decide) (by decide)) (by decide) ?_
  rw [fset_fset]
  refine m_ald (pc' := 39) cd_Mo_rowOf rfl (Or.inr ⟨_, rfl, rfl, rfl⟩) l0 rfl rfl ?_
  refine m_fR (r := 8) (a := 9) (ad := 1491) (pc' := 42) rfl rfl cd_Mo_rowOf rfl rfl rfl rfl rfl ?_
  refine m_k1 (v := 5) (pc' := 43) cd_Mo_rowOf rfl (by decide) rfl ?_
  refine m_ild (pc' := 45) cd_Mo_rowOf rfl (Or.inl ⟨rfl, rfl⟩) l7 rfl ?_
  refine m_aS (r := 8) (a := 9) (g := (upd (upd (upd (upd (upd (A 9) 0 n0) 1 n1) 2 n2) 3 n3) 4 x)) (p := 5) (pc' := 46) rfl rfl cd_Mo_rowOf rfl rfl rfl (vp_in_nI (n := 5) (by decide) (by decide)) (by decide) ?_
  rw [fset_fset]
  refine m_ald (pc' := 47) cd_Mo_rowOf rfl (Or.inr ⟨_, rfl, rfl, rfl⟩) l0 rfl rfl ?_
  refine m_fR (r := 8) (a := 9) (ad := 1491) (pc' := 50) rfl rfl cd_Mo_rowOf rfl rfl rfl rfl rfl ?_
  refine m_k2 (v := 6) (pc' := 52) cd_Mo_rowOf rfl (by decide) rfl ?_
  refine m_k1 (v := 0) (pc' := 53) cd_Mo_rowOf rfl (by decide) rfl ?_
  refine m_aS (r := 8) (a := 9) (g := (upd (upd (upd (upd (upd (upd (A 9) 0 n0) 1 n1) 2 n2) 3 n3) 4 x) 5 y)) (p := 6) (pc' := 54) rfl rfl cd_Mo_rowOf rfl rfl rfl (vp_in_nI (n := 6) (by decide) (by decide)) (by decide) ?_
  rw [fset_fset]
  refine m_ald (pc' := 55) cd_Mo_rowOf rfl (Or.inr ⟨_, rfl, rfl, rfl⟩) l0 rfl rfl ?_
  refine m_fR (r := 8) (a := 9) (ad := 1491) (pc' := 58) rfl rfl cd_Mo_rowOf rfl rfl rfl rfl rfl ?_
  refine m_k2 (v := 7) (pc' := 60) cd_Mo_rowOf rfl (by decide) rfl ?_
  refine m_k1 (v := 0) (pc' := 61) cd_Mo_rowOf rfl (by decide) rfl ?_
  refine m_aS (r := 8) (a := 9) (g := (upd (upd (upd (upd (upd (upd (upd (A 9) 0 n0) 1 n1) 2 n2) 3 n3) 4 x) 5 y) 6 0)) (p := 7) (pc' := 62) rfl rfl cd_Mo_rowOf rfl rfl rfl (vp_in_nI (n := 7) (by decide) (by decide)) (by decide) ?_
  rw [fset_fset]
  refine m_ald (pc' := 63) cd_Mo_rowOf rfl (Or.inr ⟨_, rfl, rfl, rfl⟩) l0 rfl rfl ?_
  refine m_k2 (v := 7) (pc' := 65) cd_Mo_rowOf rfl (by decide) rfl ?_
  refine m_ild (pc' := 66) cd_Mo_rowOf rfl (Or.inr ⟨_, rfl, rfl, rfl⟩) l1 rfl ?_
  refine m_k1 (v := 0) (pc' := 67) cd_Mo_rowOf rfl (by decide) rfl ?_
  refine m_k1 (v := 0) (pc' := 68) cd_Mo_rowOf rfl (by decide) rfl ?_
  refine m_ci (pc' := 71) cd_Mo_rowOf rfl rfl rfl rfl rfl cd_Mo_term rfl (Nat.le_of_ble_eq_true rfl) (m_row hM hl hr hx hy (MT_z hM) (MT_z hM) (fun f1 A1 T' r h1 h2 => ?_))
  show mg _ _ _ 71 _ [.int r] _ _
  exact m_reti cd_Mo_rowOf rfl ⟨_, rfl, (kk f1 A1 T' r _ ⟨h1.1, h1.2.1, h1.2.2.1, h1.2.2.2⟩ h2)⟩
