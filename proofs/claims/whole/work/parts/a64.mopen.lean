/-! The reference: open, derive -/
def opn (W : Tm → Prop) (X : Tm) : Prop := (kd X = 7 → hs W (pt X 0) ∧ hs W (pt X 1) ∧ hs W (pt X 2) ∧ hs W (pt X 3)) ∧ (kd X = 6 → hs W (pt X 1)) ∧ (kd X = 5 → hs W (pt X 1) ∧ (W (pt X 0) → hs W (pt X 2)))
theorem hs_mono {W W' : Tm → Prop} (h : ∀ y, W y → W' y) {P : Tm} (q : hs W P) : hs W' P := q.imp_right (h P)
theorem opn7 {W : Tm → Prop} {X : Tm} (h : kd X = 7) (q : hs W (pt X 0) ∧ hs W (pt X 1) ∧ hs W (pt X 2) ∧ hs W (pt X 3)) : opn W X := ⟨fun _ => q, fun e => absurd (h.symm.trans e) (by decide), fun e => absurd (h.symm.trans e) (by decide)⟩
theorem opn6 {W : Tm → Prop} {X : Tm} (h : kd X = 6) (q : hs W (pt X 1)) : opn W X := ⟨fun e => absurd (h.symm.trans e) (by decide), fun _ => q, fun e => absurd (h.symm.trans e) (by decide)⟩
theorem opn5 {W : Tm → Prop} {X : Tm} (h : kd X = 5) (q : hs W (pt X 1) ∧ (W (pt X 0) → hs W (pt X 2))) : opn W X := ⟨fun e => absurd (h.symm.trans e) (by decide), fun e => absurd (h.symm.trans e) (by decide), fun _ => q⟩
theorem opnN {W : Tm → Prop} {X : Tm} (h5 : kd X ≠ 5) (h6 : kd X ≠ 6) (h7 : kd X ≠ 7) : opn W X := ⟨fun e => absurd e h7, fun e => absurd e h6, fun e => absurd e h5⟩
/-- what one learning does: A to A1 -/
def lrn (f : Nat → Int32) (A : Nat → Nat → Int32) (T : List Tm) (DL : List (Int32 × Int32)) (G W : Tm → Prop) (A1 : Nat → Nat → Int32) (W1 : Tm → Prop) (b : Bool) : Prop := MT f A1 T DL G W1 ∧ (∀ y, W y → W1 y) ∧ (∀ j, j ≠ 6 → A1 j = A j) ∧ (b = false → A1 = A ∧ W1 = W) ∧ (b = true → unk (A1 6) T.length < unk (A 6) T.length) ∧ ((∀ y, W y → Kn G y) → ∀ y, W1 y → Kn G y)
theorem lrn_0 {f : Nat → Int32} {A : Nat → Nat → Int32} {T : List Tm} {DL : List (Int32 × Int32)} {G W : Tm → Prop} (hM : MT f A T DL G W) : lrn f A T DL G W A W false := ⟨hM, fun _ h => h, fun _ _ => rfl, fun _ => ⟨rfl, rfl⟩, fun q => (nomatch q), fun h => h⟩
theorem lrn_tr {f : Nat → Int32} {A : Nat → Nat → Int32} {A1 A2 : Nat → Nat → Int32} {T : List Tm} {DL : List (Int32 × Int32)} {G W W1 W2 : Tm → Prop} {b c : Bool} (h : lrn f A T DL G W A1 W1 b) (h2 : lrn f A1 T DL G W1 A2 W2 c) : lrn f A T DL G W A2 W2 (c || b) := by
  obtain ⟨a1, a2, a3, a4, a5, a6⟩ := h
  obtain ⟨b1, b2, b3, b4, b5, b6⟩ := h2
  refine ⟨b1, fun y q => b2 y (a2 y q), fun j hj => (b3 j hj).trans (a3 j hj), fun q => ?_, fun q => ?_, fun q => b6 (a6 q)⟩
  · cases b
    · cases c
      · exact ⟨(b4 rfl).1.trans (a4 rfl).1, (b4 rfl).2.trans (a4 rfl).2⟩
      · exact nomatch q
    · cases c <;> exact nomatch q
  · cases c
    · cases b
      · exact nomatch q
      · rw [(b4 rfl).1]; exact a5 rfl
    · have h1 := b5 rfl
      cases b
      · rw [(a4 rfl).1] at h1; exact h1
      · exact Nat.lt_trans h1 (a5 rfl)
theorem m_learnL {sc : tm_X} {d : Nat} {f : Nat → Int32} {A : Nat → Nat → Int32} {T : List Tm} {DL : List (Int32 × Int32)} {G W : Tm → Prop} {p : Nat} {P : Tm} {Q : Int32 → MS → Prop} (hM : MT f A T DL G W) (hP : T[p]? = some P) (hs0 : (∀ y, W y → Kn G y) → P ≠ tz → Kn G P) (kk : ∀ A1 W1 b, lrn f A T DL G W A1 W1 b → hs W1 P → Q (bz b) (f, A1)) : mGi sc (d + 0) 275 [.ref 1482, .int (nI p)] (f, A) Q := by
  refine m_learn hM hP (fun h => ?_) (fun A1 h1 hz hu hj => ?_)
  · exact kk A W false (lrn_0 hM) h
  · exact kk A1 _ true ⟨h1, fun _ => Or.inl, hj, fun q => (nomatch q), fun _ => hu, fun h y hy => hy.elim (h y) (fun e => e ▸ hs0 h hz)⟩ (Or.inr (Or.inr rfl))
theorem bor_t {b : Bool} : (true || b) = true := rfl
theorem Kn_7 {G : Tm → Prop} {X : Tm} (h : Kn G X) (k : kd X = 7) {i : Nat} (hi : i < 4) : Kn G (pt X i) := (Kn_clo G).2.2.1 X h k i hi
theorem Kn_6 {G : Tm → Prop} {X : Tm} (h : Kn G X) (k : kd X = 6) : Kn G (pt X 1) := (Kn_clo G).2.2.2.1 X h k
theorem Kn_5 {G : Tm → Prop} {X : Tm} (h : Kn G X) (k : kd X = 5) : Kn G (pt X 1) ∧ (Kn G (pt X 0) → Kn G (pt X 2)) := (Kn_clo G).2.2.2.2 X h k
theorem cm_snd {f : Nat → Int32} {A : Nat → Nat → Int32} {T : List Tm} {DL : List (Int32 × Int32)} {G W : Tm → Prop} (hM : MT f A T DL G W) {i : Nat} {X : Tm} (hi0 : 0 < i) (hX : T[i]? = some X) (c : cm W X) (h : ∀ y, W y → Kn G y) : Kn G X := by
  have hz : Kn G tz := (Kn_clo G).1
  have hS : ∀ P, hs W P → Kn G P := fun P q => q.elim (fun e => e ▸ hz) (h P)
  have hp : ∀ P, hpb W P → Kn G (Tpub P) := fun P q => q.elim (fun e => (Kn_clo G).2.1 _ (Or.inr ⟨show (2 : Int32) ≠ 3 by decide, show (2 : Int32) ≠ 1 by decide, h P e, hz, hz, hz⟩)) (h _)
  refine (Kn_clo G).2.1 _ ?_
  rcases MT_can hM hi0 hX with ⟨hw, k1, -⟩ | ⟨hw, P, ⟨p, a1, a2, a3⟩, kP, rfl⟩ | ⟨hw, P, R, ⟨p, a1, a2, a3⟩, ⟨r, b1, b2, b3⟩, kP, kR, rfl⟩ | ⟨hw, n, P, R, ⟨p, a1, a2, a3⟩, ⟨r, b1, b2, b3⟩, rfl⟩ | ⟨hw, P, R, S, ⟨⟨p, a1, a2, a3⟩, a4⟩, ⟨⟨r, b1, b2, b3⟩, b4⟩, ⟨⟨u, c1, c2, c3⟩, c4⟩, rfl⟩ | ⟨hw, P, R, ⟨⟨p, a1, a2, a3⟩, a4⟩, ⟨⟨r, b1, b2, b3⟩, b4⟩, rfl⟩ | ⟨hw, n, n0, n1, n2, n3, P0, P1, P2, P3, ⟨p, a1, a2, a3⟩, ⟨r, b1, b2, b3⟩, ⟨u, c1, c2, c3⟩, ⟨x, d1, d2, d3⟩, rfl⟩
  · exact absurd c (cm1 k1)
  · exact Or.inr ⟨show (2 : Int32) ≠ 3 by decide, show (2 : Int32) ≠ 1 by decide, h _ ((cm2 rfl).mp c), hz, hz, hz⟩
  · exact Or.inl ⟨rfl, ((cm3 rfl).mp c).imp (fun q => ⟨h _ q.1, hp _ q.2⟩) (fun q => ⟨h _ q.1, hp _ q.2⟩)⟩
  · have q := (cm4 (show kd (Tmx n P R) = 4 from rfl)).mp c
    exact Or.inr ⟨show (4 : Int32) ≠ 3 by decide, show (4 : Int32) ≠ 1 by decide, hS _ q.1, hS _ q.2, hz, hz⟩
  · have q := (cm5 (show kd (Tsl P R S) = 5 from rfl)).mp c
    exact Or.inr ⟨show (5 : Int32) ≠ 3 by decide, show (5 : Int32) ≠ 1 by decide, h _ q.1, h _ q.2.1, h _ q.2.2, hz⟩
  · have q := (cm6 (show kd (Tsg P R) = 6 from rfl)).mp c
    exact Or.inr ⟨show (6 : Int32) ≠ 3 by decide, show (6 : Int32) ≠ 1 by decide, h _ q.1, h _ q.2, hz, hz⟩
  · have q := (cm7 (show kd (Trw n n0 n1 n2 n3 P0 P1 P2 P3) = 7 from rfl)).mp c
    exact Or.inr ⟨show (7 : Int32) ≠ 3 by decide, show (7 : Int32) ≠ 1 by decide, hS _ q.1, hS _ q.2.1, hS _ q.2.2.1, hS _ q.2.2.2⟩
def cl1 (G W : Tm → Prop) (X : Tm) : Prop := (G X ∨ cm W X → W X) ∧ (W X → opn W X)
/-- closed among the live: all that is derived -/
theorem MT_all {f : Nat → Int32} {A : Nat → Nat → Int32} {T : List Tm} {DL : List (Int32 × Int32)} {G W : Tm → Prop} (hM : MT f A T DL G W) (hs1 : ∀ y, W y → Kn G y) (hc : ∀ (i : Nat) (X : Tm), 0 < i → T[i]? = some X → cl1 G W X) : ∀ X, X ∈ T → X ≠ tz → (W X ↔ Kn G X) := by
  intro X hX hXz
  refine ⟨hs1 X, fun hK => ?_⟩
  have live : ∀ y, y ∈ T → y ≠ tz → cl1 G W y := fun y hy hz => by
    obtain ⟨i, hi⟩ := List.getElem?_of_mem hy
    exact hc i y (MT_pos hM hi hz) hi
  have hWT := hM.2.2.2.2.2.2
  have hGT := hM.2.2.2.2.2.1
  have hK1 : ∀ y, y ∈ T → (y = tz ∨ W y ∨ ∃ s, W s ∧ kd s = 1 ∧ y = Tpub s) → hs W y := fun y hy h => by
    rcases h with h | h | ⟨s, h1, h2, rfl⟩
    · exact Or.inl h
    · exact Or.inr h
    · exact Or.inr ((live _ hy (Tpub_nz _)).1 (Or.inr ((cm2 rfl).mpr h1)))
  have hW1 : ∀ y, kd y ≠ 2 → (W y ∨ ∃ s, W s ∧ kd s = 1 ∧ y = Tpub s) → W y := fun y hy h => by
    rcases h with h | ⟨s, h1, h2, rfl⟩
    · exact h
    · exact absurd rfl hy
  have pvm : ∀ {i : Nat} {x : Int32} {P : Tm}, pv T i x P → P ∈ T := fun h => by
    obtain ⟨p, -, -, h⟩ := h
    exact List.mem_of_getElem? h
  have toL : ∀ y, hs W y → y = tz ∨ W y ∨ ∃ s, W s ∧ kd s = 1 ∧ y = Tpub s := fun y h => h.imp_right Or.inl
  obtain ⟨i0, hi0⟩ := List.getElem?_of_mem hX
  have key := Kn_all (G := G) (fun y => W y ∨ ∃ s, W s ∧ kd s = 1 ∧ y = Tpub s) (fun y u => (∃ i : Nat, T[i]? = some y ∧ u = 2 * i) ∨ ∃ (i : Nat) (s : Tm), T[i]? = some s ∧ kd s = 1 ∧ y = Tpub s ∧ u = 2 * i + 1) ?_ ?_ ?_ ?_ ?_ ?_ ?_ ?_ (u := 2 * i0) (A := X) (Or.inl ⟨i0, hi0, rfl⟩) hK
  · rcases key with e | e
    · exact absurd e hXz
    · exact ((hK1 X hX (Or.inr e)).resolve_left hXz)
  · rintro y u (⟨i, hi, rfl⟩ | ⟨i, s, hi, k1, rfl, rfl⟩)
    · by_cases hz : y = tz
      · exact Or.inl hz
      · have h0 := MT_pos hM hi hz
        have z0 : ∃ v, v < 2 * i ∧ ((∃ j : Nat, T[j]? = some tz ∧ v = 2 * j) ∨ ∃ (j : Nat) (s : Tm), T[j]? = some s ∧ kd s = 1 ∧ tz = Tpub s ∧ v = 2 * j + 1) := ⟨0, by omega, Or.inl ⟨0, hM.1.2.2.1.1, rfl⟩⟩
        have g : ∀ {x : Int32} {P : Tm}, pv T i x P → ∃ v, v < 2 * i ∧ ((∃ j : Nat, T[j]? = some P ∧ v = 2 * j) ∨ ∃ (j : Nat) (s : Tm), T[j]? = some s ∧ kd s = 1 ∧ P = Tpub s ∧ v = 2 * j + 1) := fun h => by
          obtain ⟨p, -, hp, hP⟩ := h
          exact ⟨2 * p, by omega, Or.inl ⟨p, hP, rfl⟩⟩
        have g2 : ∀ {x : Int32} {P : Tm}, pv T i x P → kd P = 1 → ∃ v, v < 2 * i ∧ ((∃ j : Nat, T[j]? = some (Tpub P) ∧ v = 2 * j) ∨ ∃ (j : Nat) (s : Tm), T[j]? = some s ∧ kd s = 1 ∧ Tpub P = Tpub s ∧ v = 2 * j + 1) := fun h k => by
          obtain ⟨p, -, hp, hP⟩ := h
          exact ⟨2 * p + 1, by omega, Or.inr ⟨p, _, hP, k, rfl, rfl⟩⟩
        refine Or.inr fun k hk => ?_
        rcases MT_can hM h0 hi with ⟨hw, k1, k2⟩ | ⟨hw, P, a1, kP, rfl⟩ | ⟨hw, P, R, a1, b1, kP, kR, rfl⟩ | ⟨hw, n, P, R, a1, b1, rfl⟩ | ⟨hw, P, R, S, a1, b1, c1, rfl⟩ | ⟨hw, P, R, a1, b1, rfl⟩ | ⟨hw, n, n0, n1, n2, n3, P0, P1, P2, P3, a1, b1, c1, d1, rfl⟩
        · rw [k2 k]; exact z0
        all_goals rcases (by omega : k = 0 ∨ k = 1 ∨ k = 2 ∨ k = 3) with rfl | rfl | rfl | rfl
        · exact g a1
        · exact z0
        · exact z0
        · exact z0
        · exact g a1
        · exact g b1
        · exact g2 a1 kP
        · exact g2 b1 kR
        · exact g a1
        · exact g b1
        · exact z0
        · exact z0
        · exact g a1.1
        · exact g b1.1
        · exact g c1.1
        · exact z0
        · exact g a1.1
        · exact g b1.1
        · exact z0
        · exact z0
        · exact g a1
        · exact g b1
        · exact g c1
        · exact g d1
    · refine Or.inr fun k hk => ?_
      rcases (by omega : k = 0 ∨ k = 1 ∨ k = 2 ∨ k = 3) with rfl | rfl | rfl | rfl
      · exact ⟨2 * i, by omega, Or.inl ⟨i, hi, rfl⟩⟩
      all_goals exact ⟨0, by omega, Or.inl ⟨0, hM.1.2.2.1.1, rfl⟩⟩
  · rintro y (h | ⟨s, h1, h2, rfl⟩)
    · obtain ⟨i, hi⟩ := List.getElem?_of_mem (hWT y h).1
      exact ⟨2 * i, Or.inl ⟨i, hi, rfl⟩⟩
    · obtain ⟨i, hi⟩ := List.getElem?_of_mem (hWT s h1).1
      exact ⟨2 * i + 1, Or.inr ⟨i, s, hi, h2, rfl, rfl⟩⟩
  · intro y hy
    exact Or.inr (Or.inl ((live y (hGT y hy).1 (hGT y hy).2).1 (Or.inl hy)))
  · rintro y u (⟨i, hi, rfl⟩ | ⟨i, s, hi, k1, rfl, rfl⟩) hz c
    · have h0 := MT_pos hM hi hz
      have hy := List.mem_of_getElem? hi
      refine Or.inl ((live y hy hz).1 (Or.inr ?_))
      rcases MT_can hM h0 hi with ⟨hw, k1, k2⟩ | ⟨hw, P, a1, kP, rfl⟩ | ⟨hw, P, R, a1, b1, kP, kR, rfl⟩ | ⟨hw, n, P, R, a1, b1, rfl⟩ | ⟨hw, P, R, S, a1, b1, c1, rfl⟩ | ⟨hw, P, R, a1, b1, rfl⟩ | ⟨hw, n, n0, n1, n2, n3, P0, P1, P2, P3, a1, b1, c1, d1, rfl⟩
      · rcases c with c | c
        · exact absurd (k1.symm.trans c.1) (by decide)
        · exact absurd k1 c.2.1
      · rcases c with c | ⟨-, -, c0, -⟩
        · exact absurd c.1 (show ¬ (2 : Int32) = 3 by decide)
        · exact (cm2 rfl).mpr ((hK1 P (pvm a1) c0).resolve_left (kd1_nz kP))
      · rcases c with ⟨-, c⟩ | c
        · have hP : ∀ Z, kd Z = 1 → Z ∈ T → (Z = tz ∨ W Z ∨ ∃ s, W s ∧ kd s = 1 ∧ Z = Tpub s) → W Z := fun Z kZ hZ h => (hK1 Z hZ h).resolve_left (kd1_nz kZ)
          have hb : ∀ Z, (Tpub Z = tz ∨ W (Tpub Z) ∨ ∃ s, W s ∧ kd s = 1 ∧ Tpub Z = Tpub s) → hpb W Z := fun Z h => by
            rcases h with h | h | ⟨s, h1, h2, h3⟩
            · exact absurd h (Tpub_nz _)
            · exact Or.inr h
            · have := congrArg (fun z => pt z 0) h3
              exact Or.inl ((show Z = s from this) ▸ h1)
          exact (cm3 rfl).mpr (c.imp (fun q => ⟨hP P kP (pvm a1) q.1, hb R q.2⟩) (fun q => ⟨hP R kR (pvm b1) q.1, hb P q.2⟩))
        · exact absurd rfl c.1
      · rcases c with c | ⟨-, -, c0, c1, -⟩
        · exact absurd c.1 (show ¬ (4 : Int32) = 3 by decide)
        · exact (cm4 rfl).mpr ⟨hK1 P (pvm a1) c0, hK1 R (pvm b1) c1⟩
      · rcases c with c | ⟨-, -, c0, c2, c3, -⟩
        · exact absurd c.1 (show ¬ (5 : Int32) = 3 by decide)
        · exact (cm5 rfl).mpr ⟨(hK1 P (pvm a1.1) c0).resolve_left a1.2, (hK1 R (pvm b1.1) c2).resolve_left b1.2, (hK1 S (pvm c1.1) c3).resolve_left c1.2⟩
      · rcases c with c | ⟨-, -, c0, c2, -⟩
        · exact absurd c.1 (show ¬ (6 : Int32) = 3 by decide)
        · exact (cm6 rfl).mpr ⟨(hK1 P (pvm a1.1) c0).resolve_left a1.2, (hK1 R (pvm b1.1) c2).resolve_left b1.2⟩
      · rcases c with c | ⟨-, -, q0, q1, q2, q3⟩
        · exact absurd c.1 (show ¬ (7 : Int32) = 3 by decide)
        · exact (cm7 rfl).mpr ⟨hK1 P0 (pvm a1) q0, hK1 P1 (pvm b1) q1, hK1 P2 (pvm c1) q2, hK1 P3 (pvm d1) q3⟩
    · rcases c with c | ⟨-, -, c0, -⟩
      · exact absurd c.1 (show ¬ (2 : Int32) = 3 by decide)
      · exact Or.inr ⟨s, (hK1 s (List.mem_of_getElem? hi) c0).resolve_left (kd1_nz k1), k1, rfl⟩
  · intro y k h k7 hk
    have hw := hW1 y (by rw [k7]; decide) h
    have q := ((live y (hWT y hw).1 (hWT y hw).2).2 hw).1 k7
    rcases (by omega : k = 0 ∨ k = 1 ∨ k = 2 ∨ k = 3) with rfl | rfl | rfl | rfl
    · exact toL _ q.1
    · exact toL _ q.2.1
    · exact toL _ q.2.2.1
    · exact toL _ q.2.2.2
  · intro y h k6
    have hw := hW1 y (by rw [k6]; decide) h
    exact toL _ (((live y (hWT y hw).1 (hWT y hw).2).2 hw).2.1 k6)
  · intro y h k5
    have hw := hW1 y (by rw [k5]; decide) h
    exact toL _ (((live y (hWT y hw).1 (hWT y hw).2).2 hw).2.2 k5).1
  · intro y h k5 h0
    have hw := hW1 y (by rw [k5]; decide) h
    have q := ((live y (hWT y hw).1 (hWT y hw).2).2 hw).2.2 k5
    obtain ⟨i, hi⟩ := List.getElem?_of_mem (hWT y hw).1
    rcases MT_can hM (MT_pos hM hi (hWT y hw).2) hi with ⟨hw, k1, k2⟩ | ⟨hw, P, a1, kP, rfl⟩ | ⟨hw, P, R, a1, b1, kP, kR, rfl⟩ | ⟨hw, n, P, R, a1, b1, rfl⟩ | ⟨hw, P, R, S, a1, b1, c1, rfl⟩ | ⟨hw, P, R, a1, b1, rfl⟩ | ⟨hw, n, n0, n1, n2, n3, P0, P1, P2, P3, a1, b1, c1, d1, rfl⟩
    · exact absurd (k1.symm.trans k5) (by decide)
    · exact absurd k5 (show ¬ (2 : Int32) = 5 by decide)
    · exact absurd k5 (show ¬ (3 : Int32) = 5 by decide)
    · exact absurd k5 (show ¬ (4 : Int32) = 5 by decide)
    · exact toL _ (q.2 ((hK1 P (pvm a1.1) h0).resolve_left a1.2))
    · exact absurd k5 (show ¬ (6 : Int32) = 5 by decide)
    · exact absurd k5 (show ¬ (7 : Int32) = 5 by decide)
set_option maxRecDepth 100000 in
theorem m_open {sc : tm_X} {d : Nat} {f : Nat → Int32} {A : Nat → Nat → Int32} {T : List Tm} {DL : List (Int32 × Int32)} {G W : Tm → Prop} {i : Nat} {X : Tm} {Q : Int32 → MS → Prop} (hM : MT f A T DL G W) (hX : T[i]? = some X) (hi0 : 0 < i) (hK : (∀ y, W y → Kn G y) → Kn G X) (kk : ∀ A1 W1 b, lrn f A T DL G W A1 W1 b → opn W1 X → Q (bz b) (f, A1)) : mGi sc (d + 1) 276 [.ref 1482, .int (nI i)] (f, A) Q := by
  have hL := MT_len hM
  have hil := tv_lt hX
  have hw := MT_kd hM hX
  by_cases k5 : kd X = 5
  · skip
    rcases MT_can hM hi0 hX with q | q | q | q | ⟨-, P, R, S, ⟨⟨p, a1, a2, a3⟩, a4⟩, ⟨⟨r, b1, b2, b3⟩, b4⟩, ⟨⟨u, c1, c2, c3⟩, c4⟩, rfl⟩ | q | q
    · exact absurd (q.1.symm.trans (hw.trans k5)) (by decide)
    · exact absurd (q.1.symm.trans (hw.trans k5)) (by decide)
    · exact absurd (q.1.symm.trans (hw.trans k5)) (by decide)
    · exact absurd (q.1.symm.trans (hw.trans k5)) (by decide)
    rotate_left
    · exact absurd (q.1.symm.trans (hw.trans k5)) (by decide)
    · exact absurd (q.1.symm.trans (hw.trans k5)) (by decide)
    have hpl := tv_lt a3
    have hp0 := MT_pos hM a3 a4
    show mg sc (d + 1) 276 0 [(0, .ref 1482), (1, .int (nI i))] [] (f, A) _
    generalize elv : ([(0, .ref 1482), (1, .int (nI i))] : tm_L) = lv
    have l0 : lv.lookup 0 = some (.ref 1482) := by rw [← elv]; rfl
    have l1 : lv.lookup 1 = some (.int (nI i)) := by rw [← elv]; rfl
    clear elv
    refine m_k1 (v := 0) (pc' := 1) cd_Mo_open rfl (by decide) rfl ?_
    refine m_ist (pc' := 2) cd_Mo_open rfl (Or.inr ⟨_, rfl, rfl, rfl⟩) (by decide) rfl (fun lv el => ?_)
    have l0 := tm_lk el l0 rfl (by decide)
    have l1 := tm_lk el l1 rfl (by decide)
    have l2 : lv.lookup 2 = some (.int 0) := tm_lks el
    clear el
    refine m_ald (pc' := 3) cd_Mo_open rfl (Or.inr ⟨_, rfl, rfl, rfl⟩) l0 rfl rfl ?_
    refine m_fR (r := 0) (a := 1) (ad := 1483) (pc' := 6) rfl rfl cd_Mo_open rfl rfl rfl rfl rfl ?_
    refine m_ild (pc' := 7) cd_Mo_open rfl (Or.inr ⟨_, rfl, rfl, rfl⟩) l1 rfl ?_
    refine m_aI (r := 0) (a := 1) (g := (A 1)) (x := 5) (pc' := 8) rfl rfl cd_Mo_open rfl rfl rfl (vp_in_nI (by omega) (by decide)) (by rw [(nI_clamp (by omega))]; exact hw.trans k5) ?_
    refine m_pure (pc' := 75) (st' := []) cd_Mo_open rfl rfl (fun _ _ => rfl) ?_
    refine m_ald (pc' := 76) cd_Mo_open rfl (Or.inr ⟨_, rfl, rfl, rfl⟩) l0 rfl rfl ?_
    refine m_ald (pc' := 77) cd_Mo_open rfl (Or.inr ⟨_, rfl, rfl, rfl⟩) l0 rfl rfl ?_
    refine m_fR (r := 2) (a := 3) (ad := 1485) (pc' := 80) rfl rfl cd_Mo_open rfl rfl rfl rfl rfl ?_
    refine m_ild (pc' := 81) cd_Mo_open rfl (Or.inr ⟨_, rfl, rfl, rfl⟩) l1 rfl ?_
    refine m_aI (r := 2) (a := 3) (g := (A 3)) (x := nI r) (pc' := 82) rfl rfl cd_Mo_open rfl rfl rfl (vp_in_nI (by omega) (by decide)) (by rw [(nI_clamp (by omega))]; exact b1) ?_
    refine m_ci (pc' := 85) cd_Mo_open rfl rfl rfl rfl rfl cd_Mo_learn rfl (Nat.le_of_ble_eq_true rfl) (m_learnL hM b3 (fun hy _ => (Kn_5 (hK hy) rfl).1) (fun A1 W1 g1 hL1 hs1 => ?_))
    have hU1 : ∀ y, W y → W1 y := hL1.2.1
    have hT1 := hL1
    show mg _ _ _ 85 _ [.int (bz g1)] _ _
    refine m_ist (pc' := 86) cd_Mo_open rfl (Or.inr ⟨_, rfl, rfl, rfl⟩) (by decide) rfl (fun lv el => ?_)
    have l0 := tm_lk el l0 rfl (by decide)
    have l1 := tm_lk el l1 rfl (by decide)
    have l2 : lv.lookup 2 = some (.int (bz g1)) := tm_lks el
    clear el
    refine m_ald (pc' := 87) cd_Mo_open rfl (Or.inr ⟨_, rfl, rfl, rfl⟩) l0 rfl rfl ?_
    refine m_fR (r := 5) (a := 6) (ad := 1488) (pc' := 90) rfl rfl cd_Mo_open rfl rfl rfl rfl rfl ?_
    refine m_ald (pc' := 91) cd_Mo_open rfl (Or.inr ⟨_, rfl, rfl, rfl⟩) l0 rfl rfl ?_
    refine m_fR (r := 1) (a := 2) (ad := 1484) (pc' := 94) rfl rfl cd_Mo_open rfl rfl rfl rfl rfl ?_
    refine m_ild (pc' := 95) cd_Mo_open rfl (Or.inr ⟨_, rfl, rfl, rfl⟩) l1 rfl ?_
    refine m_aI (r := 1) (a := 2) (g := (A1 2)) (x := nI p) (pc' := 96) rfl rfl cd_Mo_open rfl rfl rfl (vp_in_nI (by omega) (by decide)) (by rw [(nI_clamp (by omega))]; rw [hL1.2.2.1 2 (by decide)]; exact a1) ?_
    refine m_bI (r := 5) (a := 6) (g := (A1 6)) (x := (cif (W1 P) (1 : Int32) 0)) (pc' := 97) rfl rfl cd_Mo_open rfl rfl rfl (vp_in_nI (by omega) (by decide)) (by rw [(nI_clamp (by omega))]; exact MT_kn hL1.1 hp0 a3) ?_
    refine m_if1 (t := 113) (pc' := 100) cd_Mo_open rfl rfl rfl (fun c97 => ?_) (fun c97 => ?_)
    · have c97 : (cif (W1 P) (1 : Int32) 0) = 0 := c97
      refine m_ild (pc' := 114) cd_Mo_open rfl (Or.inr ⟨_, rfl, rfl, rfl⟩) l2 rfl ?_
      refine m_if1 (t := 121) (pc' := 117) cd_Mo_open rfl rfl rfl (fun c114 => ?_) (fun c114 => ?_)
      · have c114 : g1 = false := bz_f c114
        refine m_k1 (v := 0) (pc' := 122) cd_Mo_open rfl (by decide) rfl ?_
        exact m_retz cd_Mo_open rfl (by decide) ⟨_, rfl, (by have k2 := kk _ _ _ hT1 (opn5 rfl ⟨hs1, fun q => absurd q (cz c97)⟩); rw [c114] at k2; exact k2)⟩
      · have c114 : g1 = true := bz_t c114
        refine m_k1 (v := 1) (pc' := 118) cd_Mo_open rfl (by decide) rfl ?_
        refine m_pure (pc' := 122) (st' := [.int 1]) cd_Mo_open rfl rfl (fun _ _ => rfl) ?_
        exact m_retz cd_Mo_open rfl (by decide) ⟨_, rfl, (by have k2 := kk _ _ _ hT1 (opn5 rfl ⟨hs1, fun q => absurd q (cz c97)⟩); rw [c114] at k2; exact k2)⟩
    · have c97 : ¬ (cif (W1 P) (1 : Int32) 0) = 0 := c97
      refine m_ald (pc' := 101) cd_Mo_open rfl (Or.inr ⟨_, rfl, rfl, rfl⟩) l0 rfl rfl ?_
      refine m_ald (pc' := 102) cd_Mo_open rfl (Or.inr ⟨_, rfl, rfl, rfl⟩) l0 rfl rfl ?_
      refine m_fR (r := 3) (a := 4) (ad := 1486) (pc' := 105) rfl rfl cd_Mo_open rfl rfl rfl rfl rfl ?_
      refine m_ild (pc' := 106) cd_Mo_open rfl (Or.inr ⟨_, rfl, rfl, rfl⟩) l1 rfl ?_
      refine m_aI (r := 3) (a := 4) (g := (A1 4)) (x := nI u) (pc' := 107) rfl rfl cd_Mo_open rfl rfl rfl (vp_in_nI (by omega) (by decide)) (by rw [(nI_clamp (by omega))]; rw [hL1.2.2.1 4 (by decide)]; exact c1) ?_
      refine m_ci (pc' := 110) cd_Mo_open rfl rfl rfl rfl rfl cd_Mo_learn rfl (Nat.le_of_ble_eq_true rfl) (m_learnL hL1.1 c3 (fun hy _ => by have hz : ∀ y, W y → Kn G y := fun y q => hy y (hU1 y q); exact (Kn_5 (hK hz) rfl).2 (hy _ (cnz c97))) (fun A2 W2 g2 hL2 hs2 => ?_))
      have hU2 : ∀ y, W y → W2 y := fun y q => hL2.2.1 y (hU1 y q)
      have hT2 := lrn_tr hT1 hL2
      show mg _ _ _ 110 _ [.int (bz g2)] _ _
      refine m_if1 (t := 117) (pc' := 113) cd_Mo_open rfl rfl rfl (fun c110 => ?_) (fun c110 => ?_)
      · have c110 : g2 = true := bz_t c110
        refine m_k1 (v := 1) (pc' := 118) cd_Mo_open rfl (by decide) rfl ?_
        refine m_pure (pc' := 122) (st' := [.int 1]) cd_Mo_open rfl rfl (fun _ _ => rfl) ?_
        exact m_retz cd_Mo_open rfl (by decide) ⟨_, rfl, (by have k2 := kk _ _ _ hT2 (opn5 rfl ⟨hs_mono hL2.2.1 hs1, fun _ => hs2⟩); rw [c110] at k2; exact k2)⟩
      · have c110 : g2 = false := bz_f (Classical.not_not.mp c110)
        refine m_ild (pc' := 114) cd_Mo_open rfl (Or.inr ⟨_, rfl, rfl, rfl⟩) l2 rfl ?_
        refine m_if1 (t := 121) (pc' := 117) cd_Mo_open rfl rfl rfl (fun c114 => ?_) (fun c114 => ?_)
        · have c114 : g1 = false := bz_f c114
          refine m_k1 (v := 0) (pc' := 122) cd_Mo_open rfl (by decide) rfl ?_
          exact m_retz cd_Mo_open rfl (by decide) ⟨_, rfl, (by have k2 := kk _ _ _ hT2 (opn5 rfl ⟨hs_mono hL2.2.1 hs1, fun _ => hs2⟩); rw [c110, c114] at k2; exact k2)⟩
        · have c114 : g1 = true := bz_t c114
          refine m_k1 (v := 1) (pc' := 118) cd_Mo_open rfl (by decide) rfl ?_
          refine m_pure (pc' := 122) (st' := [.int 1]) cd_Mo_open rfl rfl (fun _ _ => rfl) ?_
          exact m_retz cd_Mo_open rfl (by decide) ⟨_, rfl, (by have k2 := kk _ _ _ hT2 (opn5 rfl ⟨hs_mono hL2.2.1 hs1, fun _ => hs2⟩); rw [c110, c114] at k2; exact k2)⟩
  by_cases k6 : kd X = 6
  · skip
    rcases MT_can hM hi0 hX with q | q | q | q | q | ⟨-, P, R, ⟨⟨p, a1, a2, a3⟩, a4⟩, ⟨⟨r, b1, b2, b3⟩, b4⟩, rfl⟩ | q
    · exact absurd (q.1.symm.trans (hw.trans k6)) (by decide)
    · exact absurd (q.1.symm.trans (hw.trans k6)) (by decide)
    · exact absurd (q.1.symm.trans (hw.trans k6)) (by decide)
    · exact absurd (q.1.symm.trans (hw.trans k6)) (by decide)
    · exact absurd (q.1.symm.trans (hw.trans k6)) (by decide)
    rotate_left
    · exact absurd (q.1.symm.trans (hw.trans k6)) (by decide)
    show mg sc (d + 1) 276 0 [(0, .ref 1482), (1, .int (nI i))] [] (f, A) _
    generalize elv : ([(0, .ref 1482), (1, .int (nI i))] : tm_L) = lv
    have l0 : lv.lookup 0 = some (.ref 1482) := by rw [← elv]; rfl
    have l1 : lv.lookup 1 = some (.int (nI i)) := by rw [← elv]; rfl
    clear elv
    refine m_k1 (v := 0) (pc' := 1) cd_Mo_open rfl (by decide) rfl ?_
    refine m_ist (pc' := 2) cd_Mo_open rfl (Or.inr ⟨_, rfl, rfl, rfl⟩) (by decide) rfl (fun lv el => ?_)
    have l0 := tm_lk el l0 rfl (by decide)
    have l1 := tm_lk el l1 rfl (by decide)
    have l2 : lv.lookup 2 = some (.int 0) := tm_lks el
    clear el
    refine m_ald (pc' := 3) cd_Mo_open rfl (Or.inr ⟨_, rfl, rfl, rfl⟩) l0 rfl rfl ?_
    refine m_fR (r := 0) (a := 1) (ad := 1483) (pc' := 6) rfl rfl cd_Mo_open rfl rfl rfl rfl rfl ?_
    refine m_ild (pc' := 7) cd_Mo_open rfl (Or.inr ⟨_, rfl, rfl, rfl⟩) l1 rfl ?_
    refine m_aI (r := 0) (a := 1) (g := (A 1)) (x := 6) (pc' := 8) rfl rfl cd_Mo_open rfl rfl rfl (vp_in_nI (by omega) (by decide)) (by rw [(nI_clamp (by omega))]; exact hw.trans k6) ?_
    refine m_pure (pc' := 123) (st' := []) cd_Mo_open rfl rfl (fun _ _ => rfl) ?_
    refine m_ald (pc' := 124) cd_Mo_open rfl (Or.inr ⟨_, rfl, rfl, rfl⟩) l0 rfl rfl ?_
    refine m_ald (pc' := 125) cd_Mo_open rfl (Or.inr ⟨_, rfl, rfl, rfl⟩) l0 rfl rfl ?_
    refine m_fR (r := 2) (a := 3) (ad := 1485) (pc' := 128) rfl rfl cd_Mo_open rfl rfl rfl rfl rfl ?_
    refine m_ild (pc' := 129) cd_Mo_open rfl (Or.inr ⟨_, rfl, rfl, rfl⟩) l1 rfl ?_
    refine m_aI (r := 2) (a := 3) (g := (A 3)) (x := nI r) (pc' := 130) rfl rfl cd_Mo_open rfl rfl rfl (vp_in_nI (by omega) (by decide)) (by rw [(nI_clamp (by omega))]; exact b1) ?_
    refine m_ci (pc' := 133) cd_Mo_open rfl rfl rfl rfl rfl cd_Mo_learn rfl (Nat.le_of_ble_eq_true rfl) (m_learnL hM b3 (fun hy _ => Kn_6 (hK hy) rfl) (fun A1 W1 g1 hL1 hs1 => ?_))
    have hU1 : ∀ y, W y → W1 y := hL1.2.1
    have hT1 := hL1
    show mg _ _ _ 133 _ [.int (bz g1)] _ _
    exact m_retz cd_Mo_open rfl (bz_01 _) ⟨_, rfl, kk _ _ _ hT1 (opn6 rfl hs1)⟩
  by_cases k7 : kd X = 7
  · skip
    rcases MT_can hM hi0 hX with q | q | q | q | q | q | ⟨-, n, n0, n1, n2, n3, P0, P1, P2, P3, ⟨p, a1, a2, a3⟩, ⟨r, b1, b2, b3⟩, ⟨u, c1, c2, c3⟩, ⟨x, d1, d2, d3⟩, rfl⟩
    · exact absurd (q.1.symm.trans (hw.trans k7)) (by decide)
    · exact absurd (q.1.symm.trans (hw.trans k7)) (by decide)
    · exact absurd (q.1.symm.trans (hw.trans k7)) (by decide)
    · exact absurd (q.1.symm.trans (hw.trans k7)) (by decide)
    · exact absurd (q.1.symm.trans (hw.trans k7)) (by decide)
    · exact absurd (q.1.symm.trans (hw.trans k7)) (by decide)
    show mg sc (d + 1) 276 0 [(0, .ref 1482), (1, .int (nI i))] [] (f, A) _
    generalize elv : ([(0, .ref 1482), (1, .int (nI i))] : tm_L) = lv
    have l0 : lv.lookup 0 = some (.ref 1482) := by rw [← elv]; rfl
    have l1 : lv.lookup 1 = some (.int (nI i)) := by rw [← elv]; rfl
    clear elv
    refine m_k1 (v := 0) (pc' := 1) cd_Mo_open rfl (by decide) rfl ?_
    refine m_ist (pc' := 2) cd_Mo_open rfl (Or.inr ⟨_, rfl, rfl, rfl⟩) (by decide) rfl (fun lv el => ?_)
    have l0 := tm_lk el l0 rfl (by decide)
    have l1 := tm_lk el l1 rfl (by decide)
    have l2 : lv.lookup 2 = some (.int 0) := tm_lks el
    clear el
    refine m_ald (pc' := 3) cd_Mo_open rfl (Or.inr ⟨_, rfl, rfl, rfl⟩) l0 rfl rfl ?_
    refine m_fR (r := 0) (a := 1) (ad := 1483) (pc' := 6) rfl rfl cd_Mo_open rfl rfl rfl rfl rfl ?_
    refine m_ild (pc' := 7) cd_Mo_open rfl (Or.inr ⟨_, rfl, rfl, rfl⟩) l1 rfl ?_
    refine m_aI (r := 0) (a := 1) (g := (A 1)) (x := 7) (pc' := 8) rfl rfl cd_Mo_open rfl rfl rfl (vp_in_nI (by omega) (by decide)) (by rw [(nI_clamp (by omega))]; exact hw.trans k7) ?_
    refine m_pure (pc' := 36) (st' := []) cd_Mo_open rfl rfl (fun _ _ => rfl) ?_
    refine m_k1 (v := 4) (pc' := 37) cd_Mo_open rfl (by decide) rfl ?_
    refine m_ist (pc' := 38) cd_Mo_open rfl (Or.inr ⟨_, rfl, rfl, rfl⟩) (by decide) rfl (fun lv el => ?_)
    have l0 := tm_lk el l0 rfl (by decide)
    have l1 := tm_lk el l1 rfl (by decide)
    have l2 := tm_lk el l2 rfl (by decide)
    have l3 : lv.lookup 3 = some (.int 4) := tm_lks el
    clear el
    refine m_ild (pc' := 39) cd_Mo_open rfl (Or.inr ⟨_, rfl, rfl, rfl⟩) l3 rfl ?_
    refine m_k2 (v := 8) (pc' := 41) cd_Mo_open rfl (by decide) rfl ?_
    refine m_if2 (t := 73) (pc' := 44) cd_Mo_open rfl rfl rfl (fun c41 => ?_) (fun c41 => ?_)
    · exact absurd (show (8 : Int32) ≤ 4 from c41) (by decide)
    · have c41 : ¬ (8 : Int32) ≤ 4 := c41
      refine m_ald (pc' := 45) cd_Mo_open rfl (Or.inr ⟨_, rfl, rfl, rfl⟩) l0 rfl rfl ?_
      refine m_ald (pc' := 46) cd_Mo_open rfl (Or.inr ⟨_, rfl, rfl, rfl⟩) l0 rfl rfl ?_
      refine m_ild (pc' := 47) cd_Mo_open rfl (Or.inr ⟨_, rfl, rfl, rfl⟩) l1 rfl ?_
      refine m_ild (pc' := 48) cd_Mo_open rfl (Or.inr ⟨_, rfl, rfl, rfl⟩) l3 rfl ?_
      refine m_ci (pc' := 51) cd_Mo_open rfl rfl rfl rfl rfl cd_Mo_cell rfl (Nat.le_of_ble_eq_true rfl) (m_cellV (k := 4) (v := nI p) hM hX rfl (by decide) (by exact a1) ?_)
      show mg _ _ _ 51 _ [.int (nI p), .ref 1482] _ _
      refine m_ci (pc' := 54) cd_Mo_open rfl rfl rfl rfl rfl cd_Mo_learn rfl (Nat.le_of_ble_eq_true rfl) (m_learnL hM a3 (fun hy _ => Kn_7 (hK hy) rfl (i := 0) (by decide)) (fun A1 W1 g1 hL1 hs1 => ?_))
      have hU1 : ∀ y, W y → W1 y := hL1.2.1
      have hT1 := hL1
      show mg _ _ _ 54 _ [.int (bz g1)] _ _
      refine m_if1 (t := 61) (pc' := 57) cd_Mo_open rfl rfl rfl (fun c54 => ?_) (fun c54 => ?_)
      · have c54 : g1 = true := bz_t c54
        have x1 := c54
        refine m_k1 (v := 1) (pc' := 62) cd_Mo_open rfl (by decide) rfl ?_
        refine m_pure (pc' := 66) (st' := [.int 1]) cd_Mo_open rfl rfl (fun _ _ => rfl) ?_
        refine m_ist (pc' := 67) cd_Mo_open rfl (Or.inr ⟨_, rfl, rfl, rfl⟩) (by decide) rfl (fun lv el => ?_)
        have l0 := tm_lk el l0 rfl (by decide)
        have l1 := tm_lk el l1 rfl (by decide)
        have l3 := tm_lk el l3 rfl (by decide)
        have l2 : lv.lookup 2 = some (.int 1) := tm_lks el
        clear el
        refine m_inc (y := 5) (pc' := 70) cd_Mo_open rfl l3 (by decide) (by decide) rfl (fun lv el => ?_)
        have l0 := tm_lk el l0 rfl (by decide)
        have l1 := tm_lk el l1 rfl (by decide)
        have l2 := tm_lk el l2 rfl (by decide)
        have l3 : lv.lookup 3 = some (.int 5) := tm_lks el
        clear el
        refine m_pure (pc' := 38) (st' := []) cd_Mo_open rfl rfl (fun _ _ => rfl) ?_
        refine m_ild (pc' := 39) cd_Mo_open rfl (Or.inr ⟨_, rfl, rfl, rfl⟩) l3 rfl ?_
        refine m_k2 (v := 8) (pc' := 41) cd_Mo_open rfl (by decide) rfl ?_
        refine m_if2 (t := 73) (pc' := 44) cd_Mo_open rfl rfl rfl (fun c41 => ?_) (fun c41 => ?_)
        · exact absurd (show (8 : Int32) ≤ 5 from c41) (by decide)
        · have c41 : ¬ (8 : Int32) ≤ 5 := c41
          refine m_ald (pc' := 45) cd_Mo_open rfl (Or.inr ⟨_, rfl, rfl, rfl⟩) l0 rfl rfl ?_
          refine m_ald (pc' := 46) cd_Mo_open rfl (Or.inr ⟨_, rfl, rfl, rfl⟩) l0 rfl rfl ?_
          refine m_ild (pc' := 47) cd_Mo_open rfl (Or.inr ⟨_, rfl, rfl, rfl⟩) l1 rfl ?_
          refine m_ild (pc' := 48) cd_Mo_open rfl (Or.inr ⟨_, rfl, rfl, rfl⟩) l3 rfl ?_
          refine m_ci (pc' := 51) cd_Mo_open rfl rfl rfl rfl rfl cd_Mo_cell rfl (Nat.le_of_ble_eq_true rfl) (m_cellV (k := 5) (v := nI r) hL1.1 hX rfl (by decide) (by rw [hL1.2.2.1 1 (by decide), hL1.2.2.1 7 (by decide)]; exact b1) ?_)
          show mg _ _ _ 51 _ [.int (nI r), .ref 1482] _ _
          refine m_ci (pc' := 54) cd_Mo_open rfl rfl rfl rfl rfl cd_Mo_learn rfl (Nat.le_of_ble_eq_true rfl) (m_learnL hL1.1 b3 (fun h1 _ => by have hy : ∀ y, W y → Kn G y := fun y q => h1 y (hU1 y q); exact Kn_7 (hK hy) rfl (i := 1) (by decide)) (fun A2 W2 g2 hL2 hs2 => ?_))
          have hU2 : ∀ y, W y → W2 y := fun y q => hL2.2.1 y (hU1 y q)
          have hT2 := lrn_tr hT1 hL2
          show mg _ _ _ 54 _ [.int (bz g2)] _ _
          refine m_if1 (t := 61) (pc' := 57) cd_Mo_open rfl rfl rfl (fun c54 => ?_) (fun c54 => ?_)
          · have c54 : g2 = true := bz_t c54
            have x2 := c54
            refine m_k1 (v := 1) (pc' := 62) cd_Mo_open rfl (by decide) rfl ?_
            refine m_pure (pc' := 66) (st' := [.int 1]) cd_Mo_open rfl rfl (fun _ _ => rfl) ?_
            refine m_ist (pc' := 67) cd_Mo_open rfl (Or.inr ⟨_, rfl, rfl, rfl⟩) (by decide) rfl (fun lv el => ?_)
            have l0 := tm_lk el l0 rfl (by decide)
            have l1 := tm_lk el l1 rfl (by decide)
            have l3 := tm_lk el l3 rfl (by decide)
            have l2 : lv.lookup 2 = some (.int 1) := tm_lks el
            clear el
            refine m_inc (y := 6) (pc' := 70) cd_Mo_open rfl l3 (by decide) (by decide) rfl (fun lv el => ?_)
            have l0 := tm_lk el l0 rfl (by decide)
            have l1 := tm_lk el l1 rfl (by decide)
            have l2 := tm_lk el l2 rfl (by decide)
            have l3 : lv.lookup 3 = some (.int 6) := tm_lks el
            clear el
            refine m_pure (pc' := 38) (st' := []) cd_Mo_open rfl rfl (fun _ _ => rfl) ?_
            refine m_ild (pc' := 39) cd_Mo_open rfl (Or.inr ⟨_, rfl, rfl, rfl⟩) l3 rfl ?_
            refine m_k2 (v := 8) (pc' := 41) cd_Mo_open rfl (by decide) rfl ?_
            refine m_if2 (t := 73) (pc' := 44) cd_Mo_open rfl rfl rfl (fun c41 => ?_) (fun c41 => ?_)
            · exact absurd (show (8 : Int32) ≤ 6 from c41) (by decide)
            · have c41 : ¬ (8 : Int32) ≤ 6 := c41
              refine m_ald (pc' := 45) cd_Mo_open rfl (Or.inr ⟨_, rfl, rfl, rfl⟩) l0 rfl rfl ?_
              refine m_ald (pc' := 46) cd_Mo_open rfl (Or.inr ⟨_, rfl, rfl, rfl⟩) l0 rfl rfl ?_
              refine m_ild (pc' := 47) cd_Mo_open rfl (Or.inr ⟨_, rfl, rfl, rfl⟩) l1 rfl ?_
              refine m_ild (pc' := 48) cd_Mo_open rfl (Or.inr ⟨_, rfl, rfl, rfl⟩) l3 rfl ?_
              refine m_ci (pc' := 51) cd_Mo_open rfl rfl rfl rfl rfl cd_Mo_cell rfl (Nat.le_of_ble_eq_true rfl) (m_cellV (k := 6) (v := nI u) hL2.1 hX rfl (by decide) (by rw [hL2.2.2.1 1 (by decide), hL2.2.2.1 7 (by decide), hL1.2.2.1 1 (by decide), hL1.2.2.1 7 (by decide)]; exact c1) ?_)
              show mg _ _ _ 51 _ [.int (nI u), .ref 1482] _ _
              refine m_ci (pc' := 54) cd_Mo_open rfl rfl rfl rfl rfl cd_Mo_learn rfl (Nat.le_of_ble_eq_true rfl) (m_learnL hL2.1 c3 (fun h2 _ => by have hy : ∀ y, W y → Kn G y := fun y q => h2 y (hU2 y q); exact Kn_7 (hK hy) rfl (i := 2) (by decide)) (fun A3 W3 g3 hL3 hs3 => ?_))
              have hU3 : ∀ y, W y → W3 y := fun y q => hL3.2.1 y (hU2 y q)
              have hT3 := lrn_tr hT2 hL3
              show mg _ _ _ 54 _ [.int (bz g3)] _ _
              refine m_if1 (t := 61) (pc' := 57) cd_Mo_open rfl rfl rfl (fun c54 => ?_) (fun c54 => ?_)
              · have c54 : g3 = true := bz_t c54
                have x3 := c54
                refine m_k1 (v := 1) (pc' := 62) cd_Mo_open rfl (by decide) rfl ?_
                refine m_pure (pc' := 66) (st' := [.int 1]) cd_Mo_open rfl rfl (fun _ _ => rfl) ?_
                refine m_ist (pc' := 67) cd_Mo_open rfl (Or.inr ⟨_, rfl, rfl, rfl⟩) (by decide) rfl (fun lv el => ?_)
                have l0 := tm_lk el l0 rfl (by decide)
                have l1 := tm_lk el l1 rfl (by decide)
                have l3 := tm_lk el l3 rfl (by decide)
                have l2 : lv.lookup 2 = some (.int 1) := tm_lks el
                clear el
                refine m_inc (y := 7) (pc' := 70) cd_Mo_open rfl l3 (by decide) (by decide) rfl (fun lv el => ?_)
                have l0 := tm_lk el l0 rfl (by decide)
                have l1 := tm_lk el l1 rfl (by decide)
                have l2 := tm_lk el l2 rfl (by decide)
                have l3 : lv.lookup 3 = some (.int 7) := tm_lks el
                clear el
                refine m_pure (pc' := 38) (st' := []) cd_Mo_open rfl rfl (fun _ _ => rfl) ?_
                refine m_ild (pc' := 39) cd_Mo_open rfl (Or.inr ⟨_, rfl, rfl, rfl⟩) l3 rfl ?_
                refine m_k2 (v := 8) (pc' := 41) cd_Mo_open rfl (by decide) rfl ?_
                refine m_if2 (t := 73) (pc' := 44) cd_Mo_open rfl rfl rfl (fun c41 => ?_) (fun c41 => ?_)
                · exact absurd (show (8 : Int32) ≤ 7 from c41) (by decide)
                · have c41 : ¬ (8 : Int32) ≤ 7 := c41
                  refine m_ald (pc' := 45) cd_Mo_open rfl (Or.inr ⟨_, rfl, rfl, rfl⟩) l0 rfl rfl ?_
                  refine m_ald (pc' := 46) cd_Mo_open rfl (Or.inr ⟨_, rfl, rfl, rfl⟩) l0 rfl rfl ?_
                  refine m_ild (pc' := 47) cd_Mo_open rfl (Or.inr ⟨_, rfl, rfl, rfl⟩) l1 rfl ?_
                  refine m_ild (pc' := 48) cd_Mo_open rfl (Or.inr ⟨_, rfl, rfl, rfl⟩) l3 rfl ?_
                  refine m_ci (pc' := 51) cd_Mo_open rfl rfl rfl rfl rfl cd_Mo_cell rfl (Nat.le_of_ble_eq_true rfl) (m_cellV (k := 7) (v := nI x) hL3.1 hX rfl (by decide) (by rw [hL3.2.2.1 1 (by decide), hL3.2.2.1 7 (by decide), hL2.2.2.1 1 (by decide), hL2.2.2.1 7 (by decide), hL1.2.2.1 1 (by decide), hL1.2.2.1 7 (by decide)]; exact d1) ?_)
                  show mg _ _ _ 51 _ [.int (nI x), .ref 1482] _ _
                  refine m_ci (pc' := 54) cd_Mo_open rfl rfl rfl rfl rfl cd_Mo_learn rfl (Nat.le_of_ble_eq_true rfl) (m_learnL hL3.1 d3 (fun h3 _ => by have hy : ∀ y, W y → Kn G y := fun y q => h3 y (hU3 y q); exact Kn_7 (hK hy) rfl (i := 3) (by decide)) (fun A4 W4 g4 hL4 hs4 => ?_))
                  have hU4 : ∀ y, W y → W4 y := fun y q => hL4.2.1 y (hU3 y q)
                  have hT4 := lrn_tr hT3 hL4
                  show mg _ _ _ 54 _ [.int (bz g4)] _ _
                  refine m_if1 (t := 61) (pc' := 57) cd_Mo_open rfl rfl rfl (fun c54 => ?_) (fun c54 => ?_)
                  · have c54 : g4 = true := bz_t c54
                    have x4 := c54
                    refine m_k1 (v := 1) (pc' := 62) cd_Mo_open rfl (by decide) rfl ?_
                    refine m_pure (pc' := 66) (st' := [.int 1]) cd_Mo_open rfl rfl (fun _ _ => rfl) ?_
                    refine m_ist (pc' := 67) cd_Mo_open rfl (Or.inr ⟨_, rfl, rfl, rfl⟩) (by decide) rfl (fun lv el => ?_)
                    have l0 := tm_lk el l0 rfl (by decide)
                    have l1 := tm_lk el l1 rfl (by decide)
                    have l3 := tm_lk el l3 rfl (by decide)
                    have l2 : lv.lookup 2 = some (.int 1) := tm_lks el
                    clear el
                    refine m_inc (y := 8) (pc' := 70) cd_Mo_open rfl l3 (by decide) (by decide) rfl (fun lv el => ?_)
                    have l0 := tm_lk el l0 rfl (by decide)
                    have l1 := tm_lk el l1 rfl (by decide)
                    have l2 := tm_lk el l2 rfl (by decide)
                    have l3 : lv.lookup 3 = some (.int 8) := tm_lks el
                    clear el
                    refine m_pure (pc' := 38) (st' := []) cd_Mo_open rfl rfl (fun _ _ => rfl) ?_
                    refine m_ild (pc' := 39) cd_Mo_open rfl (Or.inr ⟨_, rfl, rfl, rfl⟩) l3 rfl ?_
                    refine m_k2 (v := 8) (pc' := 41) cd_Mo_open rfl (by decide) rfl ?_
                    refine m_if2 (t := 73) (pc' := 44) cd_Mo_open rfl rfl rfl (fun c41 => ?_) (fun c41 => ?_)
                    · have c41 : (8 : Int32) ≤ 8 := c41
                      refine m_ild (pc' := 74) cd_Mo_open rfl (Or.inr ⟨_, rfl, rfl, rfl⟩) l2 rfl ?_
                      exact m_retz cd_Mo_open rfl (by decide) ⟨_, rfl, (by have k2 := kk _ _ _ hT4 (opn7 rfl ⟨hs_mono hL4.2.1 (hs_mono hL3.2.1 (hs_mono hL2.2.1 hs1)), hs_mono hL4.2.1 (hs_mono hL3.2.1 hs2), hs_mono hL4.2.1 hs3, hs4⟩); simp only [x1, x2, x3, x4] at k2; exact k2)⟩
                    · exact absurd (show ¬ (8 : Int32) ≤ 8 from c41) (by decide)
                  · have c54 : g4 = false := bz_f (Classical.not_not.mp c54)
                    have x4 := c54
                    refine m_ild (pc' := 58) cd_Mo_open rfl (Or.inr ⟨_, rfl, rfl, rfl⟩) l2 rfl ?_
                    refine m_if1 (t := 65) (pc' := 61) cd_Mo_open rfl rfl rfl (fun c58 => ?_) (fun c58 => ?_)
                    · exact absurd (show (1 : Int32) = 0 from c58) (by decide)
                    · have c58 : ¬ (1 : Int32) = 0 := c58
                      refine m_k1 (v := 1) (pc' := 62) cd_Mo_open rfl (by decide) rfl ?_
                      refine m_pure (pc' := 66) (st' := [.int 1]) cd_Mo_open rfl rfl (fun _ _ => rfl) ?_
                      refine m_ist (pc' := 67) cd_Mo_open rfl (Or.inr ⟨_, rfl, rfl, rfl⟩) (by decide) rfl (fun lv el => ?_)
                      have l0 := tm_lk el l0 rfl (by decide)
                      have l1 := tm_lk el l1 rfl (by decide)
                      have l3 := tm_lk el l3 rfl (by decide)
                      have l2 : lv.lookup 2 = some (.int 1) := tm_lks el
                      clear el
                      refine m_inc (y := 8) (pc' := 70) cd_Mo_open rfl l3 (by decide) (by decide) rfl (fun lv el => ?_)
                      have l0 := tm_lk el l0 rfl (by decide)
                      have l1 := tm_lk el l1 rfl (by decide)
                      have l2 := tm_lk el l2 rfl (by decide)
                      have l3 : lv.lookup 3 = some (.int 8) := tm_lks el
                      clear el
                      refine m_pure (pc' := 38) (st' := []) cd_Mo_open rfl rfl (fun _ _ => rfl) ?_
                      refine m_ild (pc' := 39) cd_Mo_open rfl (Or.inr ⟨_, rfl, rfl, rfl⟩) l3 rfl ?_
                      refine m_k2 (v := 8) (pc' := 41) cd_Mo_open rfl (by decide) rfl ?_
                      refine m_if2 (t := 73) (pc' := 44) cd_Mo_open rfl rfl rfl (fun c41 => ?_) (fun c41 => ?_)
                      · have c41 : (8 : Int32) ≤ 8 := c41
                        refine m_ild (pc' := 74) cd_Mo_open rfl (Or.inr ⟨_, rfl, rfl, rfl⟩) l2 rfl ?_
                        exact m_retz cd_Mo_open rfl (by decide) ⟨_, rfl, (by have k2 := kk _ _ _ hT4 (opn7 rfl ⟨hs_mono hL4.2.1 (hs_mono hL3.2.1 (hs_mono hL2.2.1 hs1)), hs_mono hL4.2.1 (hs_mono hL3.2.1 hs2), hs_mono hL4.2.1 hs3, hs4⟩); simp only [x1, x2, x3, x4] at k2; exact k2)⟩
                      · exact absurd (show ¬ (8 : Int32) ≤ 8 from c41) (by decide)
              · have c54 : g3 = false := bz_f (Classical.not_not.mp c54)
                have x3 := c54
                refine m_ild (pc' := 58) cd_Mo_open rfl (Or.inr ⟨_, rfl, rfl, rfl⟩) l2 rfl ?_
                refine m_if1 (t := 65) (pc' := 61) cd_Mo_open rfl rfl rfl (fun c58 => ?_) (fun c58 => ?_)
                · exact absurd (show (1 : Int32) = 0 from c58) (by decide)
                · have c58 : ¬ (1 : Int32) = 0 := c58
                  refine m_k1 (v := 1) (pc' := 62) cd_Mo_open rfl (by decide) rfl ?_
                  refine m_pure (pc' := 66) (st' := [.int 1]) cd_Mo_open rfl rfl (fun _ _ => rfl) ?_
                  refine m_ist (pc' := 67) cd_Mo_open rfl (Or.inr ⟨_, rfl, rfl, rfl⟩) (by decide) rfl (fun lv el => ?_)
                  have l0 := tm_lk el l0 rfl (by decide)
                  have l1 := tm_lk el l1 rfl (by decide)
                  have l3 := tm_lk el l3 rfl (by decide)
                  have l2 : lv.lookup 2 = some (.int 1) := tm_lks el
                  clear el
                  refine m_inc (y := 7) (pc' := 70) cd_Mo_open rfl l3 (by decide) (by decide) rfl (fun lv el => ?_)
                  have l0 := tm_lk el l0 rfl (by decide)
                  have l1 := tm_lk el l1 rfl (by decide)
                  have l2 := tm_lk el l2 rfl (by decide)
                  have l3 : lv.lookup 3 = some (.int 7) := tm_lks el
                  clear el
                  refine m_pure (pc' := 38) (st' := []) cd_Mo_open rfl rfl (fun _ _ => rfl) ?_
                  refine m_ild (pc' := 39) cd_Mo_open rfl (Or.inr ⟨_, rfl, rfl, rfl⟩) l3 rfl ?_
                  refine m_k2 (v := 8) (pc' := 41) cd_Mo_open rfl (by decide) rfl ?_
                  refine m_if2 (t := 73) (pc' := 44) cd_Mo_open rfl rfl rfl (fun c41 => ?_) (fun c41 => ?_)
                  · exact absurd (show (8 : Int32) ≤ 7 from c41) (by decide)
                  · have c41 : ¬ (8 : Int32) ≤ 7 := c41
                    refine m_ald (pc' := 45) cd_Mo_open rfl (Or.inr ⟨_, rfl, rfl, rfl⟩) l0 rfl rfl ?_
                    refine m_ald (pc' := 46) cd_Mo_open rfl (Or.inr ⟨_, rfl, rfl, rfl⟩) l0 rfl rfl ?_
                    refine m_ild (pc' := 47) cd_Mo_open rfl (Or.inr ⟨_, rfl, rfl, rfl⟩) l1 rfl ?_
                    refine m_ild (pc' := 48) cd_Mo_open rfl (Or.inr ⟨_, rfl, rfl, rfl⟩) l3 rfl ?_
                    refine m_ci (pc' := 51) cd_Mo_open rfl rfl rfl rfl rfl cd_Mo_cell rfl (Nat.le_of_ble_eq_true rfl) (m_cellV (k := 7) (v := nI x) hL3.1 hX rfl (by decide) (by rw [hL3.2.2.1 1 (by decide), hL3.2.2.1 7 (by decide), hL2.2.2.1 1 (by decide), hL2.2.2.1 7 (by decide), hL1.2.2.1 1 (by decide), hL1.2.2.1 7 (by decide)]; exact d1) ?_)
                    show mg _ _ _ 51 _ [.int (nI x), .ref 1482] _ _
                    refine m_ci (pc' := 54) cd_Mo_open rfl rfl rfl rfl rfl cd_Mo_learn rfl (Nat.le_of_ble_eq_true rfl) (m_learnL hL3.1 d3 (fun h3 _ => by have hy : ∀ y, W y → Kn G y := fun y q => h3 y (hU3 y q); exact Kn_7 (hK hy) rfl (i := 3) (by decide)) (fun A4 W4 g4 hL4 hs4 => ?_))
                    have hU4 : ∀ y, W y → W4 y := fun y q => hL4.2.1 y (hU3 y q)
                    have hT4 := lrn_tr hT3 hL4
                    show mg _ _ _ 54 _ [.int (bz g4)] _ _
                    refine m_if1 (t := 61) (pc' := 57) cd_Mo_open rfl rfl rfl (fun c54 => ?_) (fun c54 => ?_)
                    · have c54 : g4 = true := bz_t c54
                      have x4 := c54
                      refine m_k1 (v := 1) (pc' := 62) cd_Mo_open rfl (by decide) rfl ?_
                      refine m_pure (pc' := 66) (st' := [.int 1]) cd_Mo_open rfl rfl (fun _ _ => rfl) ?_
                      refine m_ist (pc' := 67) cd_Mo_open rfl (Or.inr ⟨_, rfl, rfl, rfl⟩) (by decide) rfl (fun lv el => ?_)
                      have l0 := tm_lk el l0 rfl (by decide)
                      have l1 := tm_lk el l1 rfl (by decide)
                      have l3 := tm_lk el l3 rfl (by decide)
                      have l2 : lv.lookup 2 = some (.int 1) := tm_lks el
                      clear el
                      refine m_inc (y := 8) (pc' := 70) cd_Mo_open rfl l3 (by decide) (by decide) rfl (fun lv el => ?_)
                      have l0 := tm_lk el l0 rfl (by decide)
                      have l1 := tm_lk el l1 rfl (by decide)
                      have l2 := tm_lk el l2 rfl (by decide)
                      have l3 : lv.lookup 3 = some (.int 8) := tm_lks el
                      clear el
                      refine m_pure (pc' := 38) (st' := []) cd_Mo_open rfl rfl (fun _ _ => rfl) ?_
                      refine m_ild (pc' := 39) cd_Mo_open rfl (Or.inr ⟨_, rfl, rfl, rfl⟩) l3 rfl ?_
                      refine m_k2 (v := 8) (pc' := 41) cd_Mo_open rfl (by decide) rfl ?_
                      refine m_if2 (t := 73) (pc' := 44) cd_Mo_open rfl rfl rfl (fun c41 => ?_) (fun c41 => ?_)
                      · have c41 : (8 : Int32) ≤ 8 := c41
                        refine m_ild (pc' := 74) cd_Mo_open rfl (Or.inr ⟨_, rfl, rfl, rfl⟩) l2 rfl ?_
                        exact m_retz cd_Mo_open rfl (by decide) ⟨_, rfl, (by have k2 := kk _ _ _ hT4 (opn7 rfl ⟨hs_mono hL4.2.1 (hs_mono hL3.2.1 (hs_mono hL2.2.1 hs1)), hs_mono hL4.2.1 (hs_mono hL3.2.1 hs2), hs_mono hL4.2.1 hs3, hs4⟩); simp only [x1, x2, x3, x4] at k2; exact k2)⟩
                      · exact absurd (show ¬ (8 : Int32) ≤ 8 from c41) (by decide)
                    · have c54 : g4 = false := bz_f (Classical.not_not.mp c54)
                      have x4 := c54
                      refine m_ild (pc' := 58) cd_Mo_open rfl (Or.inr ⟨_, rfl, rfl, rfl⟩) l2 rfl ?_
                      refine m_if1 (t := 65) (pc' := 61) cd_Mo_open rfl rfl rfl (fun c58 => ?_) (fun c58 => ?_)
                      · exact absurd (show (1 : Int32) = 0 from c58) (by decide)
                      · have c58 : ¬ (1 : Int32) = 0 := c58
                        refine m_k1 (v := 1) (pc' := 62) cd_Mo_open rfl (by decide) rfl ?_
                        refine m_pure (pc' := 66) (st' := [.int 1]) cd_Mo_open rfl rfl (fun _ _ => rfl) ?_
                        refine m_ist (pc' := 67) cd_Mo_open rfl (Or.inr ⟨_, rfl, rfl, rfl⟩) (by decide) rfl (fun lv el => ?_)
                        have l0 := tm_lk el l0 rfl (by decide)
                        have l1 := tm_lk el l1 rfl (by decide)
                        have l3 := tm_lk el l3 rfl (by decide)
                        have l2 : lv.lookup 2 = some (.int 1) := tm_lks el
                        clear el
                        refine m_inc (y := 8) (pc' := 70) cd_Mo_open rfl l3 (by decide) (by decide) rfl (fun lv el => ?_)
                        have l0 := tm_lk el l0 rfl (by decide)
                        have l1 := tm_lk el l1 rfl (by decide)
                        have l2 := tm_lk el l2 rfl (by decide)
                        have l3 : lv.lookup 3 = some (.int 8) := tm_lks el
                        clear el
                        refine m_pure (pc' := 38) (st' := []) cd_Mo_open rfl rfl (fun _ _ => rfl) ?_
                        refine m_ild (pc' := 39) cd_Mo_open rfl (Or.inr ⟨_, rfl, rfl, rfl⟩) l3 rfl ?_
                        refine m_k2 (v := 8) (pc' := 41) cd_Mo_open rfl (by decide) rfl ?_
                        refine m_if2 (t := 73) (pc' := 44) cd_Mo_open rfl rfl rfl (fun c41 => ?_) (fun c41 => ?_)
                        · have c41 : (8 : Int32) ≤ 8 := c41
                          refine m_ild (pc' := 74) cd_Mo_open rfl (Or.inr ⟨_, rfl, rfl, rfl⟩) l2 rfl ?_
                          exact m_retz cd_Mo_open rfl (by decide) ⟨_, rfl, (by have k2 := kk _ _ _ hT4 (opn7 rfl ⟨hs_mono hL4.2.1 (hs_mono hL3.2.1 (hs_mono hL2.2.1 hs1)), hs_mono hL4.2.1 (hs_mono hL3.2.1 hs2), hs_mono hL4.2.1 hs3, hs4⟩); simp only [x1, x2, x3, x4] at k2; exact k2)⟩
                        · exact absurd (show ¬ (8 : Int32) ≤ 8 from c41) (by decide)
          · have c54 : g2 = false := bz_f (Classical.not_not.mp c54)
            have x2 := c54
            refine m_ild (pc' := 58) cd_Mo_open rfl (Or.inr ⟨_, rfl, rfl, rfl⟩) l2 rfl ?_
            refine m_if1 (t := 65) (pc' := 61) cd_Mo_open rfl rfl rfl (fun c58 => ?_) (fun c58 => ?_)
            · exact absurd (show (1 : Int32) = 0 from c58) (by decide)
            · have c58 : ¬ (1 : Int32) = 0 := c58
              refine m_k1 (v := 1) (pc' := 62) cd_Mo_open rfl (by decide) rfl ?_
              refine m_pure (pc' := 66) (st' := [.int 1]) cd_Mo_open rfl rfl (fun _ _ => rfl) ?_
              refine m_ist (pc' := 67) cd_Mo_open rfl (Or.inr ⟨_, rfl, rfl, rfl⟩) (by decide) rfl (fun lv el => ?_)
              have l0 := tm_lk el l0 rfl (by decide)
              have l1 := tm_lk el l1 rfl (by decide)
              have l3 := tm_lk el l3 rfl (by decide)
              have l2 : lv.lookup 2 = some (.int 1) := tm_lks el
              clear el
              refine m_inc (y := 6) (pc' := 70) cd_Mo_open rfl l3 (by decide) (by decide) rfl (fun lv el => ?_)
              have l0 := tm_lk el l0 rfl (by decide)
              have l1 := tm_lk el l1 rfl (by decide)
              have l2 := tm_lk el l2 rfl (by decide)
              have l3 : lv.lookup 3 = some (.int 6) := tm_lks el
              clear el
              refine m_pure (pc' := 38) (st' := []) cd_Mo_open rfl rfl (fun _ _ => rfl) ?_
              refine m_ild (pc' := 39) cd_Mo_open rfl (Or.inr ⟨_, rfl, rfl, rfl⟩) l3 rfl ?_
              refine m_k2 (v := 8) (pc' := 41) cd_Mo_open rfl (by decide) rfl ?_
              refine m_if2 (t := 73) (pc' := 44) cd_Mo_open rfl rfl rfl (fun c41 => ?_) (fun c41 => ?_)
              · exact absurd (show (8 : Int32) ≤ 6 from c41) (by decide)
              · have c41 : ¬ (8 : Int32) ≤ 6 := c41
                refine m_ald (pc' := 45) cd_Mo_open rfl (Or.inr ⟨_, rfl, rfl, rfl⟩) l0 rfl rfl ?_
                refine m_ald (pc' := 46) cd_Mo_open rfl (Or.inr ⟨_, rfl, rfl, rfl⟩) l0 rfl rfl ?_
                refine m_ild (pc' := 47) cd_Mo_open rfl (Or.inr ⟨_, rfl, rfl, rfl⟩) l1 rfl ?_
                refine m_ild (pc' := 48) cd_Mo_open rfl (Or.inr ⟨_, rfl, rfl, rfl⟩) l3 rfl ?_
                refine m_ci (pc' := 51) cd_Mo_open rfl rfl rfl rfl rfl cd_Mo_cell rfl (Nat.le_of_ble_eq_true rfl) (m_cellV (k := 6) (v := nI u) hL2.1 hX rfl (by decide) (by rw [hL2.2.2.1 1 (by decide), hL2.2.2.1 7 (by decide), hL1.2.2.1 1 (by decide), hL1.2.2.1 7 (by decide)]; exact c1) ?_)
                show mg _ _ _ 51 _ [.int (nI u), .ref 1482] _ _
                refine m_ci (pc' := 54) cd_Mo_open rfl rfl rfl rfl rfl cd_Mo_learn rfl (Nat.le_of_ble_eq_true rfl) (m_learnL hL2.1 c3 (fun h2 _ => by have hy : ∀ y, W y → Kn G y := fun y q => h2 y (hU2 y q); exact Kn_7 (hK hy) rfl (i := 2) (by decide)) (fun A3 W3 g3 hL3 hs3 => ?_))
                have hU3 : ∀ y, W y → W3 y := fun y q => hL3.2.1 y (hU2 y q)
                have hT3 := lrn_tr hT2 hL3
                show mg _ _ _ 54 _ [.int (bz g3)] _ _
                refine m_if1 (t := 61) (pc' := 57) cd_Mo_open rfl rfl rfl (fun c54 => ?_) (fun c54 => ?_)
                · have c54 : g3 = true := bz_t c54
                  have x3 := c54
                  refine m_k1 (v := 1) (pc' := 62) cd_Mo_open rfl (by decide) rfl ?_
                  refine m_pure (pc' := 66) (st' := [.int 1]) cd_Mo_open rfl rfl (fun _ _ => rfl) ?_
                  refine m_ist (pc' := 67) cd_Mo_open rfl (Or.inr ⟨_, rfl, rfl, rfl⟩) (by decide) rfl (fun lv el => ?_)
                  have l0 := tm_lk el l0 rfl (by decide)
                  have l1 := tm_lk el l1 rfl (by decide)
                  have l3 := tm_lk el l3 rfl (by decide)
                  have l2 : lv.lookup 2 = some (.int 1) := tm_lks el
                  clear el
                  refine m_inc (y := 7) (pc' := 70) cd_Mo_open rfl l3 (by decide) (by decide) rfl (fun lv el => ?_)
                  have l0 := tm_lk el l0 rfl (by decide)
                  have l1 := tm_lk el l1 rfl (by decide)
                  have l2 := tm_lk el l2 rfl (by decide)
                  have l3 : lv.lookup 3 = some (.int 7) := tm_lks el
                  clear el
                  refine m_pure (pc' := 38) (st' := []) cd_Mo_open rfl rfl (fun _ _ => rfl) ?_
                  refine m_ild (pc' := 39) cd_Mo_open rfl (Or.inr ⟨_, rfl, rfl, rfl⟩) l3 rfl ?_
                  refine m_k2 (v := 8) (pc' := 41) cd_Mo_open rfl (by decide) rfl ?_
                  refine m_if2 (t := 73) (pc' := 44) cd_Mo_open rfl rfl rfl (fun c41 => ?_) (fun c41 => ?_)
                  · exact absurd (show (8 : Int32) ≤ 7 from c41) (by decide)
                  · have c41 : ¬ (8 : Int32) ≤ 7 := c41
                    refine m_ald (pc' := 45) cd_Mo_open rfl (Or.inr ⟨_, rfl, rfl, rfl⟩) l0 rfl rfl ?_
                    refine m_ald (pc' := 46) cd_Mo_open rfl (Or.inr ⟨_, rfl, rfl, rfl⟩) l0 rfl rfl ?_
                    refine m_ild (pc' := 47) cd_Mo_open rfl (Or.inr ⟨_, rfl, rfl, rfl⟩) l1 rfl ?_
                    refine m_ild (pc' := 48) cd_Mo_open rfl (Or.inr ⟨_, rfl, rfl, rfl⟩) l3 rfl ?_
                    refine m_ci (pc' := 51) cd_Mo_open rfl rfl rfl rfl rfl cd_Mo_cell rfl (Nat.le_of_ble_eq_true rfl) (m_cellV (k := 7) (v := nI x) hL3.1 hX rfl (by decide) (by rw [hL3.2.2.1 1 (by decide), hL3.2.2.1 7 (by decide), hL2.2.2.1 1 (by decide), hL2.2.2.1 7 (by decide), hL1.2.2.1 1 (by decide), hL1.2.2.1 7 (by decide)]; exact d1) ?_)
                    show mg _ _ _ 51 _ [.int (nI x), .ref 1482] _ _
                    refine m_ci (pc' := 54) cd_Mo_open rfl rfl rfl rfl rfl cd_Mo_learn rfl (Nat.le_of_ble_eq_true rfl) (m_learnL hL3.1 d3 (fun h3 _ => by have hy : ∀ y, W y → Kn G y := fun y q => h3 y (hU3 y q); exact Kn_7 (hK hy) rfl (i := 3) (by decide)) (fun A4 W4 g4 hL4 hs4 => ?_))
                    have hU4 : ∀ y, W y → W4 y := fun y q => hL4.2.1 y (hU3 y q)
                    have hT4 := lrn_tr hT3 hL4
                    show mg _ _ _ 54 _ [.int (bz g4)] _ _
                    refine m_if1 (t := 61) (pc' := 57) cd_Mo_open rfl rfl rfl (fun c54 => ?_) (fun c54 => ?_)
                    · have c54 : g4 = true := bz_t c54
                      have x4 := c54
                      refine m_k1 (v := 1) (pc' := 62) cd_Mo_open rfl (by decide) rfl ?_
                      refine m_pure (pc' := 66) (st' := [.int 1]) cd_Mo_open rfl rfl (fun _ _ => rfl) ?_
                      refine m_ist (pc' := 67) cd_Mo_open rfl (Or.inr ⟨_, rfl, rfl, rfl⟩) (by decide) rfl (fun lv el => ?_)
                      have l0 := tm_lk el l0 rfl (by decide)
                      have l1 := tm_lk el l1 rfl (by decide)
                      have l3 := tm_lk el l3 rfl (by decide)
                      have l2 : lv.lookup 2 = some (.int 1) := tm_lks el
                      clear el
                      refine m_inc (y := 8) (pc' := 70) cd_Mo_open rfl l3 (by decide) (by decide) rfl (fun lv el => ?_)
                      have l0 := tm_lk el l0 rfl (by decide)
                      have l1 := tm_lk el l1 rfl (by decide)
                      have l2 := tm_lk el l2 rfl (by decide)
                      have l3 : lv.lookup 3 = some (.int 8) := tm_lks el
                      clear el
                      refine m_pure (pc' := 38) (st' := []) cd_Mo_open rfl rfl (fun _ _ => rfl) ?_
                      refine m_ild (pc' := 39) cd_Mo_open rfl (Or.inr ⟨_, rfl, rfl, rfl⟩) l3 rfl ?_
                      refine m_k2 (v := 8) (pc' := 41) cd_Mo_open rfl (by decide) rfl ?_
                      refine m_if2 (t := 73) (pc' := 44) cd_Mo_open rfl rfl rfl (fun c41 => ?_) (fun c41 => ?_)
                      · have c41 : (8 : Int32) ≤ 8 := c41
                        refine m_ild (pc' := 74) cd_Mo_open rfl (Or.inr ⟨_, rfl, rfl, rfl⟩) l2 rfl ?_
                        exact m_retz cd_Mo_open rfl (by decide) ⟨_, rfl, (by have k2 := kk _ _ _ hT4 (opn7 rfl ⟨hs_mono hL4.2.1 (hs_mono hL3.2.1 (hs_mono hL2.2.1 hs1)), hs_mono hL4.2.1 (hs_mono hL3.2.1 hs2), hs_mono hL4.2.1 hs3, hs4⟩); simp only [x1, x2, x3, x4] at k2; exact k2)⟩
                      · exact absurd (show ¬ (8 : Int32) ≤ 8 from c41) (by decide)
                    · have c54 : g4 = false := bz_f (Classical.not_not.mp c54)
                      have x4 := c54
                      refine m_ild (pc' := 58) cd_Mo_open rfl (Or.inr ⟨_, rfl, rfl, rfl⟩) l2 rfl ?_
                      refine m_if1 (t := 65) (pc' := 61) cd_Mo_open rfl rfl rfl (fun c58 => ?_) (fun c58 => ?_)
                      · exact absurd (show (1 : Int32) = 0 from c58) (by decide)
                      · have c58 : ¬ (1 : Int32) = 0 := c58
                        refine m_k1 (v := 1) (pc' := 62) cd_Mo_open rfl (by decide) rfl ?_
                        refine m_pure (pc' := 66) (st' := [.int 1]) cd_Mo_open rfl rfl (fun _ _ => rfl) ?_
                        refine m_ist (pc' := 67) cd_Mo_open rfl (Or.inr ⟨_, rfl, rfl, rfl⟩) (by decide) rfl (fun lv el => ?_)
                        have l0 := tm_lk el l0 rfl (by decide)
                        have l1 := tm_lk el l1 rfl (by decide)
                        have l3 := tm_lk el l3 rfl (by decide)
                        have l2 : lv.lookup 2 = some (.int 1) := tm_lks el
                        clear el
                        refine m_inc (y := 8) (pc' := 70) cd_Mo_open rfl l3 (by decide) (by decide) rfl (fun lv el => ?_)
                        have l0 := tm_lk el l0 rfl (by decide)
                        have l1 := tm_lk el l1 rfl (by decide)
                        have l2 := tm_lk el l2 rfl (by decide)
                        have l3 : lv.lookup 3 = some (.int 8) := tm_lks el
                        clear el
                        refine m_pure (pc' := 38) (st' := []) cd_Mo_open rfl rfl (fun _ _ => rfl) ?_
                        refine m_ild (pc' := 39) cd_Mo_open rfl (Or.inr ⟨_, rfl, rfl, rfl⟩) l3 rfl ?_
                        refine m_k2 (v := 8) (pc' := 41) cd_Mo_open rfl (by decide) rfl ?_
                        refine m_if2 (t := 73) (pc' := 44) cd_Mo_open rfl rfl rfl (fun c41 => ?_) (fun c41 => ?_)
                        · have c41 : (8 : Int32) ≤ 8 := c41
                          refine m_ild (pc' := 74) cd_Mo_open rfl (Or.inr ⟨_, rfl, rfl, rfl⟩) l2 rfl ?_
                          exact m_retz cd_Mo_open rfl (by decide) ⟨_, rfl, (by have k2 := kk _ _ _ hT4 (opn7 rfl ⟨hs_mono hL4.2.1 (hs_mono hL3.2.1 (hs_mono hL2.2.1 hs1)), hs_mono hL4.2.1 (hs_mono hL3.2.1 hs2), hs_mono hL4.2.1 hs3, hs4⟩); simp only [x1, x2, x3, x4] at k2; exact k2)⟩
                        · exact absurd (show ¬ (8 : Int32) ≤ 8 from c41) (by decide)
                · have c54 : g3 = false := bz_f (Classical.not_not.mp c54)
                  have x3 := c54
                  refine m_ild (pc' := 58) cd_Mo_open rfl (Or.inr ⟨_, rfl, rfl, rfl⟩) l2 rfl ?_
                  refine m_if1 (t := 65) (pc' := 61) cd_Mo_open rfl rfl rfl (fun c58 => ?_) (fun c58 => ?_)
                  · exact absurd (show (1 : Int32) = 0 from c58) (by decide)
                  · have c58 : ¬ (1 : Int32) = 0 := c58
                    refine m_k1 (v := 1) (pc' := 62) cd_Mo_open rfl (by decide) rfl ?_
                    refine m_pure (pc' := 66) (st' := [.int 1]) cd_Mo_open rfl rfl (fun _ _ => rfl) ?_
                    refine m_ist (pc' := 67) cd_Mo_open rfl (Or.inr ⟨_, rfl, rfl, rfl⟩) (by decide) rfl (fun lv el => ?_)
                    have l0 := tm_lk el l0 rfl (by decide)
                    have l1 := tm_lk el l1 rfl (by decide)
                    have l3 := tm_lk el l3 rfl (by decide)
                    have l2 : lv.lookup 2 = some (.int 1) := tm_lks el
                    clear el
                    refine m_inc (y := 7) (pc' := 70) cd_Mo_open rfl l3 (by decide) (by decide) rfl (fun lv el => ?_)
                    have l0 := tm_lk el l0 rfl (by decide)
                    have l1 := tm_lk el l1 rfl (by decide)
                    have l2 := tm_lk el l2 rfl (by decide)
                    have l3 : lv.lookup 3 = some (.int 7) := tm_lks el
                    clear el
                    refine m_pure (pc' := 38) (st' := []) cd_Mo_open rfl rfl (fun _ _ => rfl) ?_
                    refine m_ild (pc' := 39) cd_Mo_open rfl (Or.inr ⟨_, rfl, rfl, rfl⟩) l3 rfl ?_
                    refine m_k2 (v := 8) (pc' := 41) cd_Mo_open rfl (by decide) rfl ?_
                    refine m_if2 (t := 73) (pc' := 44) cd_Mo_open rfl rfl rfl (fun c41 => ?_) (fun c41 => ?_)
                    · exact absurd (show (8 : Int32) ≤ 7 from c41) (by decide)
                    · have c41 : ¬ (8 : Int32) ≤ 7 := c41
                      refine m_ald (pc' := 45) cd_Mo_open rfl (Or.inr ⟨_, rfl, rfl, rfl⟩) l0 rfl rfl ?_
                      refine m_ald (pc' := 46) cd_Mo_open rfl (Or.inr ⟨_, rfl, rfl, rfl⟩) l0 rfl rfl ?_
                      refine m_ild (pc' := 47) cd_Mo_open rfl (Or.inr ⟨_, rfl, rfl, rfl⟩) l1 rfl ?_
                      refine m_ild (pc' := 48) cd_Mo_open rfl (Or.inr ⟨_, rfl, rfl, rfl⟩) l3 rfl ?_
                      refine m_ci (pc' := 51) cd_Mo_open rfl rfl rfl rfl rfl cd_Mo_cell rfl (Nat.le_of_ble_eq_true rfl) (m_cellV (k := 7) (v := nI x) hL3.1 hX rfl (by decide) (by rw [hL3.2.2.1 1 (by decide), hL3.2.2.1 7 (by decide), hL2.2.2.1 1 (by decide), hL2.2.2.1 7 (by decide), hL1.2.2.1 1 (by decide), hL1.2.2.1 7 (by decide)]; exact d1) ?_)
                      show mg _ _ _ 51 _ [.int (nI x), .ref 1482] _ _
                      refine m_ci (pc' := 54) cd_Mo_open rfl rfl rfl rfl rfl cd_Mo_learn rfl (Nat.le_of_ble_eq_true rfl) (m_learnL hL3.1 d3 (fun h3 _ => by have hy : ∀ y, W y → Kn G y := fun y q => h3 y (hU3 y q); exact Kn_7 (hK hy) rfl (i := 3) (by decide)) (fun A4 W4 g4 hL4 hs4 => ?_))
                      have hU4 : ∀ y, W y → W4 y := fun y q => hL4.2.1 y (hU3 y q)
                      have hT4 := lrn_tr hT3 hL4
                      show mg _ _ _ 54 _ [.int (bz g4)] _ _
                      refine m_if1 (t := 61) (pc' := 57) cd_Mo_open rfl rfl rfl (fun c54 => ?_) (fun c54 => ?_)
                      · have c54 : g4 = true := bz_t c54
                        have x4 := c54
                        refine m_k1 (v := 1) (pc' := 62) cd_Mo_open rfl (by decide) rfl ?_
                        refine m_pure (pc' := 66) (st' := [.int 1]) cd_Mo_open rfl rfl (fun _ _ => rfl) ?_
                        refine m_ist (pc' := 67) cd_Mo_open rfl (Or.inr ⟨_, rfl, rfl, rfl⟩) (by decide) rfl (fun lv el => ?_)
                        have l0 := tm_lk el l0 rfl (by decide)
                        have l1 := tm_lk el l1 rfl (by decide)
                        have l3 := tm_lk el l3 rfl (by decide)
                        have l2 : lv.lookup 2 = some (.int 1) := tm_lks el
                        clear el
                        refine m_inc (y := 8) (pc' := 70) cd_Mo_open rfl l3 (by decide) (by decide) rfl (fun lv el => ?_)
                        have l0 := tm_lk el l0 rfl (by decide)
                        have l1 := tm_lk el l1 rfl (by decide)
                        have l2 := tm_lk el l2 rfl (by decide)
                        have l3 : lv.lookup 3 = some (.int 8) := tm_lks el
                        clear el
                        refine m_pure (pc' := 38) (st' := []) cd_Mo_open rfl rfl (fun _ _ => rfl) ?_
                        refine m_ild (pc' := 39) cd_Mo_open rfl (Or.inr ⟨_, rfl, rfl, rfl⟩) l3 rfl ?_
                        refine m_k2 (v := 8) (pc' := 41) cd_Mo_open rfl (by decide) rfl ?_
                        refine m_if2 (t := 73) (pc' := 44) cd_Mo_open rfl rfl rfl (fun c41 => ?_) (fun c41 => ?_)
                        · have c41 : (8 : Int32) ≤ 8 := c41
                          refine m_ild (pc' := 74) cd_Mo_open rfl (Or.inr ⟨_, rfl, rfl, rfl⟩) l2 rfl ?_
                          exact m_retz cd_Mo_open rfl (by decide) ⟨_, rfl, (by have k2 := kk _ _ _ hT4 (opn7 rfl ⟨hs_mono hL4.2.1 (hs_mono hL3.2.1 (hs_mono hL2.2.1 hs1)), hs_mono hL4.2.1 (hs_mono hL3.2.1 hs2), hs_mono hL4.2.1 hs3, hs4⟩); simp only [x1, x2, x3, x4] at k2; exact k2)⟩
                        · exact absurd (show ¬ (8 : Int32) ≤ 8 from c41) (by decide)
                      · have c54 : g4 = false := bz_f (Classical.not_not.mp c54)
                        have x4 := c54
                        refine m_ild (pc' := 58) cd_Mo_open rfl (Or.inr ⟨_, rfl, rfl, rfl⟩) l2 rfl ?_
                        refine m_if1 (t := 65) (pc' := 61) cd_Mo_open rfl rfl rfl (fun c58 => ?_) (fun c58 => ?_)
                        · exact absurd (show (1 : Int32) = 0 from c58) (by decide)
                        · have c58 : ¬ (1 : Int32) = 0 := c58
                          refine m_k1 (v := 1) (pc' := 62) cd_Mo_open rfl (by decide) rfl ?_
                          refine m_pure (pc' := 66) (st' := [.int 1]) cd_Mo_open rfl rfl (fun _ _ => rfl) ?_
                          refine m_ist (pc' := 67) cd_Mo_open rfl (Or.inr ⟨_, rfl, rfl, rfl⟩) (by decide) rfl (fun lv el => ?_)
                          have l0 := tm_lk el l0 rfl (by decide)
                          have l1 := tm_lk el l1 rfl (by decide)
                          have l3 := tm_lk el l3 rfl (by decide)
                          have l2 : lv.lookup 2 = some (.int 1) := tm_lks el
                          clear el
                          refine m_inc (y := 8) (pc' := 70) cd_Mo_open rfl l3 (by decide) (by decide) rfl (fun lv el => ?_)
                          have l0 := tm_lk el l0 rfl (by decide)
                          have l1 := tm_lk el l1 rfl (by decide)
                          have l2 := tm_lk el l2 rfl (by decide)
                          have l3 : lv.lookup 3 = some (.int 8) := tm_lks el
                          clear el
                          refine m_pure (pc' := 38) (st' := []) cd_Mo_open rfl rfl (fun _ _ => rfl) ?_
                          refine m_ild (pc' := 39) cd_Mo_open rfl (Or.inr ⟨_, rfl, rfl, rfl⟩) l3 rfl ?_
                          refine m_k2 (v := 8) (pc' := 41) cd_Mo_open rfl (by decide) rfl ?_
                          refine m_if2 (t := 73) (pc' := 44) cd_Mo_open rfl rfl rfl (fun c41 => ?_) (fun c41 => ?_)
                          · have c41 : (8 : Int32) ≤ 8 := c41
                            refine m_ild (pc' := 74) cd_Mo_open rfl (Or.inr ⟨_, rfl, rfl, rfl⟩) l2 rfl ?_
                            exact m_retz cd_Mo_open rfl (by decide) ⟨_, rfl, (by have k2 := kk _ _ _ hT4 (opn7 rfl ⟨hs_mono hL4.2.1 (hs_mono hL3.2.1 (hs_mono hL2.2.1 hs1)), hs_mono hL4.2.1 (hs_mono hL3.2.1 hs2), hs_mono hL4.2.1 hs3, hs4⟩); simp only [x1, x2, x3, x4] at k2; exact k2)⟩
                          · exact absurd (show ¬ (8 : Int32) ≤ 8 from c41) (by decide)
      · have c54 : g1 = false := bz_f (Classical.not_not.mp c54)
        have x1 := c54
        refine m_ild (pc' := 58) cd_Mo_open rfl (Or.inr ⟨_, rfl, rfl, rfl⟩) l2 rfl ?_
        refine m_if1 (t := 65) (pc' := 61) cd_Mo_open rfl rfl rfl (fun c58 => ?_) (fun c58 => ?_)
        · have c58 : (0 : Int32) = 0 := c58
          refine m_k1 (v := 0) (pc' := 66) cd_Mo_open rfl (by decide) rfl ?_
          refine m_ist (pc' := 67) cd_Mo_open rfl (Or.inr ⟨_, rfl, rfl, rfl⟩) (by decide) rfl (fun lv el => ?_)
          have l0 := tm_lk el l0 rfl (by decide)
          have l1 := tm_lk el l1 rfl (by decide)
          have l3 := tm_lk el l3 rfl (by decide)
          have l2 : lv.lookup 2 = some (.int 0) := tm_lks el
          clear el
          refine m_inc (y := 5) (pc' := 70) cd_Mo_open rfl l3 (by decide) (by decide) rfl (fun lv el => ?_)
          have l0 := tm_lk el l0 rfl (by decide)
          have l1 := tm_lk el l1 rfl (by decide)
          have l2 := tm_lk el l2 rfl (by decide)
          have l3 : lv.lookup 3 = some (.int 5) := tm_lks el
          clear el
          refine m_pure (pc' := 38) (st' := []) cd_Mo_open rfl rfl (fun _ _ => rfl) ?_
          refine m_ild (pc' := 39) cd_Mo_open rfl (Or.inr ⟨_, rfl, rfl, rfl⟩) l3 rfl ?_
          refine m_k2 (v := 8) (pc' := 41) cd_Mo_open rfl (by decide) rfl ?_
          refine m_if2 (t := 73) (pc' := 44) cd_Mo_open rfl rfl rfl (fun c41 => ?_) (fun c41 => ?_)
          · exact absurd (show (8 : Int32) ≤ 5 from c41) (by decide)
          · have c41 : ¬ (8 : Int32) ≤ 5 := c41
            refine m_ald (pc' := 45) cd_Mo_open rfl (Or.inr ⟨_, rfl, rfl, rfl⟩) l0 rfl rfl ?_
            refine m_ald (pc' := 46) cd_Mo_open rfl (Or.inr ⟨_, rfl, rfl, rfl⟩) l0 rfl rfl ?_
            refine m_ild (pc' := 47) cd_Mo_open rfl (Or.inr ⟨_, rfl, rfl, rfl⟩) l1 rfl ?_
            refine m_ild (pc' := 48) cd_Mo_open rfl (Or.inr ⟨_, rfl, rfl, rfl⟩) l3 rfl ?_
            refine m_ci (pc' := 51) cd_Mo_open rfl rfl rfl rfl rfl cd_Mo_cell rfl (Nat.le_of_ble_eq_true rfl) (m_cellV (k := 5) (v := nI r) hL1.1 hX rfl (by decide) (by rw [hL1.2.2.1 1 (by decide), hL1.2.2.1 7 (by decide)]; exact b1) ?_)
            show mg _ _ _ 51 _ [.int (nI r), .ref 1482] _ _
            refine m_ci (pc' := 54) cd_Mo_open rfl rfl rfl rfl rfl cd_Mo_learn rfl (Nat.le_of_ble_eq_true rfl) (m_learnL hL1.1 b3 (fun h1 _ => by have hy : ∀ y, W y → Kn G y := fun y q => h1 y (hU1 y q); exact Kn_7 (hK hy) rfl (i := 1) (by decide)) (fun A2 W2 g2 hL2 hs2 => ?_))
            have hU2 : ∀ y, W y → W2 y := fun y q => hL2.2.1 y (hU1 y q)
            have hT2 := lrn_tr hT1 hL2
            show mg _ _ _ 54 _ [.int (bz g2)] _ _
            refine m_if1 (t := 61) (pc' := 57) cd_Mo_open rfl rfl rfl (fun c54 => ?_) (fun c54 => ?_)
            · have c54 : g2 = true := bz_t c54
              have x2 := c54
              refine m_k1 (v := 1) (pc' := 62) cd_Mo_open rfl (by decide) rfl ?_
              refine m_pure (pc' := 66) (st' := [.int 1]) cd_Mo_open rfl rfl (fun _ _ => rfl) ?_
              refine m_ist (pc' := 67) cd_Mo_open rfl (Or.inr ⟨_, rfl, rfl, rfl⟩) (by decide) rfl (fun lv el => ?_)
              have l0 := tm_lk el l0 rfl (by decide)
              have l1 := tm_lk el l1 rfl (by decide)
              have l3 := tm_lk el l3 rfl (by decide)
              have l2 : lv.lookup 2 = some (.int 1) := tm_lks el
              clear el
              refine m_inc (y := 6) (pc' := 70) cd_Mo_open rfl l3 (by decide) (by decide) rfl (fun lv el => ?_)
              have l0 := tm_lk el l0 rfl (by decide)
              have l1 := tm_lk el l1 rfl (by decide)
              have l2 := tm_lk el l2 rfl (by decide)
              have l3 : lv.lookup 3 = some (.int 6) := tm_lks el
              clear el
              refine m_pure (pc' := 38) (st' := []) cd_Mo_open rfl rfl (fun _ _ => rfl) ?_
              refine m_ild (pc' := 39) cd_Mo_open rfl (Or.inr ⟨_, rfl, rfl, rfl⟩) l3 rfl ?_
              refine m_k2 (v := 8) (pc' := 41) cd_Mo_open rfl (by decide) rfl ?_
              refine m_if2 (t := 73) (pc' := 44) cd_Mo_open rfl rfl rfl (fun c41 => ?_) (fun c41 => ?_)
              · exact absurd (show (8 : Int32) ≤ 6 from c41) (by decide)
              · have c41 : ¬ (8 : Int32) ≤ 6 := c41
                refine m_ald (pc' := 45) cd_Mo_open rfl (Or.inr ⟨_, rfl, rfl, rfl⟩) l0 rfl rfl ?_
                refine m_ald (pc' := 46) cd_Mo_open rfl (Or.inr ⟨_, rfl, rfl, rfl⟩) l0 rfl rfl ?_
                refine m_ild (pc' := 47) cd_Mo_open rfl (Or.inr ⟨_, rfl, rfl, rfl⟩) l1 rfl ?_
                refine m_ild (pc' := 48) cd_Mo_open rfl (Or.inr ⟨_, rfl, rfl, rfl⟩) l3 rfl ?_
                refine m_ci (pc' := 51) cd_Mo_open rfl rfl rfl rfl rfl cd_Mo_cell rfl (Nat.le_of_ble_eq_true rfl) (m_cellV (k := 6) (v := nI u) hL2.1 hX rfl (by decide) (by rw [hL2.2.2.1 1 (by decide), hL2.2.2.1 7 (by decide), hL1.2.2.1 1 (by decide), hL1.2.2.1 7 (by decide)]; exact c1) ?_)
                show mg _ _ _ 51 _ [.int (nI u), .ref 1482] _ _
                refine m_ci (pc' := 54) cd_Mo_open rfl rfl rfl rfl rfl cd_Mo_learn rfl (Nat.le_of_ble_eq_true rfl) (m_learnL hL2.1 c3 (fun h2 _ => by have hy : ∀ y, W y → Kn G y := fun y q => h2 y (hU2 y q); exact Kn_7 (hK hy) rfl (i := 2) (by decide)) (fun A3 W3 g3 hL3 hs3 => ?_))
                have hU3 : ∀ y, W y → W3 y := fun y q => hL3.2.1 y (hU2 y q)
                have hT3 := lrn_tr hT2 hL3
                show mg _ _ _ 54 _ [.int (bz g3)] _ _
                refine m_if1 (t := 61) (pc' := 57) cd_Mo_open rfl rfl rfl (fun c54 => ?_) (fun c54 => ?_)
                · have c54 : g3 = true := bz_t c54
                  have x3 := c54
                  refine m_k1 (v := 1) (pc' := 62) cd_Mo_open rfl (by decide) rfl ?_
                  refine m_pure (pc' := 66) (st' := [.int 1]) cd_Mo_open rfl rfl (fun _ _ => rfl) ?_
                  refine m_ist (pc' := 67) cd_Mo_open rfl (Or.inr ⟨_, rfl, rfl, rfl⟩) (by decide) rfl (fun lv el => ?_)
                  have l0 := tm_lk el l0 rfl (by decide)
                  have l1 := tm_lk el l1 rfl (by decide)
                  have l3 := tm_lk el l3 rfl (by decide)
                  have l2 : lv.lookup 2 = some (.int 1) := tm_lks el
                  clear el
                  refine m_inc (y := 7) (pc' := 70) cd_Mo_open rfl l3 (by decide) (by decide) rfl (fun lv el => ?_)
                  have l0 := tm_lk el l0 rfl (by decide)
                  have l1 := tm_lk el l1 rfl (by decide)
                  have l2 := tm_lk el l2 rfl (by decide)
                  have l3 : lv.lookup 3 = some (.int 7) := tm_lks el
                  clear el
                  refine m_pure (pc' := 38) (st' := []) cd_Mo_open rfl rfl (fun _ _ => rfl) ?_
                  refine m_ild (pc' := 39) cd_Mo_open rfl (Or.inr ⟨_, rfl, rfl, rfl⟩) l3 rfl ?_
                  refine m_k2 (v := 8) (pc' := 41) cd_Mo_open rfl (by decide) rfl ?_
                  refine m_if2 (t := 73) (pc' := 44) cd_Mo_open rfl rfl rfl (fun c41 => ?_) (fun c41 => ?_)
                  · exact absurd (show (8 : Int32) ≤ 7 from c41) (by decide)
                  · have c41 : ¬ (8 : Int32) ≤ 7 := c41
                    refine m_ald (pc' := 45) cd_Mo_open rfl (Or.inr ⟨_, rfl, rfl, rfl⟩) l0 rfl rfl ?_
                    refine m_ald (pc' := 46) cd_Mo_open rfl (Or.inr ⟨_, rfl, rfl, rfl⟩) l0 rfl rfl ?_
                    refine m_ild (pc' := 47) cd_Mo_open rfl (Or.inr ⟨_, rfl, rfl, rfl⟩) l1 rfl ?_
                    refine m_ild (pc' := 48) cd_Mo_open rfl (Or.inr ⟨_, rfl, rfl, rfl⟩) l3 rfl ?_
                    refine m_ci (pc' := 51) cd_Mo_open rfl rfl rfl rfl rfl cd_Mo_cell rfl (Nat.le_of_ble_eq_true rfl) (m_cellV (k := 7) (v := nI x) hL3.1 hX rfl (by decide) (by rw [hL3.2.2.1 1 (by decide), hL3.2.2.1 7 (by decide), hL2.2.2.1 1 (by decide), hL2.2.2.1 7 (by decide), hL1.2.2.1 1 (by decide), hL1.2.2.1 7 (by decide)]; exact d1) ?_)
                    show mg _ _ _ 51 _ [.int (nI x), .ref 1482] _ _
                    refine m_ci (pc' := 54) cd_Mo_open rfl rfl rfl rfl rfl cd_Mo_learn rfl (Nat.le_of_ble_eq_true rfl) (m_learnL hL3.1 d3 (fun h3 _ => by have hy : ∀ y, W y → Kn G y := fun y q => h3 y (hU3 y q); exact Kn_7 (hK hy) rfl (i := 3) (by decide)) (fun A4 W4 g4 hL4 hs4 => ?_))
                    have hU4 : ∀ y, W y → W4 y := fun y q => hL4.2.1 y (hU3 y q)
                    have hT4 := lrn_tr hT3 hL4
                    show mg _ _ _ 54 _ [.int (bz g4)] _ _
                    refine m_if1 (t := 61) (pc' := 57) cd_Mo_open rfl rfl rfl (fun c54 => ?_) (fun c54 => ?_)
                    · have c54 : g4 = true := bz_t c54
                      have x4 := c54
                      refine m_k1 (v := 1) (pc' := 62) cd_Mo_open rfl (by decide) rfl ?_
                      refine m_pure (pc' := 66) (st' := [.int 1]) cd_Mo_open rfl rfl (fun _ _ => rfl) ?_
                      refine m_ist (pc' := 67) cd_Mo_open rfl (Or.inr ⟨_, rfl, rfl, rfl⟩) (by decide) rfl (fun lv el => ?_)
                      have l0 := tm_lk el l0 rfl (by decide)
                      have l1 := tm_lk el l1 rfl (by decide)
                      have l3 := tm_lk el l3 rfl (by decide)
                      have l2 : lv.lookup 2 = some (.int 1) := tm_lks el
                      clear el
                      refine m_inc (y := 8) (pc' := 70) cd_Mo_open rfl l3 (by decide) (by decide) rfl (fun lv el => ?_)
                      have l0 := tm_lk el l0 rfl (by decide)
                      have l1 := tm_lk el l1 rfl (by decide)
                      have l2 := tm_lk el l2 rfl (by decide)
                      have l3 : lv.lookup 3 = some (.int 8) := tm_lks el
                      clear el
                      refine m_pure (pc' := 38) (st' := []) cd_Mo_open rfl rfl (fun _ _ => rfl) ?_
                      refine m_ild (pc' := 39) cd_Mo_open rfl (Or.inr ⟨_, rfl, rfl, rfl⟩) l3 rfl ?_
                      refine m_k2 (v := 8) (pc' := 41) cd_Mo_open rfl (by decide) rfl ?_
                      refine m_if2 (t := 73) (pc' := 44) cd_Mo_open rfl rfl rfl (fun c41 => ?_) (fun c41 => ?_)
                      · have c41 : (8 : Int32) ≤ 8 := c41
                        refine m_ild (pc' := 74) cd_Mo_open rfl (Or.inr ⟨_, rfl, rfl, rfl⟩) l2 rfl ?_
                        exact m_retz cd_Mo_open rfl (by decide) ⟨_, rfl, (by have k2 := kk _ _ _ hT4 (opn7 rfl ⟨hs_mono hL4.2.1 (hs_mono hL3.2.1 (hs_mono hL2.2.1 hs1)), hs_mono hL4.2.1 (hs_mono hL3.2.1 hs2), hs_mono hL4.2.1 hs3, hs4⟩); simp only [x1, x2, x3, x4] at k2; exact k2)⟩
                      · exact absurd (show ¬ (8 : Int32) ≤ 8 from c41) (by decide)
                    · have c54 : g4 = false := bz_f (Classical.not_not.mp c54)
                      have x4 := c54
                      refine m_ild (pc' := 58) cd_Mo_open rfl (Or.inr ⟨_, rfl, rfl, rfl⟩) l2 rfl ?_
                      refine m_if1 (t := 65) (pc' := 61) cd_Mo_open rfl rfl rfl (fun c58 => ?_) (fun c58 => ?_)
                      · exact absurd (show (1 : Int32) = 0 from c58) (by decide)
                      · have c58 : ¬ (1 : Int32) = 0 := c58
                        refine m_k1 (v := 1) (pc' := 62) cd_Mo_open rfl (by decide) rfl ?_
                        refine m_pure (pc' := 66) (st' := [.int 1]) cd_Mo_open rfl rfl (fun _ _ => rfl) ?_
                        refine m_ist (pc' := 67) cd_Mo_open rfl (Or.inr ⟨_, rfl, rfl, rfl⟩) (by decide) rfl (fun lv el => ?_)
                        have l0 := tm_lk el l0 rfl (by decide)
                        have l1 := tm_lk el l1 rfl (by decide)
                        have l3 := tm_lk el l3 rfl (by decide)
                        have l2 : lv.lookup 2 = some (.int 1) := tm_lks el
                        clear el
                        refine m_inc (y := 8) (pc' := 70) cd_Mo_open rfl l3 (by decide) (by decide) rfl (fun lv el => ?_)
                        have l0 := tm_lk el l0 rfl (by decide)
                        have l1 := tm_lk el l1 rfl (by decide)
                        have l2 := tm_lk el l2 rfl (by decide)
                        have l3 : lv.lookup 3 = some (.int 8) := tm_lks el
                        clear el
                        refine m_pure (pc' := 38) (st' := []) cd_Mo_open rfl rfl (fun _ _ => rfl) ?_
                        refine m_ild (pc' := 39) cd_Mo_open rfl (Or.inr ⟨_, rfl, rfl, rfl⟩) l3 rfl ?_
                        refine m_k2 (v := 8) (pc' := 41) cd_Mo_open rfl (by decide) rfl ?_
                        refine m_if2 (t := 73) (pc' := 44) cd_Mo_open rfl rfl rfl (fun c41 => ?_) (fun c41 => ?_)
                        · have c41 : (8 : Int32) ≤ 8 := c41
                          refine m_ild (pc' := 74) cd_Mo_open rfl (Or.inr ⟨_, rfl, rfl, rfl⟩) l2 rfl ?_
                          exact m_retz cd_Mo_open rfl (by decide) ⟨_, rfl, (by have k2 := kk _ _ _ hT4 (opn7 rfl ⟨hs_mono hL4.2.1 (hs_mono hL3.2.1 (hs_mono hL2.2.1 hs1)), hs_mono hL4.2.1 (hs_mono hL3.2.1 hs2), hs_mono hL4.2.1 hs3, hs4⟩); simp only [x1, x2, x3, x4] at k2; exact k2)⟩
                        · exact absurd (show ¬ (8 : Int32) ≤ 8 from c41) (by decide)
                · have c54 : g3 = false := bz_f (Classical.not_not.mp c54)
                  have x3 := c54
                  refine m_ild (pc' := 58) cd_Mo_open rfl (Or.inr ⟨_, rfl, rfl, rfl⟩) l2 rfl ?_
                  refine m_if1 (t := 65) (pc' := 61) cd_Mo_open rfl rfl rfl (fun c58 => ?_) (fun c58 => ?_)
                  · exact absurd (show (1 : Int32) = 0 from c58) (by decide)
                  · have c58 : ¬ (1 : Int32) = 0 := c58
                    refine m_k1 (v := 1) (pc' := 62) cd_Mo_open rfl (by decide) rfl ?_
                    refine m_pure (pc' := 66) (st' := [.int 1]) cd_Mo_open rfl rfl (fun _ _ => rfl) ?_
                    refine m_ist (pc' := 67) cd_Mo_open rfl (Or.inr ⟨_, rfl, rfl, rfl⟩) (by decide) rfl (fun lv el => ?_)
                    have l0 := tm_lk el l0 rfl (by decide)
                    have l1 := tm_lk el l1 rfl (by decide)
                    have l3 := tm_lk el l3 rfl (by decide)
                    have l2 : lv.lookup 2 = some (.int 1) := tm_lks el
                    clear el
                    refine m_inc (y := 7) (pc' := 70) cd_Mo_open rfl l3 (by decide) (by decide) rfl (fun lv el => ?_)
                    have l0 := tm_lk el l0 rfl (by decide)
                    have l1 := tm_lk el l1 rfl (by decide)
                    have l2 := tm_lk el l2 rfl (by decide)
                    have l3 : lv.lookup 3 = some (.int 7) := tm_lks el
                    clear el
                    refine m_pure (pc' := 38) (st' := []) cd_Mo_open rfl rfl (fun _ _ => rfl) ?_
                    refine m_ild (pc' := 39) cd_Mo_open rfl (Or.inr ⟨_, rfl, rfl, rfl⟩) l3 rfl ?_
                    refine m_k2 (v := 8) (pc' := 41) cd_Mo_open rfl (by decide) rfl ?_
                    refine m_if2 (t := 73) (pc' := 44) cd_Mo_open rfl rfl rfl (fun c41 => ?_) (fun c41 => ?_)
                    · exact absurd (show (8 : Int32) ≤ 7 from c41) (by decide)
                    · have c41 : ¬ (8 : Int32) ≤ 7 := c41
                      refine m_ald (pc' := 45) cd_Mo_open rfl (Or.inr ⟨_, rfl, rfl, rfl⟩) l0 rfl rfl ?_
                      refine m_ald (pc' := 46) cd_Mo_open rfl (Or.inr ⟨_, rfl, rfl, rfl⟩) l0 rfl rfl ?_
                      refine m_ild (pc' := 47) cd_Mo_open rfl (Or.inr ⟨_, rfl, rfl, rfl⟩) l1 rfl ?_
                      refine m_ild (pc' := 48) cd_Mo_open rfl (Or.inr ⟨_, rfl, rfl, rfl⟩) l3 rfl ?_
                      refine m_ci (pc' := 51) cd_Mo_open rfl rfl rfl rfl rfl cd_Mo_cell rfl (Nat.le_of_ble_eq_true rfl) (m_cellV (k := 7) (v := nI x) hL3.1 hX rfl (by decide) (by rw [hL3.2.2.1 1 (by decide), hL3.2.2.1 7 (by decide), hL2.2.2.1 1 (by decide), hL2.2.2.1 7 (by decide), hL1.2.2.1 1 (by decide), hL1.2.2.1 7 (by decide)]; exact d1) ?_)
                      show mg _ _ _ 51 _ [.int (nI x), .ref 1482] _ _
                      refine m_ci (pc' := 54) cd_Mo_open rfl rfl rfl rfl rfl cd_Mo_learn rfl (Nat.le_of_ble_eq_true rfl) (m_learnL hL3.1 d3 (fun h3 _ => by have hy : ∀ y, W y → Kn G y := fun y q => h3 y (hU3 y q); exact Kn_7 (hK hy) rfl (i := 3) (by decide)) (fun A4 W4 g4 hL4 hs4 => ?_))
                      have hU4 : ∀ y, W y → W4 y := fun y q => hL4.2.1 y (hU3 y q)
                      have hT4 := lrn_tr hT3 hL4
                      show mg _ _ _ 54 _ [.int (bz g4)] _ _
                      refine m_if1 (t := 61) (pc' := 57) cd_Mo_open rfl rfl rfl (fun c54 => ?_) (fun c54 => ?_)
                      · have c54 : g4 = true := bz_t c54
                        have x4 := c54
                        refine m_k1 (v := 1) (pc' := 62) cd_Mo_open rfl (by decide) rfl ?_
                        refine m_pure (pc' := 66) (st' := [.int 1]) cd_Mo_open rfl rfl (fun _ _ => rfl) ?_
                        refine m_ist (pc' := 67) cd_Mo_open rfl (Or.inr ⟨_, rfl, rfl, rfl⟩) (by decide) rfl (fun lv el => ?_)
                        have l0 := tm_lk el l0 rfl (by decide)
                        have l1 := tm_lk el l1 rfl (by decide)
                        have l3 := tm_lk el l3 rfl (by decide)
                        have l2 : lv.lookup 2 = some (.int 1) := tm_lks el
                        clear el
                        refine m_inc (y := 8) (pc' := 70) cd_Mo_open rfl l3 (by decide) (by decide) rfl (fun lv el => ?_)
                        have l0 := tm_lk el l0 rfl (by decide)
                        have l1 := tm_lk el l1 rfl (by decide)
                        have l2 := tm_lk el l2 rfl (by decide)
                        have l3 : lv.lookup 3 = some (.int 8) := tm_lks el
                        clear el
                        refine m_pure (pc' := 38) (st' := []) cd_Mo_open rfl rfl (fun _ _ => rfl) ?_
                        refine m_ild (pc' := 39) cd_Mo_open rfl (Or.inr ⟨_, rfl, rfl, rfl⟩) l3 rfl ?_
                        refine m_k2 (v := 8) (pc' := 41) cd_Mo_open rfl (by decide) rfl ?_
                        refine m_if2 (t := 73) (pc' := 44) cd_Mo_open rfl rfl rfl (fun c41 => ?_) (fun c41 => ?_)
                        · have c41 : (8 : Int32) ≤ 8 := c41
                          refine m_ild (pc' := 74) cd_Mo_open rfl (Or.inr ⟨_, rfl, rfl, rfl⟩) l2 rfl ?_
                          exact m_retz cd_Mo_open rfl (by decide) ⟨_, rfl, (by have k2 := kk _ _ _ hT4 (opn7 rfl ⟨hs_mono hL4.2.1 (hs_mono hL3.2.1 (hs_mono hL2.2.1 hs1)), hs_mono hL4.2.1 (hs_mono hL3.2.1 hs2), hs_mono hL4.2.1 hs3, hs4⟩); simp only [x1, x2, x3, x4] at k2; exact k2)⟩
                        · exact absurd (show ¬ (8 : Int32) ≤ 8 from c41) (by decide)
                      · have c54 : g4 = false := bz_f (Classical.not_not.mp c54)
                        have x4 := c54
                        refine m_ild (pc' := 58) cd_Mo_open rfl (Or.inr ⟨_, rfl, rfl, rfl⟩) l2 rfl ?_
                        refine m_if1 (t := 65) (pc' := 61) cd_Mo_open rfl rfl rfl (fun c58 => ?_) (fun c58 => ?_)
                        · exact absurd (show (1 : Int32) = 0 from c58) (by decide)
                        · have c58 : ¬ (1 : Int32) = 0 := c58
                          refine m_k1 (v := 1) (pc' := 62) cd_Mo_open rfl (by decide) rfl ?_
                          refine m_pure (pc' := 66) (st' := [.int 1]) cd_Mo_open rfl rfl (fun _ _ => rfl) ?_
                          refine m_ist (pc' := 67) cd_Mo_open rfl (Or.inr ⟨_, rfl, rfl, rfl⟩) (by decide) rfl (fun lv el => ?_)
                          have l0 := tm_lk el l0 rfl (by decide)
                          have l1 := tm_lk el l1 rfl (by decide)
                          have l3 := tm_lk el l3 rfl (by decide)
                          have l2 : lv.lookup 2 = some (.int 1) := tm_lks el
                          clear el
                          refine m_inc (y := 8) (pc' := 70) cd_Mo_open rfl l3 (by decide) (by decide) rfl (fun lv el => ?_)
                          have l0 := tm_lk el l0 rfl (by decide)
                          have l1 := tm_lk el l1 rfl (by decide)
                          have l2 := tm_lk el l2 rfl (by decide)
                          have l3 : lv.lookup 3 = some (.int 8) := tm_lks el
                          clear el
                          refine m_pure (pc' := 38) (st' := []) cd_Mo_open rfl rfl (fun _ _ => rfl) ?_
                          refine m_ild (pc' := 39) cd_Mo_open rfl (Or.inr ⟨_, rfl, rfl, rfl⟩) l3 rfl ?_
                          refine m_k2 (v := 8) (pc' := 41) cd_Mo_open rfl (by decide) rfl ?_
                          refine m_if2 (t := 73) (pc' := 44) cd_Mo_open rfl rfl rfl (fun c41 => ?_) (fun c41 => ?_)
                          · have c41 : (8 : Int32) ≤ 8 := c41
                            refine m_ild (pc' := 74) cd_Mo_open rfl (Or.inr ⟨_, rfl, rfl, rfl⟩) l2 rfl ?_
                            exact m_retz cd_Mo_open rfl (by decide) ⟨_, rfl, (by have k2 := kk _ _ _ hT4 (opn7 rfl ⟨hs_mono hL4.2.1 (hs_mono hL3.2.1 (hs_mono hL2.2.1 hs1)), hs_mono hL4.2.1 (hs_mono hL3.2.1 hs2), hs_mono hL4.2.1 hs3, hs4⟩); simp only [x1, x2, x3, x4] at k2; exact k2)⟩
                          · exact absurd (show ¬ (8 : Int32) ≤ 8 from c41) (by decide)
            · have c54 : g2 = false := bz_f (Classical.not_not.mp c54)
              have x2 := c54
              refine m_ild (pc' := 58) cd_Mo_open rfl (Or.inr ⟨_, rfl, rfl, rfl⟩) l2 rfl ?_
              refine m_if1 (t := 65) (pc' := 61) cd_Mo_open rfl rfl rfl (fun c58 => ?_) (fun c58 => ?_)
              · have c58 : (0 : Int32) = 0 := c58
                refine m_k1 (v := 0) (pc' := 66) cd_Mo_open rfl (by decide) rfl ?_
                refine m_ist (pc' := 67) cd_Mo_open rfl (Or.inr ⟨_, rfl, rfl, rfl⟩) (by decide) rfl (fun lv el => ?_)
                have l0 := tm_lk el l0 rfl (by decide)
                have l1 := tm_lk el l1 rfl (by decide)
                have l3 := tm_lk el l3 rfl (by decide)
                have l2 : lv.lookup 2 = some (.int 0) := tm_lks el
                clear el
                refine m_inc (y := 6) (pc' := 70) cd_Mo_open rfl l3 (by decide) (by decide) rfl (fun lv el => ?_)
                have l0 := tm_lk el l0 rfl (by decide)
                have l1 := tm_lk el l1 rfl (by decide)
                have l2 := tm_lk el l2 rfl (by decide)
                have l3 : lv.lookup 3 = some (.int 6) := tm_lks el
                clear el
                refine m_pure (pc' := 38) (st' := []) cd_Mo_open rfl rfl (fun _ _ => rfl) ?_
                refine m_ild (pc' := 39) cd_Mo_open rfl (Or.inr ⟨_, rfl, rfl, rfl⟩) l3 rfl ?_
                refine m_k2 (v := 8) (pc' := 41) cd_Mo_open rfl (by decide) rfl ?_
                refine m_if2 (t := 73) (pc' := 44) cd_Mo_open rfl rfl rfl (fun c41 => ?_) (fun c41 => ?_)
                · exact absurd (show (8 : Int32) ≤ 6 from c41) (by decide)
                · have c41 : ¬ (8 : Int32) ≤ 6 := c41
                  refine m_ald (pc' := 45) cd_Mo_open rfl (Or.inr ⟨_, rfl, rfl, rfl⟩) l0 rfl rfl ?_
                  refine m_ald (pc' := 46) cd_Mo_open rfl (Or.inr ⟨_, rfl, rfl, rfl⟩) l0 rfl rfl ?_
                  refine m_ild (pc' := 47) cd_Mo_open rfl (Or.inr ⟨_, rfl, rfl, rfl⟩) l1 rfl ?_
                  refine m_ild (pc' := 48) cd_Mo_open rfl (Or.inr ⟨_, rfl, rfl, rfl⟩) l3 rfl ?_
                  refine m_ci (pc' := 51) cd_Mo_open rfl rfl rfl rfl rfl cd_Mo_cell rfl (Nat.le_of_ble_eq_true rfl) (m_cellV (k := 6) (v := nI u) hL2.1 hX rfl (by decide) (by rw [hL2.2.2.1 1 (by decide), hL2.2.2.1 7 (by decide), hL1.2.2.1 1 (by decide), hL1.2.2.1 7 (by decide)]; exact c1) ?_)
                  show mg _ _ _ 51 _ [.int (nI u), .ref 1482] _ _
                  refine m_ci (pc' := 54) cd_Mo_open rfl rfl rfl rfl rfl cd_Mo_learn rfl (Nat.le_of_ble_eq_true rfl) (m_learnL hL2.1 c3 (fun h2 _ => by have hy : ∀ y, W y → Kn G y := fun y q => h2 y (hU2 y q); exact Kn_7 (hK hy) rfl (i := 2) (by decide)) (fun A3 W3 g3 hL3 hs3 => ?_))
                  have hU3 : ∀ y, W y → W3 y := fun y q => hL3.2.1 y (hU2 y q)
                  have hT3 := lrn_tr hT2 hL3
                  show mg _ _ _ 54 _ [.int (bz g3)] _ _
                  refine m_if1 (t := 61) (pc' := 57) cd_Mo_open rfl rfl rfl (fun c54 => ?_) (fun c54 => ?_)
                  · have c54 : g3 = true := bz_t c54
                    have x3 := c54
                    refine m_k1 (v := 1) (pc' := 62) cd_Mo_open rfl (by decide) rfl ?_
                    refine m_pure (pc' := 66) (st' := [.int 1]) cd_Mo_open rfl rfl (fun _ _ => rfl) ?_
                    refine m_ist (pc' := 67) cd_Mo_open rfl (Or.inr ⟨_, rfl, rfl, rfl⟩) (by decide) rfl (fun lv el => ?_)
                    have l0 := tm_lk el l0 rfl (by decide)
                    have l1 := tm_lk el l1 rfl (by decide)
                    have l3 := tm_lk el l3 rfl (by decide)
                    have l2 : lv.lookup 2 = some (.int 1) := tm_lks el
                    clear el
                    refine m_inc (y := 7) (pc' := 70) cd_Mo_open rfl l3 (by decide) (by decide) rfl (fun lv el => ?_)
                    have l0 := tm_lk el l0 rfl (by decide)
                    have l1 := tm_lk el l1 rfl (by decide)
                    have l2 := tm_lk el l2 rfl (by decide)
                    have l3 : lv.lookup 3 = some (.int 7) := tm_lks el
                    clear el
                    refine m_pure (pc' := 38) (st' := []) cd_Mo_open rfl rfl (fun _ _ => rfl) ?_
                    refine m_ild (pc' := 39) cd_Mo_open rfl (Or.inr ⟨_, rfl, rfl, rfl⟩) l3 rfl ?_
                    refine m_k2 (v := 8) (pc' := 41) cd_Mo_open rfl (by decide) rfl ?_
                    refine m_if2 (t := 73) (pc' := 44) cd_Mo_open rfl rfl rfl (fun c41 => ?_) (fun c41 => ?_)
                    · exact absurd (show (8 : Int32) ≤ 7 from c41) (by decide)
                    · have c41 : ¬ (8 : Int32) ≤ 7 := c41
                      refine m_ald (pc' := 45) cd_Mo_open rfl (Or.inr ⟨_, rfl, rfl, rfl⟩) l0 rfl rfl ?_
                      refine m_ald (pc' := 46) cd_Mo_open rfl (Or.inr ⟨_, rfl, rfl, rfl⟩) l0 rfl rfl ?_
                      refine m_ild (pc' := 47) cd_Mo_open rfl (Or.inr ⟨_, rfl, rfl, rfl⟩) l1 rfl ?_
                      refine m_ild (pc' := 48) cd_Mo_open rfl (Or.inr ⟨_, rfl, rfl, rfl⟩) l3 rfl ?_
                      refine m_ci (pc' := 51) cd_Mo_open rfl rfl rfl rfl rfl cd_Mo_cell rfl (Nat.le_of_ble_eq_true rfl) (m_cellV (k := 7) (v := nI x) hL3.1 hX rfl (by decide) (by rw [hL3.2.2.1 1 (by decide), hL3.2.2.1 7 (by decide), hL2.2.2.1 1 (by decide), hL2.2.2.1 7 (by decide), hL1.2.2.1 1 (by decide), hL1.2.2.1 7 (by decide)]; exact d1) ?_)
                      show mg _ _ _ 51 _ [.int (nI x), .ref 1482] _ _
                      refine m_ci (pc' := 54) cd_Mo_open rfl rfl rfl rfl rfl cd_Mo_learn rfl (Nat.le_of_ble_eq_true rfl) (m_learnL hL3.1 d3 (fun h3 _ => by have hy : ∀ y, W y → Kn G y := fun y q => h3 y (hU3 y q); exact Kn_7 (hK hy) rfl (i := 3) (by decide)) (fun A4 W4 g4 hL4 hs4 => ?_))
                      have hU4 : ∀ y, W y → W4 y := fun y q => hL4.2.1 y (hU3 y q)
                      have hT4 := lrn_tr hT3 hL4
                      show mg _ _ _ 54 _ [.int (bz g4)] _ _
                      refine m_if1 (t := 61) (pc' := 57) cd_Mo_open rfl rfl rfl (fun c54 => ?_) (fun c54 => ?_)
                      · have c54 : g4 = true := bz_t c54
                        have x4 := c54
                        refine m_k1 (v := 1) (pc' := 62) cd_Mo_open rfl (by decide) rfl ?_
                        refine m_pure (pc' := 66) (st' := [.int 1]) cd_Mo_open rfl rfl (fun _ _ => rfl) ?_
                        refine m_ist (pc' := 67) cd_Mo_open rfl (Or.inr ⟨_, rfl, rfl, rfl⟩) (by decide) rfl (fun lv el => ?_)
                        have l0 := tm_lk el l0 rfl (by decide)
                        have l1 := tm_lk el l1 rfl (by decide)
                        have l3 := tm_lk el l3 rfl (by decide)
                        have l2 : lv.lookup 2 = some (.int 1) := tm_lks el
                        clear el
                        refine m_inc (y := 8) (pc' := 70) cd_Mo_open rfl l3 (by decide) (by decide) rfl (fun lv el => ?_)
                        have l0 := tm_lk el l0 rfl (by decide)
                        have l1 := tm_lk el l1 rfl (by decide)
                        have l2 := tm_lk el l2 rfl (by decide)
                        have l3 : lv.lookup 3 = some (.int 8) := tm_lks el
                        clear el
                        refine m_pure (pc' := 38) (st' := []) cd_Mo_open rfl rfl (fun _ _ => rfl) ?_
                        refine m_ild (pc' := 39) cd_Mo_open rfl (Or.inr ⟨_, rfl, rfl, rfl⟩) l3 rfl ?_
                        refine m_k2 (v := 8) (pc' := 41) cd_Mo_open rfl (by decide) rfl ?_
                        refine m_if2 (t := 73) (pc' := 44) cd_Mo_open rfl rfl rfl (fun c41 => ?_) (fun c41 => ?_)
                        · have c41 : (8 : Int32) ≤ 8 := c41
                          refine m_ild (pc' := 74) cd_Mo_open rfl (Or.inr ⟨_, rfl, rfl, rfl⟩) l2 rfl ?_
                          exact m_retz cd_Mo_open rfl (by decide) ⟨_, rfl, (by have k2 := kk _ _ _ hT4 (opn7 rfl ⟨hs_mono hL4.2.1 (hs_mono hL3.2.1 (hs_mono hL2.2.1 hs1)), hs_mono hL4.2.1 (hs_mono hL3.2.1 hs2), hs_mono hL4.2.1 hs3, hs4⟩); simp only [x1, x2, x3, x4] at k2; exact k2)⟩
                        · exact absurd (show ¬ (8 : Int32) ≤ 8 from c41) (by decide)
                      · have c54 : g4 = false := bz_f (Classical.not_not.mp c54)
                        have x4 := c54
                        refine m_ild (pc' := 58) cd_Mo_open rfl (Or.inr ⟨_, rfl, rfl, rfl⟩) l2 rfl ?_
                        refine m_if1 (t := 65) (pc' := 61) cd_Mo_open rfl rfl rfl (fun c58 => ?_) (fun c58 => ?_)
                        · exact absurd (show (1 : Int32) = 0 from c58) (by decide)
                        · have c58 : ¬ (1 : Int32) = 0 := c58
                          refine m_k1 (v := 1) (pc' := 62) cd_Mo_open rfl (by decide) rfl ?_
                          refine m_pure (pc' := 66) (st' := [.int 1]) cd_Mo_open rfl rfl (fun _ _ => rfl) ?_
                          refine m_ist (pc' := 67) cd_Mo_open rfl (Or.inr ⟨_, rfl, rfl, rfl⟩) (by decide) rfl (fun lv el => ?_)
                          have l0 := tm_lk el l0 rfl (by decide)
                          have l1 := tm_lk el l1 rfl (by decide)
                          have l3 := tm_lk el l3 rfl (by decide)
                          have l2 : lv.lookup 2 = some (.int 1) := tm_lks el
                          clear el
                          refine m_inc (y := 8) (pc' := 70) cd_Mo_open rfl l3 (by decide) (by decide) rfl (fun lv el => ?_)
                          have l0 := tm_lk el l0 rfl (by decide)
                          have l1 := tm_lk el l1 rfl (by decide)
                          have l2 := tm_lk el l2 rfl (by decide)
                          have l3 : lv.lookup 3 = some (.int 8) := tm_lks el
                          clear el
                          refine m_pure (pc' := 38) (st' := []) cd_Mo_open rfl rfl (fun _ _ => rfl) ?_
                          refine m_ild (pc' := 39) cd_Mo_open rfl (Or.inr ⟨_, rfl, rfl, rfl⟩) l3 rfl ?_
                          refine m_k2 (v := 8) (pc' := 41) cd_Mo_open rfl (by decide) rfl ?_
                          refine m_if2 (t := 73) (pc' := 44) cd_Mo_open rfl rfl rfl (fun c41 => ?_) (fun c41 => ?_)
                          · have c41 : (8 : Int32) ≤ 8 := c41
                            refine m_ild (pc' := 74) cd_Mo_open rfl (Or.inr ⟨_, rfl, rfl, rfl⟩) l2 rfl ?_
                            exact m_retz cd_Mo_open rfl (by decide) ⟨_, rfl, (by have k2 := kk _ _ _ hT4 (opn7 rfl ⟨hs_mono hL4.2.1 (hs_mono hL3.2.1 (hs_mono hL2.2.1 hs1)), hs_mono hL4.2.1 (hs_mono hL3.2.1 hs2), hs_mono hL4.2.1 hs3, hs4⟩); simp only [x1, x2, x3, x4] at k2; exact k2)⟩
                          · exact absurd (show ¬ (8 : Int32) ≤ 8 from c41) (by decide)
                  · have c54 : g3 = false := bz_f (Classical.not_not.mp c54)
                    have x3 := c54
                    refine m_ild (pc' := 58) cd_Mo_open rfl (Or.inr ⟨_, rfl, rfl, rfl⟩) l2 rfl ?_
                    refine m_if1 (t := 65) (pc' := 61) cd_Mo_open rfl rfl rfl (fun c58 => ?_) (fun c58 => ?_)
                    · have c58 : (0 : Int32) = 0 := c58
                      refine m_k1 (v := 0) (pc' := 66) cd_Mo_open rfl (by decide) rfl ?_
                      refine m_ist (pc' := 67) cd_Mo_open rfl (Or.inr ⟨_, rfl, rfl, rfl⟩) (by decide) rfl (fun lv el => ?_)
                      have l0 := tm_lk el l0 rfl (by decide)
                      have l1 := tm_lk el l1 rfl (by decide)
                      have l3 := tm_lk el l3 rfl (by decide)
                      have l2 : lv.lookup 2 = some (.int 0) := tm_lks el
                      clear el
                      refine m_inc (y := 7) (pc' := 70) cd_Mo_open rfl l3 (by decide) (by decide) rfl (fun lv el => ?_)
                      have l0 := tm_lk el l0 rfl (by decide)
                      have l1 := tm_lk el l1 rfl (by decide)
                      have l2 := tm_lk el l2 rfl (by decide)
                      have l3 : lv.lookup 3 = some (.int 7) := tm_lks el
                      clear el
                      refine m_pure (pc' := 38) (st' := []) cd_Mo_open rfl rfl (fun _ _ => rfl) ?_
                      refine m_ild (pc' := 39) cd_Mo_open rfl (Or.inr ⟨_, rfl, rfl, rfl⟩) l3 rfl ?_
                      refine m_k2 (v := 8) (pc' := 41) cd_Mo_open rfl (by decide) rfl ?_
                      refine m_if2 (t := 73) (pc' := 44) cd_Mo_open rfl rfl rfl (fun c41 => ?_) (fun c41 => ?_)
                      · exact absurd (show (8 : Int32) ≤ 7 from c41) (by decide)
                      · have c41 : ¬ (8 : Int32) ≤ 7 := c41
                        refine m_ald (pc' := 45) cd_Mo_open rfl (Or.inr ⟨_, rfl, rfl, rfl⟩) l0 rfl rfl ?_
                        refine m_ald (pc' := 46) cd_Mo_open rfl (Or.inr ⟨_, rfl, rfl, rfl⟩) l0 rfl rfl ?_
                        refine m_ild (pc' := 47) cd_Mo_open rfl (Or.inr ⟨_, rfl, rfl, rfl⟩) l1 rfl ?_
                        refine m_ild (pc' := 48) cd_Mo_open rfl (Or.inr ⟨_, rfl, rfl, rfl⟩) l3 rfl ?_
                        refine m_ci (pc' := 51) cd_Mo_open rfl rfl rfl rfl rfl cd_Mo_cell rfl (Nat.le_of_ble_eq_true rfl) (m_cellV (k := 7) (v := nI x) hL3.1 hX rfl (by decide) (by rw [hL3.2.2.1 1 (by decide), hL3.2.2.1 7 (by decide), hL2.2.2.1 1 (by decide), hL2.2.2.1 7 (by decide), hL1.2.2.1 1 (by decide), hL1.2.2.1 7 (by decide)]; exact d1) ?_)
                        show mg _ _ _ 51 _ [.int (nI x), .ref 1482] _ _
                        refine m_ci (pc' := 54) cd_Mo_open rfl rfl rfl rfl rfl cd_Mo_learn rfl (Nat.le_of_ble_eq_true rfl) (m_learnL hL3.1 d3 (fun h3 _ => by have hy : ∀ y, W y → Kn G y := fun y q => h3 y (hU3 y q); exact Kn_7 (hK hy) rfl (i := 3) (by decide)) (fun A4 W4 g4 hL4 hs4 => ?_))
                        have hU4 : ∀ y, W y → W4 y := fun y q => hL4.2.1 y (hU3 y q)
                        have hT4 := lrn_tr hT3 hL4
                        show mg _ _ _ 54 _ [.int (bz g4)] _ _
                        refine m_if1 (t := 61) (pc' := 57) cd_Mo_open rfl rfl rfl (fun c54 => ?_) (fun c54 => ?_)
                        · have c54 : g4 = true := bz_t c54
                          have x4 := c54
                          refine m_k1 (v := 1) (pc' := 62) cd_Mo_open rfl (by decide) rfl ?_
                          refine m_pure (pc' := 66) (st' := [.int 1]) cd_Mo_open rfl rfl (fun _ _ => rfl) ?_
                          refine m_ist (pc' := 67) cd_Mo_open rfl (Or.inr ⟨_, rfl, rfl, rfl⟩) (by decide) rfl (fun lv el => ?_)
                          have l0 := tm_lk el l0 rfl (by decide)
                          have l1 := tm_lk el l1 rfl (by decide)
                          have l3 := tm_lk el l3 rfl (by decide)
                          have l2 : lv.lookup 2 = some (.int 1) := tm_lks el
                          clear el
                          refine m_inc (y := 8) (pc' := 70) cd_Mo_open rfl l3 (by decide) (by decide) rfl (fun lv el => ?_)
                          have l0 := tm_lk el l0 rfl (by decide)
                          have l1 := tm_lk el l1 rfl (by decide)
                          have l2 := tm_lk el l2 rfl (by decide)
                          have l3 : lv.lookup 3 = some (.int 8) := tm_lks el
                          clear el
                          refine m_pure (pc' := 38) (st' := []) cd_Mo_open rfl rfl (fun _ _ => rfl) ?_
                          refine m_ild (pc' := 39) cd_Mo_open rfl (Or.inr ⟨_, rfl, rfl, rfl⟩) l3 rfl ?_
                          refine m_k2 (v := 8) (pc' := 41) cd_Mo_open rfl (by decide) rfl ?_
                          refine m_if2 (t := 73) (pc' := 44) cd_Mo_open rfl rfl rfl (fun c41 => ?_) (fun c41 => ?_)
                          · have c41 : (8 : Int32) ≤ 8 := c41
                            refine m_ild (pc' := 74) cd_Mo_open rfl (Or.inr ⟨_, rfl, rfl, rfl⟩) l2 rfl ?_
                            exact m_retz cd_Mo_open rfl (by decide) ⟨_, rfl, (by have k2 := kk _ _ _ hT4 (opn7 rfl ⟨hs_mono hL4.2.1 (hs_mono hL3.2.1 (hs_mono hL2.2.1 hs1)), hs_mono hL4.2.1 (hs_mono hL3.2.1 hs2), hs_mono hL4.2.1 hs3, hs4⟩); simp only [x1, x2, x3, x4] at k2; exact k2)⟩
                          · exact absurd (show ¬ (8 : Int32) ≤ 8 from c41) (by decide)
                        · have c54 : g4 = false := bz_f (Classical.not_not.mp c54)
                          have x4 := c54
                          refine m_ild (pc' := 58) cd_Mo_open rfl (Or.inr ⟨_, rfl, rfl, rfl⟩) l2 rfl ?_
                          refine m_if1 (t := 65) (pc' := 61) cd_Mo_open rfl rfl rfl (fun c58 => ?_) (fun c58 => ?_)
                          · have c58 : (0 : Int32) = 0 := c58
                            refine m_k1 (v := 0) (pc' := 66) cd_Mo_open rfl (by decide) rfl ?_
                            refine m_ist (pc' := 67) cd_Mo_open rfl (Or.inr ⟨_, rfl, rfl, rfl⟩) (by decide) rfl (fun lv el => ?_)
                            have l0 := tm_lk el l0 rfl (by decide)
                            have l1 := tm_lk el l1 rfl (by decide)
                            have l3 := tm_lk el l3 rfl (by decide)
                            have l2 : lv.lookup 2 = some (.int 0) := tm_lks el
                            clear el
                            refine m_inc (y := 8) (pc' := 70) cd_Mo_open rfl l3 (by decide) (by decide) rfl (fun lv el => ?_)
                            have l0 := tm_lk el l0 rfl (by decide)
                            have l1 := tm_lk el l1 rfl (by decide)
                            have l2 := tm_lk el l2 rfl (by decide)
                            have l3 : lv.lookup 3 = some (.int 8) := tm_lks el
                            clear el
                            refine m_pure (pc' := 38) (st' := []) cd_Mo_open rfl rfl (fun _ _ => rfl) ?_
                            refine m_ild (pc' := 39) cd_Mo_open rfl (Or.inr ⟨_, rfl, rfl, rfl⟩) l3 rfl ?_
                            refine m_k2 (v := 8) (pc' := 41) cd_Mo_open rfl (by decide) rfl ?_
                            refine m_if2 (t := 73) (pc' := 44) cd_Mo_open rfl rfl rfl (fun c41 => ?_) (fun c41 => ?_)
                            · have c41 : (8 : Int32) ≤ 8 := c41
                              refine m_ild (pc' := 74) cd_Mo_open rfl (Or.inr ⟨_, rfl, rfl, rfl⟩) l2 rfl ?_
                              exact m_retz cd_Mo_open rfl (by decide) ⟨_, rfl, (by have k2 := kk _ _ _ hT4 (opn7 rfl ⟨hs_mono hL4.2.1 (hs_mono hL3.2.1 (hs_mono hL2.2.1 hs1)), hs_mono hL4.2.1 (hs_mono hL3.2.1 hs2), hs_mono hL4.2.1 hs3, hs4⟩); simp only [x1, x2, x3, x4] at k2; exact k2)⟩
                            · exact absurd (show ¬ (8 : Int32) ≤ 8 from c41) (by decide)
                          · exact absurd (show ¬ (0 : Int32) = 0 from c58) (by decide)
                    · exact absurd (show ¬ (0 : Int32) = 0 from c58) (by decide)
              · exact absurd (show ¬ (0 : Int32) = 0 from c58) (by decide)
        · exact absurd (show ¬ (0 : Int32) = 0 from c58) (by decide)
  show mg sc (d + 1) 276 0 [(0, .ref 1482), (1, .int (nI i))] [] (f, A) _
  generalize elv : ([(0, .ref 1482), (1, .int (nI i))] : tm_L) = lv
  have l0 : lv.lookup 0 = some (.ref 1482) := by rw [← elv]; rfl
  have l1 : lv.lookup 1 = some (.int (nI i)) := by rw [← elv]; rfl
  clear elv
  refine m_k1 (v := 0) (pc' := 1) cd_Mo_open rfl (by decide) rfl ?_
  refine m_ist (pc' := 2) cd_Mo_open rfl (Or.inr ⟨_, rfl, rfl, rfl⟩) (by decide) rfl (fun lv el => ?_)
  have l0 := tm_lk el l0 rfl (by decide)
  have l1 := tm_lk el l1 rfl (by decide)
  have l2 : lv.lookup 2 = some (.int 0) := tm_lks el
  clear el
  refine m_ald (pc' := 3) cd_Mo_open rfl (Or.inr ⟨_, rfl, rfl, rfl⟩) l0 rfl rfl ?_
  refine m_fR (r := 0) (a := 1) (ad := 1483) (pc' := 6) rfl rfl cd_Mo_open rfl rfl rfl rfl rfl ?_
  refine m_ild (pc' := 7) cd_Mo_open rfl (Or.inr ⟨_, rfl, rfl, rfl⟩) l1 rfl ?_
  refine m_aI (r := 0) (a := 1) (g := (A 1)) (x := (kd X)) (pc' := 8) rfl rfl cd_Mo_open rfl rfl rfl (vp_in_nI (by omega) (by decide)) (by rw [(nI_clamp (by omega))]; exact hw) ?_
  by_cases s8_5 : (kd X) = 5
  · skip
    exact absurd s8_5 k5
  by_cases s8_6 : (kd X) = 6
  · skip
    exact absurd s8_6 k6
  by_cases s8_7 : (kd X) = 7
  · skip
    exact absurd s8_7 k7
  refine m_swd (t := 134) cd_Mo_open rfl rfl (by have := i32_ne (n := 5) (by decide) s8_5; have := i32_ne (n := 6) (by decide) s8_6; have := i32_ne (n := 7) (by decide) s8_7; omega) ?_
  refine m_k1 (v := 0) (pc' := 135) cd_Mo_open rfl (by decide) rfl ?_
  exact m_retz cd_Mo_open rfl (by decide) ⟨_, rfl, kk A W false (lrn_0 hM) (opnN k5 k6 k7)⟩
