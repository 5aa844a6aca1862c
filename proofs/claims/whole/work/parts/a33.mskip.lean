/-! The reference: a session that receives; stepSession, skipSession -/
def mjKf (g f : Nat → Int32) : Nat → Int32 := fun k => if k = 0 ∨ k = 7 ∨ k = 61 then g k else f k
def mjKA (B A : Nat → Nat → Int32) : Nat → Nat → Int32 := fun j => if (1 ≤ j ∧ j ≤ 8) ∨ j = 43 ∨ j = 44 then B j else A j
theorem mjKf_of {g f : Nat → Int32} (h : ∀ k, ¬ (k = 0 ∨ k = 7 ∨ k = 61) → g k = f k) : mjKf g f = g := by
  funext j
  unfold mjKf
  split
  · rfl
  · rename_i q; exact (h j q).symm
theorem mjKA_of {B A : Nat → Nat → Int32} (h : ∀ j, ¬ ((1 ≤ j ∧ j ≤ 8) ∨ j = 43 ∨ j = 44) → B j = A j) : mjKA B A = B := by
  funext j
  unfold mjKA
  split
  · rfl
  · rename_i q; exact (h j q).symm
theorem mjKf_in {g f f' : Nat → Int32} (h : ∀ k, ¬ (k = 0 ∨ k = 7 ∨ k = 61) → f' k = f k) : mjKf g f' = mjKf g f := by
  funext j
  unfold mjKf
  split
  · rfl
  · rename_i q; exact h j q
theorem mjKA_in {B A A' : Nat → Nat → Int32} (h : ∀ j, ¬ ((1 ≤ j ∧ j ≤ 8) ∨ j = 43 ∨ j = 44) → A' j = A j) : mjKA B A' = mjKA B A := by
  funext j
  unfold mjKA
  split
  · rfl
  · rename_i q; exact h j q
theorem mK_end {f f' : Nat → Int32} {A A' : Nat → Nat → Int32} {Q : MS → Prop} (h1 : ∀ k, ¬ (k = 0 ∨ k = 7 ∨ k = 61) → f' k = f k) (h2 : ∀ j, ¬ ((1 ≤ j ∧ j ≤ 8) ∨ j = 43 ∨ j = 44) → A' j = A j) (h : Q (mjKf f' f, mjKA A' A)) : Q (f', A') := by
  rw [mjKf_of h1, mjKA_of h2] at h
  exact h
/-- shifted down by s from a to b -/
def shW (s : Nat) (g : Nat → Int32) (a b : Nat) : Nat → Int32 := fun j => if a ≤ j ∧ j < b then g (j + s) else g j
theorem shW_0 (s : Nat) (g : Nat → Int32) (a : Nat) : shW s g a a = g := funext fun j => if_neg (by omega)
theorem shW_n (s : Nat) (g : Nat → Int32) (a b : Nat) : shW s g a b (b + s) = g (b + s) := if_neg (by omega)
theorem shW_s (s : Nat) (g : Nat → Int32) {a b : Nat} (h : a ≤ b) : upd (shW s g a b) b (g (b + s)) = shW s g a (b + 1) := funext fun j => by
  show (if j = b then g (b + s) else shW s g a b j) = _
  unfold shW
  by_cases c : j = b
  · rw [if_pos c, if_pos (by omega), c]
  · rw [if_neg c]
    by_cases c2 : a ≤ j ∧ j < b
    · rw [if_pos c2, if_pos (by omega)]
    · rw [if_neg c2, if_neg (by omega)]
theorem shW_in {s : Nat} {g : Nat → Int32} {a b j : Nat} (h : a ≤ j) (h2 : j < b) : shW s g a b j = g (j + s) := if_pos ⟨h, h2⟩
theorem shW_out {s : Nat} {g : Nat → Int32} {a b j : Nat} (h : ¬ (a ≤ j ∧ j < b)) : shW s g a b j = g j := if_neg h
theorem qSe_r {w g : Nat → Int32} {T T' : List Tm} {a : Nat} {th ch ba ro mi sd bp bo th' ch' ro' sd' : Tm} {nx n b nx' : Int32} {le : List (Tm × Int32 × Tm)} {br on : Bool} (hT : T <+: T') (h : qSe w T a ((th, ch, nx, le), ba, ro, mi, sd, n, b, br, bp, bo, on)) (e : ∀ k, k < 38 → k ≠ 1 → k ≠ 3 → k ≠ 4 → k ≠ 7 → k ≠ 8 → g (a + k) = w (a + k)) (h1 : tv T' (g (a + 1)) ro') (h3 : tv T' (g (a + 3)) th') (h4 : tv T' (g (a + 4)) sd') (h7 : tv T' (g (a + 7)) ch') (h8 : g (a + 8) = nx') : qSe g T' a ((th', ch', nx', le), ba, ro', mi, sd', n, b, br, bp, bo, on) := by
  obtain ⟨⟨a1, a2, a3, a4, a5, a6⟩, ⟨a7, a8, a9⟩, ⟨a10, a11⟩, ⟨a12, a13⟩, a14, a15⟩ := h
  have E : ∀ k, k < 38 → k ≠ 1 → k ≠ 3 → k ≠ 4 → k ≠ 7 → k ≠ 8 → ∀ {X : Tm}, tv T (w (a + k)) X → tv T' (g (a + k)) X := fun k k1 k2 k3 k4 k5 k6 X hX => by rw [e k k1 k2 k3 k4 k5 k6]; exact tv_mono hT hX
  refine ⟨⟨E 0 (by decide) (by decide) (by decide) (by decide) (by decide) (by decide) a1, h1, E 2 (by decide) (by decide) (by decide) (by decide) (by decide) (by decide) a3, h3, h4, h7⟩, ⟨by rw [e 5 (by decide) (by decide) (by decide) (by decide) (by decide) (by decide)]; exact a7, by rw [e 6 (by decide) (by decide) (by decide) (by decide) (by decide) (by decide)]; exact a8, h8⟩, ⟨by rw [e 9 (by decide) (by decide) (by decide) (by decide) (by decide) (by decide)]; exact a10, fun q => ⟨E 10 (by decide) (by decide) (by decide) (by decide) (by decide) (by decide) (a11 q).1, E 11 (by decide) (by decide) (by decide) (by decide) (by decide) (by decide) (a11 q).2⟩⟩, ⟨by rw [e 12 (by decide) (by decide) (by decide) (by decide) (by decide) (by decide)]; exact a12, a13⟩, fun i x hx => ?_, by rw [e 37 (by decide) (by decide) (by decide) (by decide) (by decide) (by decide)]; exact a15⟩
  have hi : i < le.length := (List.getElem?_eq_some_iff.mp hx).1
  obtain ⟨c1, c2, c3⟩ := a14 i x hx
  have F : ∀ k, 13 ≤ k → k < 38 → g (a + k) = w (a + k) := fun k q1 q2 => e k q2 (by omega) (by omega) (by omega) (by omega) (by omega)
  have z1 : a + 13 + 3 * i = a + (13 + 3 * i) := by omega
  have z2 : a + 14 + 3 * i = a + (14 + 3 * i) := by omega
  have z3 : a + 15 + 3 * i = a + (15 + 3 * i) := by omega
  rw [z1] at c1
  rw [z2] at c2
  rw [z3] at c3
  rw [z1, z2, z3, F _ (by omega) (by omega), F _ (by omega) (by omega), F _ (by omega) (by omega)]
  exact ⟨tv_mono hT c1, c2, tv_mono hT c3⟩
/-- other left keys -/
theorem qSe_le {w g : Nat → Int32} {T T' : List Tm} {a : Nat} {th ch ba ro mi sd bp bo : Tm} {nx n b : Int32} {le le' : List (Tm × Int32 × Tm)} {br on : Bool} (hT : T <+: T') (h : qSe w T a ((th, ch, nx, le), ba, ro, mi, sd, n, b, br, bp, bo, on)) (e : ∀ k, k < 12 ∨ k = 37 → g (a + k) = w (a + k)) (h1 : g (a + 12) = nI le'.length) (h2 : le'.length ≤ 8) (h3 : qLf g T' a le') : qSe g T' a ((th, ch, nx, le'), ba, ro, mi, sd, n, b, br, bp, bo, on) := by
  obtain ⟨⟨a1, a2, a3, a4, a5, a6⟩, ⟨a7, a8, a9⟩, ⟨a10, a11⟩, ⟨a12, a13⟩, a14, a15⟩ := h
  have E : ∀ k, k < 12 ∨ k = 37 → ∀ {X : Tm}, tv T (w (a + k)) X → tv T' (g (a + k)) X := fun k k1 X hX => by rw [e k k1]; exact tv_mono hT hX
  exact ⟨⟨E 0 (by decide) a1, E 1 (by decide) a2, E 2 (by decide) a3, E 3 (by decide) a4, E 4 (by decide) a5, E 7 (by decide) a6⟩, ⟨(e 5 (by decide)).trans a7, (e 6 (by decide)).trans a8, (e 8 (by decide)).trans a9⟩, ⟨(e 9 (by decide)).trans a10, fun q => ⟨E 10 (by decide) (a11 q).1, E 11 (by decide) (a11 q).2⟩⟩, ⟨h1, h2⟩, h3, (e 37 (by decide)).trans a15⟩
theorem qLf_shift {w g : Nat → Int32} {T : List Tm} {le : List (Tm × Int32 × Tm)} {i : Nat} (h8 : le.length ≤ 8) (h : qLf w T 0 le) (e : ∀ k, 13 ≤ k → k < 37 → g k = shW 3 w (13 + 3 * i) 34 k) : qLf g T 0 (le.eraseIdx i) := by
  intro k x hx
  rw [List.getElem?_eraseIdx] at hx
  by_cases c : k < i
  · rw [if_pos c] at hx
    have hk := (List.getElem?_eq_some_iff.mp hx).1
    have q := h k x hx
    rw [e _ (by omega) (by omega), e _ (by omega) (by omega), e _ (by omega) (by omega), shW_out (by omega), shW_out (by omega), shW_out (by omega)]
    exact q
  · rw [if_neg c] at hx
    have hk := (List.getElem?_eq_some_iff.mp hx).1
    have q := h (k + 1) x hx
    rw [e _ (by omega) (by omega), e _ (by omega) (by omega), e _ (by omega) (by omega), shW_in (by omega) (by omega), shW_in (by omega) (by omega), shW_in (by omega) (by omega)]
    rw [show 0 + 13 + 3 * k + 3 = 0 + 13 + 3 * (k + 1) by omega, show 0 + 14 + 3 * k + 3 = 0 + 14 + 3 * (k + 1) by omega, show 0 + 15 + 3 * k + 3 = 0 + 15 + 3 * (k + 1) by omega]
    exact q
theorem qLf_push {w g : Nat → Int32} {T T' : List Tm} {le : List (Tm × Int32 × Tm)} {x : Tm × Int32 × Tm} (hT : T <+: T') (h8 : le.length < 8) (h : qLf w T 0 le) (e : ∀ k, 13 ≤ k → k < 13 + 3 * le.length → g k = w k) (h1 : tv T' (g (13 + 3 * le.length)) x.1) (h2 : g (13 + 3 * le.length + 1) = x.2.1) (h3 : tv T' (g (13 + 3 * le.length + 2)) x.2.2) : qLf g T' 0 (le ++ [x]) := by
  intro k y hy
  by_cases c : k < le.length
  · rw [List.getElem?_append_left c] at hy
    have q := h k y hy
    rw [e _ (by omega) (by omega), e _ (by omega) (by omega), e _ (by omega) (by omega)]
    exact ⟨tv_mono hT q.1, q.2.1, tv_mono hT q.2.2⟩
  · rw [List.getElem?_append_right (by omega)] at hy
    by_cases c2 : k - le.length = 0
    · rw [c2] at hy
      cases hy
      rw [show k = le.length by omega, show 0 + 13 + 3 * le.length = 13 + 3 * le.length by omega, show 0 + 14 + 3 * le.length = 13 + 3 * le.length + 1 by omega, show 0 + 15 + 3 * le.length = 13 + 3 * le.length + 2 by omega]
      exact ⟨h1, h2, h3⟩
    · rw [List.getElem?_eq_none (by simp; omega)] at hy
      cases hy
set_option maxRecDepth 100000 in
theorem m_stepSes {sc : tm_X} {d : Nat} {f : Nat → Int32} {A : Nat → Nat → Int32} {T : List Tm} {DL : List (Int32 × Int32)} {G Kw : Tm → Prop} {th ch ba ro mi sd bp bo : Tm} {nx n b : Int32} {le : List (Tm × Int32 × Tm)} {br on : Bool} {Q : MS → Prop} (hM : MT f A T DL G Kw) (hl : T.length + 1 ≤ 4000) (hr : rc (A 1) T.length < 1000) (hS : qSe (A 43) T 0 ((th, ch, nx, le), ba, ro, mi, sd, n, b, br, bp, bo, on)) (kk : ∀ f1 A1 T', T <+: T' → T'.length ≤ T.length + 1 → rc (A1 1) T'.length ≤ rc (A 1) T.length → MT (mjKf f1 f) (mjKA A1 A) T' DL G Kw → f1 61 = f 61 → A1 44 = A 44 → qSe (A1 43) T' 0 ((th, Tmx 7 ch tz, nx + 1, le), ba, ro, mi, sd, n, b, br, bp, bo, on) → Q (mjKf f1 f, mjKA A1 A)) : mGv sc (d + 4) 238 [.ref 1482] (f, A) Q := by
  have hTl := MT_len hM
  have hS2 := hS
  obtain ⟨⟨a1, a2, a3, a4, a5, a6⟩, ⟨a7, a8, a9⟩, ⟨a10, a11⟩, _⟩ := hS
  show mg sc (d + 4) 238 0 [(0, .ref 1482)] [] (f, A) _
  generalize elv : ([(0, .ref 1482)] : tm_L) = lv
  have l0 : lv.lookup 0 = some (.ref 1482) := by rw [← elv]; rfl
  clear elv
  refine m_ald (pc' := 1) cd_Mo_stepSession rfl (Or.inr ⟨_, rfl, rfl, rfl⟩) l0 rfl rfl ?_
  refine m_fR (r := 42) (a := 43) (ad := 1525) (pc' := 4) rfl rfl cd_Mo_stepSession rfl rfl rfl rfl rfl ?_
  refine m_k2 (v := 7) (pc' := 6) cd_Mo_stepSession rfl (by decide) rfl ?_
  refine m_ald (pc' := 7) cd_Mo_stepSession rfl (Or.inr ⟨_, rfl, rfl, rfl⟩) l0 rfl rfl ?_
  refine m_k2 (v := 7) (pc' := 9) cd_Mo_stepSession rfl (by decide) rfl ?_
  refine m_ald (pc' := 10) cd_Mo_stepSession rfl (Or.inr ⟨_, rfl, rfl, rfl⟩) l0 rfl rfl ?_
  refine m_fR (r := 42) (a := 43) (ad := 1525) (pc' := 13) rfl rfl cd_Mo_stepSession rfl rfl rfl rfl rfl ?_
  refine m_k2 (v := 7) (pc' := 15) cd_Mo_stepSession rfl (by decide) rfl ?_
  refine m_aI (r := 42) (a := 43) (g := (A 43)) (x := ((A 43) 7)) (pc' := 16) rfl rfl cd_Mo_stepSession rfl rfl rfl (vp_in_nI (n := 7) (by decide) (by decide)) (congrArg (A 43) (show (7 : Int32).toNatClampNeg = 7 by decide)) ?_
  refine m_k1 (v := 0) (pc' := 17) cd_Mo_stepSession rfl (by decide) rfl ?_
  refine m_ci (pc' := 20) cd_Mo_stepSession rfl rfl rfl rfl rfl cd_Mo_mix rfl (Nat.le_of_ble_eq_true rfl) (m_mix (by exact MT_i hM rfl rfl rfl rfl rfl rfl rfl rfl rfl rfl) (by omega) (by show rc (A 1) T.length < 1000; omega) a6 (MT_z hM) (fun f1 A1 T1 r1 hx1 hr1 => ?_))
  obtain ⟨p1, q1, s1, hM1⟩ := hx1
  have hM1 : MT f1 A1 T1 _ _ _ := MT_i hM1 rfl rfl rfl rfl rfl rfl rfl rfl rfl rfl
  have s1 : rc (A1 1) T1.length ≤ rc (A 1) T.length + 0 := s1
  show mg _ _ _ 20 _ [.int r1, .int 7, .ref 1525] _ _
  refine m_aS (r := 42) (a := 43) (g := (A 43)) (p := 7) (pc' := 21) rfl rfl cd_Mo_stepSession rfl rfl rfl (vp_in_nI (n := 7) (by decide) (by decide)) (show (7 : Int32).toNatClampNeg = 7 by decide) ?_
  refine m_ald (pc' := 22) cd_Mo_stepSession rfl (Or.inr ⟨_, rfl, rfl, rfl⟩) l0 rfl rfl ?_
  refine m_fR (r := 42) (a := 43) (ad := 1525) (pc' := 25) rfl rfl cd_Mo_stepSession rfl rfl rfl rfl rfl ?_
  refine m_k2 (v := 8) (pc' := 27) cd_Mo_stepSession rfl (by decide) rfl ?_
  refine m_pure (pc' := 28) (st' := [.int 8, .ref 1525, .int 8, .ref 1525]) cd_Mo_stepSession rfl rfl (fun _ _ => rfl) ?_
  refine m_aI (r := 42) (a := 43) (g := (upd (A 43) 7 r1)) (x := nx) (pc' := 29) rfl rfl cd_Mo_stepSession rfl rfl rfl (vp_in_nI (n := 8) (by decide) (by decide)) (by rw [(show (8 : Int32).toNatClampNeg = 8 by decide), upd_ne (by omega)]; exact a9) ?_
  refine m_k1 (v := 1) (pc' := 30) cd_Mo_stepSession rfl (by decide) rfl ?_
  refine m_pure (pc' := 31) (st' := [.int (nx + 1), .int 8, .ref 1525]) cd_Mo_stepSession rfl rfl (fun _ _ => rfl) ?_
  refine m_aS (r := 42) (a := 43) (g := (upd (A 43) 7 r1)) (p := 8) (pc' := 32) rfl rfl cd_Mo_stepSession rfl rfl rfl (vp_in_nI (n := 8) (by decide) (by decide)) (show (8 : Int32).toNatClampNeg = 8 by decide) ?_
  rw [fset_fset]
  have hse : qSe (upd (upd (A 43) 7 r1) 8 (nx + 1)) T1 0 ((th, Tmx 7 ch tz, nx + 1, le), ba, ro, mi, sd, n, b, br, bp, bo, on) := by
    refine qSe_r p1 hS2 (fun k k1 k2 k3 k4 k5 k6 => by rw [upd_ne (by omega), upd_ne (by omega)]) ?_ ?_ ?_ ?_ ?_
    · rw [upd_ne (by omega), upd_ne (by omega)]; exact (tv_mono p1 a2)
    · rw [upd_ne (by omega), upd_ne (by omega)]; exact (tv_mono p1 a4)
    · rw [upd_ne (by omega), upd_ne (by omega)]; exact (tv_mono p1 a5)
    · rw [upd_ne (by omega), upd_same]; exact hr1
    · rw [upd_same]
  exact m_retv cd_Mo_stepSession rfl ⟨rfl, (mK_end (f := f) (A := A) (fun k q => by have e0 : ¬ k = 0 := (by omega); have e7 : ¬ k = 7 := (by omega); have e61 : ¬ k = 61 := (by omega); simp only [fset, mjF, mjKf, e0, e7, e61, or_self, if_false]) (fun j q => by have e0 : ¬ (1 ≤ j ∧ j ≤ 8) := (by omega); have e43 : ¬ j = 43 := (by omega); have e44 : ¬ j = 44 := (by omega); simp only [fset, mjA, mjKA, e0, e43, e44, or_self, if_false]) (kk _ _ _ p1 (by omega) (show rc (A1 1) _ ≤ _ by omega) (by exact MT_i hM1 rfl rfl rfl rfl rfl rfl rfl rfl rfl rfl) rfl rfl hse))⟩
set_option maxRecDepth 100000 in
theorem l_mskip0 {sc : tm_X} {d : Nat} {f : Nat → Int32} {A : Nat → Nat → Int32} {to : Int32} {Q : Option Value → MS → Prop} (kk : ∀ lv : tm_L, lv.lookup 0 = some (.ref 1482) → lv.lookup 1 = some (.int to) →  mg sc (d + 5) 237 70 lv [] (f, fset A 43 (shW 3 (A 43) 13 34)) Q) : ∀ (r k : Nat), k + r = 21 → ∀ lv : tm_L, lv.lookup 0 = some (.ref 1482) → lv.lookup 1 = some (.int to) →  lv.lookup 2 = some (.int (nI k)) → mg sc (d + 5) 237 40 lv [] (f, fset A 43 (shW 3 (A 43) 13 (13 + k))) Q := by
  intro r
  induction r with
  | zero =>
    intro k hk lv l0 l1 l2
    have hk2 : k = 21 := by omega
    subst hk2
    refine m_ild (pc' := 41) cd_Mo_skipSession rfl (Or.inr ⟨_, rfl, rfl, rfl⟩) l2 rfl ?_
    refine m_k2 (v := 21) (pc' := 43) cd_Mo_skipSession rfl (by decide) rfl ?_
    refine m_if2 (t := 70) (pc' := 46) cd_Mo_skipSession rfl rfl rfl (fun c43 => ?_) (fun c43 => ?_)
    · have c43 : (21 : Int32) ≤ (nI 21) := c43
      exact kk lv l0 l1
    · have c43 : ¬ (21 : Int32) ≤ (nI 21) := c43
      exact absurd (show (21 : Int32) ≤ nI 21 from by decide) c43
  | succ r ih =>
    intro k hk lv l0 l1 l2
    refine m_ild (pc' := 41) cd_Mo_skipSession rfl (Or.inr ⟨_, rfl, rfl, rfl⟩) l2 rfl ?_
    refine m_k2 (v := 21) (pc' := 43) cd_Mo_skipSession rfl (by decide) rfl ?_
    refine m_if2 (t := 70) (pc' := 46) cd_Mo_skipSession rfl rfl rfl (fun c43 => ?_) (fun c43 => ?_)
    · have c43 : (21 : Int32) ≤ (nI k) := c43
      exact absurd c43 (nI_ge (b := 21) (by omega) (by decide))
    · have c43 : ¬ (21 : Int32) ≤ (nI k) := c43
      refine m_ald (pc' := 47) cd_Mo_skipSession rfl (Or.inr ⟨_, rfl, rfl, rfl⟩) l0 rfl rfl ?_
      refine m_fR (r := 42) (a := 43) (ad := 1525) (pc' := 50) rfl rfl cd_Mo_skipSession rfl rfl rfl rfl rfl ?_
      refine m_k2 (v := 13) (pc' := 52) cd_Mo_skipSession rfl (by decide) rfl ?_
      refine m_ild (pc' := 53) cd_Mo_skipSession rfl (Or.inr ⟨_, rfl, rfl, rfl⟩) l2 rfl ?_
      refine m_pure (pc' := 54) (st' := [.int ((13 : Int32) + (nI k)), .ref 1525]) cd_Mo_skipSession rfl rfl (fun _ _ => rfl) ?_
      refine m_eq (show ((13 : Int32) + (nI k) : Int32) = nI (13 + k) from nI_add 13 k) ?_
      refine m_ald (pc' := 55) cd_Mo_skipSession rfl (Or.inr ⟨_, rfl, rfl, rfl⟩) l0 rfl rfl ?_
      refine m_fR (r := 42) (a := 43) (ad := 1525) (pc' := 58) rfl rfl cd_Mo_skipSession rfl rfl rfl rfl rfl ?_
      refine m_k2 (v := 16) (pc' := 60) cd_Mo_skipSession rfl (by decide) rfl ?_
      refine m_ild (pc' := 61) cd_Mo_skipSession rfl (Or.inr ⟨_, rfl, rfl, rfl⟩) l2 rfl ?_
      refine m_pure (pc' := 62) (st' := [.int ((16 : Int32) + (nI k)), .ref 1525, .int (nI (13 + k)), .ref 1525]) cd_Mo_skipSession rfl rfl (fun _ _ => rfl) ?_
      refine m_eq (show ((16 : Int32) + (nI k) : Int32) = nI (16 + k) from nI_add 16 k) ?_
      refine m_aI (r := 42) (a := 43) (g := (shW 3 (A 43) 13 (13 + k))) (x := (A 43 (13 + k + 3))) (pc' := 63) rfl rfl cd_Mo_skipSession rfl rfl rfl (vp_in_nI (by omega) (by decide)) (by rw [(nI_clamp (by omega)), show 16 + k = 13 + k + 3 by omega, shW_n]) ?_
      refine m_aS (r := 42) (a := 43) (g := (shW 3 (A 43) 13 (13 + k))) (p := (13 + k)) (pc' := 64) rfl rfl cd_Mo_skipSession rfl rfl rfl (vp_in_nI (by omega) (by decide)) (nI_clamp (by omega)) ?_
      refine m_inc (y := nI (k + 1)) (pc' := 67) cd_Mo_skipSession rfl l2 (by decide) (nI_add k 1) rfl (fun lv el => ?_)
      have l0 := tm_lk el l0 rfl (by decide)
      have l1 := tm_lk el l1 rfl (by decide)
      have l2 : lv.lookup 2 = some (.int (nI (k + 1))) := tm_lks el
      clear el
      refine m_pure (pc' := 40) (st' := []) cd_Mo_skipSession rfl rfl (fun _ _ => rfl) ?_
      rw [fset_fset, shW_s 3 (A 43) (by omega), Nat.add_assoc 13 k 1]
      exact ih (k + 1) (by omega) lv l0 l1 l2
