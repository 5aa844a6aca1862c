/-! Terms as trees: a label of six numbers (kind, mark, four numbers) and four parts -/
abbrev Tm : Type := Std.DTreeMap.Internal.Impl (List Int32) (fun _ => Unit)
def tn (l : List Int32) (a b c d : Tm) : Tm := .inner 0 l () (.inner 0 [] () a b) (.inner 0 [] () c d)
def tz : Tm := .leaf
def lb (A : Tm) : List Int32 := match A with
  | .inner _ l _ _ _ => l
  | .leaf => []
/-- part i -/
def pt (A : Tm) (i : Nat) : Tm := match A with
  | .inner _ _ _ (.inner _ _ _ a b) (.inner _ _ _ c d) => match i with
    | 0 => a
    | 1 => b
    | 2 => c
    | 3 => d
    | _ => .leaf
  | _ => .leaf
def kd (A : Tm) : Int32 := (lb A).getD 0 0
def mk (A : Tm) : Int32 := (lb A).getD 1 0
def nu (A : Tm) (i : Nat) : Int32 := (lb A).getD (2 + i) 0
def Tsec (n d p : Int32) : Tm := tn [1, n, d, p, 0, 0] tz tz tz tz
def Tpub (a : Tm) : Tm := tn [2, 0, 0, 0, 0, 0] a tz tz tz
def Tsh0 (a b : Tm) : Tm := tn [3, 0, 0, 0, 0, 0] a b (Tpub a) (Tpub b)
/-- the SHARED of two secrets: the one drawn first comes first -/
def Tsh (a b : Tm) : Tm := if mk b < mk a then Tsh0 b a else Tsh0 a b
def Tmx (n : Int32) (a b : Tm) : Tm := tn [4, n, 0, 0, 0, 0] a b tz tz
def Tsl (k h b : Tm) : Tm := tn [5, 0, 0, 0, 0, 0] k h b tz
def Tsg (a t : Tm) : Tm := tn [6, 0, 0, 0, 0, 0] a t tz tz
def Trw (k n0 n1 n2 n3 : Int32) (a b c d : Tm) : Tm := tn [7, k, n0, n1, n2, n3] a b c d
theorem tn_inj {l l' : List Int32} {a b c d a' b' c' d' : Tm} (h : tn l a b c d = tn l' a' b' c' d') : l = l' ∧ a = a' ∧ b = b' ∧ c = c' ∧ d = d' := by
  unfold tn at h
  injection h with _ h1 _ h2 h3
  injection h2 with _ _ _ h4 h5
  injection h3 with _ _ _ h6 h7
  exact ⟨h1, h4, h5, h6, h7⟩
theorem tn_ne {l : List Int32} {a b c d : Tm} : tn l a b c d ≠ tz := fun h => by unfold tn tz at h; cases h
theorem lb_tn (l : List Int32) (a b c d : Tm) : lb (tn l a b c d) = l := rfl
theorem lb_tz : lb tz = [] := rfl
theorem pt_tz (i : Nat) : pt tz i = tz := rfl
theorem pt_0 (l : List Int32) (a b c d : Tm) : pt (tn l a b c d) 0 = a := rfl
theorem pt_1 (l : List Int32) (a b c d : Tm) : pt (tn l a b c d) 1 = b := rfl
theorem pt_2 (l : List Int32) (a b c d : Tm) : pt (tn l a b c d) 2 = c := rfl
theorem pt_3 (l : List Int32) (a b c d : Tm) : pt (tn l a b c d) 3 = d := rfl
/-- what a term may look like -/
def Tsp (A : Tm) : Prop := A = tz ∨ (∃ n d p, A = Tsec n d p) ∨ (∃ s, kd s = 1 ∧ A = Tpub s) ∨ (∃ a b, kd a = 1 ∧ kd b = 1 ∧ A = Tsh0 a b) ∨ (∃ n a b, A = Tmx n a b) ∨ (∃ k h b, A = Tsl k h b) ∨ (∃ a t, A = Tsg a t) ∨ (∃ k n0 n1 n2 n3 a b c d, A = Trw k n0 n1 n2 n3 a b c d)
/-- number x is term A of the terms T -/
def tv (T : List Tm) (x : Int32) (A : Tm) : Prop := ∃ k, x = nI k ∧ T[k]? = some A
theorem tv_lt {T : List Tm} {k : Nat} {A : Tm} (h : T[k]? = some A) : k < T.length := (List.getElem?_eq_some_iff.mp h).1
theorem tv_mono {T T' : List Tm} {x : Int32} {A : Tm} (hp : T <+: T') (h : tv T x A) : tv T' x A := by
  obtain ⟨k, e, h⟩ := h
  obtain ⟨t, rfl⟩ := hp
  exact ⟨k, e, by rw [List.getElem?_append_left (tv_lt h)]; exact h⟩
theorem tv_fun {T : List Tm} {x : Int32} {A A' : Tm} (hl : T.length < 2 ^ 31) (h : tv T x A) (h' : tv T x A') : A = A' := by
  obtain ⟨k, rfl, h⟩ := h
  obtain ⟨k', e, h'⟩ := h'
  have := (nI_eq (Nat.lt_trans (tv_lt h) hl) (Nat.lt_trans (tv_lt h') hl)).mp e
  subst this
  rw [h] at h'
  exact Option.some.inj h'
/-- the rows fc tell the terms T: their parts come before them -/
def tt_rows (fc : Nat → Int32) (T : List Tm) : Prop := T[0]? = some tz ∧ ∀ i A, 0 < i → T[i]? = some A → ∃ p0 p1 p2 p3 P0 P1 P2 P3, ((p0 < i ∧ p1 < i ∧ p2 < i ∧ p3 < i) ∧ (fc (i * 11 + 6) = nI p0 ∧ fc (i * 11 + 7) = nI p1 ∧ fc (i * 11 + 8) = nI p2 ∧ fc (i * 11 + 9) = nI p3)) ∧ (T[p0]? = some P0 ∧ T[p1]? = some P1 ∧ T[p2]? = some P2 ∧ T[p3]? = some P3) ∧ A = tn [fc (i * 11), fc (i * 11 + 1), fc (i * 11 + 2), fc (i * 11 + 3), fc (i * 11 + 4), fc (i * 11 + 5)] P0 P1 P2 P3
/-- secrets: their draws are below n, they come in the order of their draws, a secret's PUBLIC comes right behind it -/
def tt_secs (T : List Tm) (n : Nat) : Prop := (∀ i A, T[i]? = some A → kd A = 1 → T[i + 1]? = some (Tpub A) ∧ ∃ m, m < n ∧ mk A = nI m) ∧ ∀ (i j : Nat) (A C : Tm), i < j → T[i]? = some A → T[j]? = some C → kd A = 1 → kd C = 1 → mk A < mk C
/-- Terms at a: its rows tell the terms T; dr draws -/
def TI (B : bm_H) (a ca ba da rm dr : Nat) (T : List Tm) : Prop := te_ok B a ca ba da rm T.length dr ∧ te_tab (bm_AI B ca) (bm_AI B ba) T.length ∧ tt_rows (bm_AI B ca) T ∧ tt_secs T dr ∧ (∀ A, A ∈ T → Tsp A) ∧ dr ≤ 100000
section TT
variable {B B' : bm_H} {a ca ba da rm dr : Nat} {T : List Tm}
theorem TI_len (h : TI B a ca ba da rm dr T) : 1 ≤ T.length ∧ T.length ≤ rm ∧ rm ≤ 65536 := h.1.2.2.2.2.1
theorem TI_lt (h : TI B a ca ba da rm dr T) : T.length < 2 ^ 31 := by have := TI_len h; omega
theorem TI_z (h : TI B a ca ba da rm dr T) : tv T 0 tz := ⟨0, rfl, h.2.2.1.1⟩
theorem TI_fun (h : TI B a ca ba da rm dr T) {x : Int32} {A A' : Tm} (h1 : tv T x A) (h2 : tv T x A') : A = A' := tv_fun (TI_lt h) h1 h2
/-- a term has one number -/
theorem TI_inj0 (h : TI B a ca ba da rm dr T) : ∀ (N i j : Nat) (A : Tm), i < N → T[i]? = some A → T[j]? = some A → i = j := by
  have hl := TI_len h
  obtain ⟨-, ht, ⟨hz, hr⟩, -, -, -⟩ := h
  intro N
  induction N with
  | zero => intro i j A hi; omega
  | succ N ih =>
    intro i j A hi h1 h2
    by_cases i0 : i = 0
    · subst i0
      by_cases j0 : j = 0
      · exact j0.symm
      · rw [hz] at h1
        cases h1
        obtain ⟨p0, p1, p2, p3, P0, P1, P2, P3, -, -, e⟩ := hr j tz (by omega) h2
        exact absurd e.symm tn_ne
    · by_cases j0 : j = 0
      · subst j0
        rw [hz] at h2
        cases h2
        obtain ⟨p0, p1, p2, p3, P0, P1, P2, P3, -, -, e⟩ := hr i tz (by omega) h1
        exact absurd e.symm tn_ne
      · obtain ⟨p0, p1, p2, p3, P0, P1, P2, P3, ⟨⟨a0, a1, a2, a3⟩, b0, b1, b2, b3⟩, ⟨c0, c1, c2, c3⟩, e⟩ := hr i A (by omega) h1
        obtain ⟨q0, q1, q2, q3, Q0, Q1, Q2, Q3, ⟨⟨a0', a1', a2', a3'⟩, b0', b1', b2', b3'⟩, ⟨c0', c1', c2', c3'⟩, e'⟩ := hr j A (by omega) h2
        obtain ⟨el, e0, e1, e2, e3⟩ := tn_inj (e.symm.trans e')
        subst e0; subst e1; subst e2; subst e3
        have f0 := ih p0 q0 P0 (by omega) c0 c0'
        have f1 := ih p1 q1 P1 (by omega) c1 c1'
        have f2 := ih p2 q2 P2 (by omega) c2 c2'
        have f3 := ih p3 q3 P3 (by omega) c3 c3'
        simp only [List.cons.injEq, and_true] at el
        refine ht.2.2 i j (by omega) (tv_lt h1) (by omega) (tv_lt h2) (fun k hk => ?_)
        unfold te_row
        rcases (by omega : k = 0 ∨ k = 1 ∨ k = 2 ∨ k = 3 ∨ k = 4 ∨ k = 5 ∨ k = 6 ∨ k = 7 ∨ k = 8 ∨ k = 9) with rfl | rfl | rfl | rfl | rfl | rfl | rfl | rfl | rfl | rfl
        · exact el.1
        · exact el.2.1
        · exact el.2.2.1
        · exact el.2.2.2.1
        · exact el.2.2.2.2.1
        · exact el.2.2.2.2.2
        · rw [b0, b0', f0]
        · rw [b1, b1', f1]
        · rw [b2, b2', f2]
        · rw [b3, b3', f3]
theorem TI_inj (h : TI B a ca ba da rm dr T) {x y : Int32} {A : Tm} (h1 : tv T x A) (h2 : tv T y A) : x = y := by
  obtain ⟨i, rfl, h1⟩ := h1
  obtain ⟨j, rfl, h2⟩ := h2
  rw [TI_inj0 h (i + 1) i j A (by omega) h1 h2]
theorem TI_eq (h : TI B a ca ba da rm dr T) {x y : Int32} {A C : Tm} (h1 : tv T x A) (h2 : tv T y C) : x = y ↔ A = C := ⟨fun e => TI_fun h h1 (e ▸ h2), fun e => TI_inj h h1 (e ▸ h2)⟩
theorem TI_0 (h : TI B a ca ba da rm dr T) {x : Int32} {A : Tm} (h1 : tv T x A) : x = 0 ↔ A = tz := TI_eq h h1 (TI_z h)
theorem TI_sp (h : TI B a ca ba da rm dr T) {x : Int32} {A : Tm} (h1 : tv T x A) : Tsp A := by
  obtain ⟨k, -, h1⟩ := h1
  exact h.2.2.2.2.1 A (List.mem_of_getElem? h1)
/-- what reading a term's row gives -/
theorem TI_get (h : TI B a ca ba da rm dr T) {x : Int32} {A : Tm} (h1 : tv T x A) {k : Nat} (hk : k < 6) : te_get B ca T.length x k = (lb A).getD k 0 := by
  have hl := TI_len h
  obtain ⟨i, rfl, h1⟩ := h1
  by_cases i0 : i = 0
  · subst i0
    rw [h.2.2.1.1] at h1
    cases h1
    rw [te_get_0 (Or.inl (by decide)), lb_tz]
    rfl
  · have hi := tv_lt h1
    rw [te_get_n (nI_nle (by omega) (by omega)) (nI_ge hi (by omega)), nI_clamp (by omega)]
    obtain ⟨p0, p1, p2, p3, P0, P1, P2, P3, -, -, e⟩ := h.2.2.1.2 i A (by omega) h1
    rw [e, lb_tn]
    rcases (by omega : k = 0 ∨ k = 1 ∨ k = 2 ∨ k = 3 ∨ k = 4 ∨ k = 5) with rfl | rfl | rfl | rfl | rfl | rfl <;> rfl
theorem TI_kd (h : TI B a ca ba da rm dr T) {x : Int32} {A : Tm} (h1 : tv T x A) : te_get B ca T.length x 0 = kd A := TI_get h h1 (by decide)
theorem TI_mk (h : TI B a ca ba da rm dr T) {x : Int32} {A : Tm} (h1 : tv T x A) : te_get B ca T.length x 1 = mk A := TI_get h h1 (by decide)
theorem TI_nu (h : TI B a ca ba da rm dr T) {x : Int32} {A : Tm} (h1 : tv T x A) {i : Nat} (hi : i < 4) : te_gt2 B ca T.length x (nI i) 2 = nu A i := by
  have hl := TI_len h
  have hi4 : ¬ (4 : Int32) ≤ nI i := nI_ge (b := 4) hi (by decide)
  obtain ⟨j, rfl, h1⟩ := h1
  by_cases i0 : j = 0
  · subst i0
    rw [h.2.2.1.1] at h1
    cases h1
    rw [te_gt2_0 (Or.inl (Or.inl (by decide)))]
    unfold nu
    rw [lb_tz]
    rfl
  · have hj := tv_lt h1
    rw [te_gt2_n (nI_nle (by omega) (by omega)) (nI_ge hj (by omega)) (nI_pos (by omega)) hi4, nI_clamp (by omega), nI_clamp (by omega)]
    obtain ⟨p0, p1, p2, p3, P0, P1, P2, P3, -, -, e⟩ := h.2.2.1.2 j A (by omega) h1
    rw [e]
    unfold nu
    rw [lb_tn]
    rcases (by omega : i = 0 ∨ i = 1 ∨ i = 2 ∨ i = 3) with rfl | rfl | rfl | rfl <;> rfl
theorem TI_pt (h : TI B a ca ba da rm dr T) {x : Int32} {A : Tm} (h1 : tv T x A) {i : Nat} (hi : i < 4) : tv T (te_gt2 B ca T.length x (nI i) 6) (pt A i) := by
  have hl := TI_len h
  have hi4 : ¬ (4 : Int32) ≤ nI i := nI_ge (b := 4) hi (by decide)
  obtain ⟨j, rfl, h1⟩ := h1
  by_cases i0 : j = 0
  · subst i0
    rw [h.2.2.1.1] at h1
    cases h1
    rw [te_gt2_0 (Or.inl (Or.inl (by decide)))]
    exact TI_z h
  · have hj := tv_lt h1
    rw [te_gt2_n (nI_nle (by omega) (by omega)) (nI_ge hj (by omega)) (nI_pos (by omega)) hi4, nI_clamp (by omega), nI_clamp (by omega)]
    obtain ⟨p0, p1, p2, p3, P0, P1, P2, P3, ⟨-, b0, b1, b2, b3⟩, ⟨c0, c1, c2, c3⟩, e⟩ := h.2.2.1.2 j A (by omega) h1
    rw [e]
    rcases (by omega : i = 0 ∨ i = 1 ∨ i = 2 ∨ i = 3) with rfl | rfl | rfl | rfl
    · exact ⟨p0, b0, c0⟩
    · exact ⟨p1, b1, c1⟩
    · exact ⟨p2, b2, c2⟩
    · exact ⟨p3, b3, c3⟩
/-- the same Terms in a heap that keeps Terms' cells -/
theorem TI_of (h : TI B a ca ba da rm dr T) (h1 : te_ok B' a ca ba da rm T.length dr) (h2 : bm_AI B' ca = bm_AI B ca) (h3 : bm_AI B' ba = bm_AI B ba) : TI B' a ca ba da rm dr T := by
  obtain ⟨-, t2, t3, t4, t5, t6⟩ := h
  exact ⟨h1, by rw [h2, h3]; exact t2, by rw [h2]; exact t3, t4, t5, t6⟩
/-- a making: the row f is told by label and parts -/
theorem TI_made (h : TI B a ca ba da rm dr T) {dr' r sz' : Nat} {f : Nat → Int32} {P0 P1 P2 P3 : Tm} (hm : te_made B B' a ca ba da rm T.length dr' f r sz') (q0 : tv T (f 6) P0) (q1 : tv T (f 7) P1) (q2 : tv T (f 8) P2) (q3 : tv T (f 9) P3) (hsp : Tsp (tn [f 0, f 1, f 2, f 3, f 4, f 5] P0 P1 P2 P3)) (hd : dr ≤ dr') (hd2 : dr' ≤ 100000) (hns : f 0 ≠ 1) : ∃ T', (T' = T ∨ (T' = T ++ [tn [f 0, f 1, f 2, f 3, f 4, f 5] P0 P1 P2 P3] ∧ r = T.length)) ∧ TI B' a ca ba da rm dr' T' ∧ T'[r]? = some (tn [f 0, f 1, f 2, f 3, f 4, f 5] P0 P1 P2 P3) := by
  have hl := TI_len h
  have hz := TI_z h
  have hinj := @TI_inj _ _ _ _ _ _ _ _ h
  obtain ⟨m1, m2, ⟨m3, m4⟩, m5, m6, m7, m8⟩ := hm
  obtain ⟨t1, t2, ⟨t3, t3'⟩, ⟨t4, t4'⟩, t5, t6⟩ := h
  have hrows : ∀ i A, 0 < i → T[i]? = some A → ∃ p0 p1 p2 p3 P0 P1 P2 P3, ((p0 < i ∧ p1 < i ∧ p2 < i ∧ p3 < i) ∧ (bm_AI B' ca (i * 11 + 6) = nI p0 ∧ bm_AI B' ca (i * 11 + 7) = nI p1 ∧ bm_AI B' ca (i * 11 + 8) = nI p2 ∧ bm_AI B' ca (i * 11 + 9) = nI p3)) ∧ (T[p0]? = some P0 ∧ T[p1]? = some P1 ∧ T[p2]? = some P2 ∧ T[p3]? = some P3) ∧ A = tn [bm_AI B' ca (i * 11), bm_AI B' ca (i * 11 + 1), bm_AI B' ca (i * 11 + 2), bm_AI B' ca (i * 11 + 3), bm_AI B' ca (i * 11 + 4), bm_AI B' ca (i * 11 + 5)] P0 P1 P2 P3 := by
    intro i A i0 hA
    have hi := tv_lt hA
    have g : ∀ k, k < 10 → bm_AI B' ca (i * 11 + k) = bm_AI B ca (i * 11 + k) := fun k hk => m6 i k hi hk
    have g0 : bm_AI B' ca (i * 11) = bm_AI B ca (i * 11) := g 0 (by decide)
    rw [g0, g 1 (by decide), g 2 (by decide), g 3 (by decide), g 4 (by decide), g 5 (by decide), g 6 (by decide), g 7 (by decide), g 8 (by decide), g 9 (by decide)]
    exact t3' i A i0 hA
  obtain ⟨p0, e0, c0⟩ := q0
  obtain ⟨p1, e1, c1⟩ := q1
  obtain ⟨p2, e2, c2⟩ := q2
  obtain ⟨p3, e3, c3⟩ := q3
  have n0 := tv_lt c0
  have n1 := tv_lt c1
  have n2 := tv_lt c2
  have n3 := tv_lt c3
  have hr0 : bm_AI B' ca (r * 11) = f 0 := m5 0 (by decide)
  have hr : ∀ k, k < 10 → bm_AI B' ca (r * 11 + k) = f k := m5
  rcases m7 with e | ⟨e, er⟩
  · refine ⟨T, Or.inl rfl, ⟨by rw [e] at m1; exact m1, by rw [e] at m2; exact m2, ⟨t3, hrows⟩, ⟨fun i A hA hk => ⟨(t4 i A hA hk).1, by obtain ⟨m, hm, w⟩ := (t4 i A hA hk).2; exact ⟨m, by omega, w⟩⟩, t4'⟩, t5, hd2⟩, ?_⟩
    rw [e] at m4
    obtain ⟨A, hA⟩ : ∃ A, T[r]? = some A := ⟨T[r], List.getElem?_eq_getElem m4⟩
    obtain ⟨s0, s1, s2, s3, S0, S1, S2, S3, ⟨⟨a0, a1, a2, a3⟩, b0, b1, b2, b3⟩, ⟨d0, d1, d2, d3⟩, eA⟩ := hrows r A m3 hA
    rw [hr0, hr 1 (by decide), hr 2 (by decide), hr 3 (by decide), hr 4 (by decide), hr 5 (by decide)] at eA
    rw [hr 6 (by decide), e0] at b0
    rw [hr 7 (by decide), e1] at b1
    rw [hr 8 (by decide), e2] at b2
    rw [hr 9 (by decide), e3] at b3
    have w0 := (nI_eq (by omega) (by omega)).mp b0
    have w1 := (nI_eq (by omega) (by omega)).mp b1
    have w2 := (nI_eq (by omega) (by omega)).mp b2
    have w3 := (nI_eq (by omega) (by omega)).mp b3
    subst w0; subst w1; subst w2; subst w3
    rw [c0] at d0; rw [c1] at d1; rw [c2] at d2; rw [c3] at d3
    cases d0; cases d1; cases d2; cases d3
    rw [hA, eA]
  · subst er
    generalize eN : tn [f 0, f 1, f 2, f 3, f 4, f 5] P0 P1 P2 P3 = N at *
    have hNk : kd N ≠ 1 := by rw [← eN]; exact hns
    have hlast : (T ++ [N])[T.length]? = some N := by simp
    have hold : ∀ {i : Nat} {A : Tm}, T[i]? = some A → (T ++ [N])[i]? = some A := fun {i A} hA => by rw [List.getElem?_append_left (tv_lt hA)]; exact hA
    have hcase : ∀ {i : Nat} {A : Tm}, (T ++ [N])[i]? = some A → T[i]? = some A ∨ (i = T.length ∧ A = N) := fun {i A} hA => by
      by_cases hi : i < T.length
      · rw [List.getElem?_append_left hi] at hA; exact Or.inl hA
      · have := tv_lt hA
        rw [List.length_append, List.length_singleton] at this
        have e : i = T.length := by omega
        subst e
        rw [hlast] at hA
        exact Or.inr ⟨rfl, (Option.some.inj hA).symm⟩
    have hlen : (T ++ [N]).length = T.length + 1 := by simp
    refine ⟨T ++ [N], Or.inr ⟨rfl, rfl⟩, ⟨by rw [hlen, ← e]; exact m1, by rw [hlen, ← e]; exact m2, ⟨hold t3, fun i A i0 hA => ?_⟩, ⟨fun i A hA hk => ?_, fun i j A C hij hA hC kA kC => ?_⟩, fun A hA => ?_, hd2⟩, hlast⟩
    · rcases hcase hA with hA | ⟨rfl, rfl⟩
      · obtain ⟨s0, s1, s2, s3, S0, S1, S2, S3, g1, ⟨d0, d1, d2, d3⟩, g3⟩ := hrows i A i0 hA
        exact ⟨s0, s1, s2, s3, S0, S1, S2, S3, g1, ⟨hold d0, hold d1, hold d2, hold d3⟩, g3⟩
      · refine ⟨p0, p1, p2, p3, P0, P1, P2, P3, ⟨⟨n0, n1, n2, n3⟩, ?_⟩, ⟨hold c0, hold c1, hold c2, hold c3⟩, ?_⟩
        · rw [hr 6 (by decide), hr 7 (by decide), hr 8 (by decide), hr 9 (by decide)]
          exact ⟨e0, e1, e2, e3⟩
        · rw [hr0, hr 1 (by decide), hr 2 (by decide), hr 3 (by decide), hr 4 (by decide), hr 5 (by decide)]
          exact eN.symm
    · rcases hcase hA with hA | ⟨rfl, rfl⟩
      · obtain ⟨w1, m, hm, w2⟩ := t4 i A hA hk
        exact ⟨hold w1, m, by omega, w2⟩
      · exact absurd hk hNk
    · rcases hcase hA with hA | ⟨rfl, rfl⟩
      · rcases hcase hC with hC | ⟨rfl, rfl⟩
        · exact t4' i j A C hij hA hC kA kC
        · exact absurd kC hNk
      · exact absurd kA hNk
    · rcases List.mem_append.mp hA with hA | hA
      · exact t5 A hA
      · rw [List.mem_singleton] at hA; rw [hA]; exact hsp
end TT
