/-! What holds of every device, always -/
def PKI (K : PK) : Prop := (K.1 = tz ↔ K.2.1 = 0) ∧ (0 < K.2.1 ↔ K.1 ≠ tz) ∧ (K.1 ≠ tz → kd K.1 = 1) ∧ K.2.2.length ≤ 4
def IBI (I : IB) : Prop := okI I ∧ (∃ nn, nn ≤ 10000 ∧ I.2.2.1 = nI nn) ∧ I.2.2.2.length ≤ 8
def SSI (S : SS) : Prop := IBI S.1 ∧ (kd S.1.1 = 2 ∧ kd (pt S.1.1 0) = 1) ∧ kd S.2.2.2.1 = 1
def GVI (G : GV) : Prop := IBI G.1 ∧ G.1.1 ≠ tz ∧ ∀ e, e ∈ G.1.2.2.2 → e.1 = G.1.1
def MMI (s : Nat) (M : MM) : Prop := (M.1 = 0 → M.2.1 = 0) ∧ (mm_fresh M = true → kd M.2.2.2.2.2.1 = 1) ∧ mgv M s = [] ∧ ∀ p, (mgv M p).length ≤ 2 ∧ ∀ G, G ∈ mgv M p → GVI G
def SEI (s : Nat) (se : Nat → List SS) : Prop := se s = [] ∧ ∀ p, (se p).length ≤ 2 ∧ ∀ S, S ∈ se p → SSI S
def DVI (s n : Nat) : DV → Prop
  | (id, K0, K1, on, lnu, se, me) => kd id = 1 ∧ (PKI K0 ∧ PKI K1) ∧ ((∀ e, e ∈ on → kd e.1 = 1) ∧ on.length ≤ 4) ∧ (∃ m, m ≤ 5 * n ∧ lnu = nI m) ∧ SEI s se ∧ (∀ g, MMI s (me g)) ∧ ∃ m, m ≤ n ∧ (me s).1 = nI m
theorem en_any_len (A : Tm) : (en_any A).length ≤ 1 := by
  unfold en_any
  split <;> simp
theorem se_en_len {S : SS} (h : S.1.2.2.2.length ≤ 8) : (se_en S).length ≤ 15 := by
  obtain ⟨I, ba, ro, mi, se, n, b, br, bp, bo, on⟩ := S
  have h : I.2.2.2.length ≤ 8 := h
  have h1 := en_any_len I.1
  have h2 := en_any_len se
  have h3 := en_any_len I.2.1
  show ([(ba, tz), (ro, tz), (mi, tz)] ++ en_any I.1 ++ en_any se ++ en_any I.2.1 ++ (if br = true then [(bp, bo)] else []) ++ I.2.2.2.map fun e => (e.2.2, e.1)).length ≤ 15
  have h4 : (if br = true then [(bp, bo)] else [] : EN2).length ≤ 1 := by split <;> simp
  simp only [List.length_append, List.length_map, List.length_cons, List.length_nil]
  omega
theorem gv_en_len {G : GV} (h : G.1.2.2.2.length ≤ 8) : (gv_en G).length ≤ 9 := by
  unfold gv_en
  simp only [List.length_cons, List.length_map]
  omega
theorem sl_en_len {l : List SS} (h2 : l.length ≤ 2) (h : ∀ S, S ∈ l → SSI S) : (sl_en l).length ≤ 30 := by
  rcases len2 h2 with rfl | ⟨a, rfl⟩ | ⟨a, c, rfl⟩
  · exact Nat.zero_le _
  · have h1 := se_en_len (h a (by simp)).1.2.2
    unfold sl_en
    simp only [List.flatMap_cons, List.flatMap_nil, List.length_append, List.length_nil]
    omega
  · have h1 := se_en_len (h a (by simp)).1.2.2
    have h3 := se_en_len (h c (by simp)).1.2.2
    unfold sl_en
    simp only [List.flatMap_cons, List.flatMap_nil, List.length_append, List.length_nil]
    omega
theorem gl_en_len {l : List GV} (h2 : l.length ≤ 2) (h : ∀ G, G ∈ l → GVI G) : (gl_en l).length ≤ 18 := by
  rcases len2 h2 with rfl | ⟨a, rfl⟩ | ⟨a, c, rfl⟩
  · exact Nat.zero_le _
  · have h1 := gv_en_len (h a (by simp)).1.2.2
    unfold gl_en
    simp only [List.flatMap_cons, List.flatMap_nil, List.length_append, List.length_nil]
    omega
  · have h1 := gv_en_len (h a (by simp)).1.2.2
    have h3 := gv_en_len (h c (by simp)).1.2.2
    unfold gl_en
    simp only [List.flatMap_cons, List.flatMap_nil, List.length_append, List.length_nil]
    omega
theorem mm_en_len {s : Nat} {M : MM} (hs : s < 6) (h : MMI s M) : (mm_en M).length ≤ 91 := by
  have g : ∀ p, (gl_en (mgv M p)).length ≤ 18 := fun p => gl_en_len (h.2.2.2 p).1 (h.2.2.2 p).2
  have gs : (gl_en (mgv M s)).length = 0 := by rw [h.2.2.1]; rfl
  have g0 := g 0
  have g1 := g 1
  have g2 := g 2
  have g3 := g 3
  have g4 := g 4
  have g5 := g 5
  unfold mm_en
  have h1 : (if 0 < M.2.2.2.1 then [(M.2.2.2.2.1, M.2.2.2.2.2.1)] else [] : EN2).length ≤ 1 := by split <;> simp
  simp only [List.length_append]
  rcases (by omega : s = 0 ∨ s = 1 ∨ s = 2 ∨ s = 3 ∨ s = 4 ∨ s = 5) with rfl | rfl | rfl | rfl | rfl | rfl <;> omega
theorem pk_en_len {K : PK} (h : PKI K) : (pk_en K).length ≤ 5 := by
  have := h.2.2.2
  unfold pk_en
  split
  · simp
  · simp only [List.length_cons, List.length_map]; omega
theorem on_en_len (l : List (Tm × Int32)) : (on_en l).length = l.length := by
  unfold on_en
  induction l with
  | nil => rfl
  | cons a l ih => simp only [List.flatMap_cons, List.length_append, List.length_cons, List.length_nil, ih]; omega
theorem DVI_en {s n : Nat} {D : DV} (hs : s < 6) (h : DVI s n D) : (dv_en D).length ≤ 536 := by
  obtain ⟨id, K0, K1, on, lnu, se, me⟩ := D
  obtain ⟨-, ⟨k0, k1⟩, ⟨-, o1⟩, -, ⟨s1, s2⟩, m1, -⟩ := h
  have g : ∀ p, (sl_en (se p)).length ≤ 30 := fun p => sl_en_len (s2 p).1 (s2 p).2
  have gs : (sl_en (se s)).length = 0 := by rw [s1]; rfl
  have g0 := g 0
  have g1 := g 1
  have g2 := g 2
  have g3 := g 3
  have g4 := g 4
  have g5 := g 5
  have a0 := mm_en_len hs (m1 0)
  have a1 := mm_en_len hs (m1 1)
  have a2 := mm_en_len hs (m1 2)
  have a3 := mm_en_len hs (m1 3)
  have b0 := pk_en_len k0
  have b1 := pk_en_len k1
  have b2 := on_en_len on
  show ([(id, tz)] ++ pk_en K0 ++ pk_en K1 ++ on_en on ++ sl_en (se 0) ++ sl_en (se 1) ++ sl_en (se 2) ++ sl_en (se 3) ++ sl_en (se 4) ++ sl_en (se 5) ++ mm_en (me 0) ++ mm_en (me 1) ++ mm_en (me 2) ++ mm_en (me 3)).length ≤ 536
  simp only [List.length_append, List.length_cons, List.length_nil]
  rcases (by omega : s = 0 ∨ s = 1 ∨ s = 2 ∨ s = 3 ∨ s = 4 ∨ s = 5) with rfl | rfl | rfl | rfl | rfl | rfl <;> omega
theorem DVI_mono {s n n' : Nat} {D : DV} (hn : n ≤ n') (h : DVI s n D) : DVI s n' D := by
  obtain ⟨id, K0, K1, on, lnu, se, me⟩ := D
  obtain ⟨h1, h2, h3, ⟨m, h4, h5⟩, h6, h7, m', h8, h9⟩ := h
  exact ⟨h1, h2, h3, ⟨m, by omega, h5⟩, h6, h7, m', by omega, h9⟩
/-! Sessions: what keeps -/
theorem IBI_step {I : IB} (h : IBI I) (hn : ∃ nn, nn < 10000 ∧ I.2.2.1 = nI nn) : IBI (ib_step I) := by
  obtain ⟨h1, -, h3⟩ := h
  obtain ⟨nn, h4, h5⟩ := hn
  refine ⟨?_, ⟨nn + 1, by omega, ?_⟩, ?_⟩
  · intro e he
    unfold ib_step at he
    rcases List.mem_append.mp he with he | he
    · refine h1 e ?_
      split at he
      · exact List.mem_of_mem_drop he
      · exact he
    · rw [List.mem_singleton.mp he]
      exact fun q => nomatch q
  · show I.2.2.1 + 1 = nI (nn + 1)
    rw [h5]
    exact nI_add nn 1
  · unfold ib_step
    simp only [List.length_append, List.length_cons, List.length_nil]
    split
    · rw [List.length_drop]; omega
    · omega
theorem ib_skipN_s (ix : Int32) (n : Nat) (I : IB) : ib_skipN ix (n + 1) I = if ix ≤ I.2.2.1 then I else ib_skipN ix n (ib_step I) := rfl
theorem ib_step_1 (I : IB) : (ib_step I).1 = I.1 := rfl
theorem ib_skipN_I {ix : Int32} {x : Nat} (hx : ix = nI x) (hx1 : x ≤ 10000) : ∀ (n : Nat) (I : IB), IBI I → IBI (ib_skipN ix n I) ∧ (ib_skipN ix n I).1 = I.1 ∧ ((∀ e, e ∈ I.2.2.2 → e.1 = I.1) → ∀ e, e ∈ (ib_skipN ix n I).2.2.2 → e.1 = I.1)
  | 0, I, h => ⟨h, rfl, fun q => q⟩
  | n + 1, I, h => by
    rw [ib_skipN_s]
    by_cases c : ix ≤ I.2.2.1
    · rw [if_pos c]; exact ⟨h, rfl, fun q => q⟩
    · rw [if_neg c]
      obtain ⟨nn, h1, h2⟩ := h.2.1
      have hlt : nn < x := by
        rw [hx, h2] at c
        refine Classical.byContradiction fun q => c ?_
        exact nI_le (by omega) (by omega)
      have hs := IBI_step h ⟨nn, by omega, h2⟩
      obtain ⟨r1, r2, r3⟩ := ib_skipN_I hx hx1 n (ib_step I) hs
      refine ⟨r1, r2, fun q => r3 ?_⟩
      intro e he
      unfold ib_step at he
      rcases List.mem_append.mp he with he | he
      · refine q e ?_
        split at he
        · exact List.mem_of_mem_drop he
        · exact he
      · rw [List.mem_singleton.mp he]
        rfl
theorem skipTo_I {ix : Int32} {I J : IB} {x : Nat} (hx : ix = nI x) (hx1 : x ≤ 10000) (h : IBI I) (e : ib_skipTo I ix = some J) : IBI J ∧ J.1 = I.1 ∧ ((∀ e, e ∈ I.2.2.2 → e.1 = I.1) → ∀ e, e ∈ J.2.2.2 → e.1 = I.1) := by
  unfold ib_skipTo at e
  split at e
  · cases e; exact ib_skipN_I hx hx1 5 I h
  · cases e
theorem skipN_le {ix : Int32} {x : Nat} (hx : ix = nI x) (hx1 : x ≤ 10000) : ∀ (n : Nat) (I : IB), (∃ nn, nn ≤ x ∧ I.2.2.1 = nI nn) → ∃ nn, nn ≤ x ∧ (ib_skipN ix n I).2.2.1 = nI nn
  | 0, I, h => h
  | n + 1, I, h => by
    rw [ib_skipN_s]
    by_cases c : ix ≤ I.2.2.1
    · rw [if_pos c]; exact h
    · rw [if_neg c]
      obtain ⟨nn, h1, h2⟩ := h
      refine skipN_le hx hx1 n (ib_step I) ⟨nn + 1, ?_, ?_⟩
      · refine Classical.byContradiction fun q => c ?_
        rw [hx, h2]
        exact nI_le (by omega) (by omega)
      · show I.2.2.1 + 1 = nI (nn + 1)
        rw [h2]; exact nI_add nn 1
theorem next_I {ix : Int32} {I J : IB} {x : Nat} {K : Tm} (hx : ix = nI x) (hx1 : x < 10000) (h : IBI I) (e : ib_next I ix = some (K, J)) : IBI J ∧ J.1 = I.1 ∧ K ≠ tz ∧ ((∀ e, e ∈ I.2.2.2 → e.1 = I.1) → ∀ e, e ∈ J.2.2.2 → e.1 = I.1) := by
  unfold ib_next at e
  by_cases c : ix < I.2.2.1
  · rw [if_pos c] at e; cases e
  · rw [if_neg c] at e
    obtain ⟨J0, e1, e2⟩ := Option.map_eq_some_iff.mp e
    cases e2
    obtain ⟨r1, r2, r3⟩ := skipTo_I hx (by omega) h e1
    obtain ⟨n0, a1, a2⟩ := h.2.1
    have hle : ∃ nn, nn ≤ x ∧ J0.2.2.1 = nI nn := by
      unfold ib_skipTo at e1
      split at e1
      · cases e1
        refine skipN_le hx (by omega) 5 I ⟨n0, ?_, a2⟩
        refine Classical.byContradiction fun q => c ?_
        rw [hx, a2]
        exact nI_lt (by omega) (by omega)
      · cases e1
    obtain ⟨nn, b1, b2⟩ := hle
    refine ⟨⟨r1.1, ⟨nn + 1, by omega, ?_⟩, r1.2.2⟩, r2, fun q => (nomatch q), r3⟩
    show J0.2.2.1 + 1 = _
    rw [b2]; exact nI_add nn 1
theorem lf_take_sub {p : Tm} {ix : Int32} {k : Tm} {r : List (Tm × Int32 × Tm)} : ∀ {l : List (Tm × Int32 × Tm)}, lf_take p ix l = some (k, r) → (∀ e, e ∈ r → e ∈ l) ∧ r.length ≤ l.length
  | [], h => by cases h
  | e :: l, h => by
    unfold lf_take at h
    by_cases c : e.1 = p ∧ e.2.1 = ix
    · rw [cif_t c] at h
      cases h
      exact ⟨fun e he => List.mem_cons_of_mem _ he, by simp⟩
    · rw [cif_f c] at h
      obtain ⟨⟨k', r'⟩, h1, h2⟩ := Option.map_eq_some_iff.mp h
      cases h2
      obtain ⟨q1, q2⟩ := lf_take_sub h1
      refine ⟨fun e' he => ?_, by simp only [List.length_cons]; omega⟩
      rcases List.mem_cons.mp he with rfl | he
      · exact List.mem_cons_self ..
      · exact List.mem_cons_of_mem _ (q1 e' he)
theorem SSI_sent {S : SS} {n : Tm} (h : SSI S) (hn : kd n = 1) : SSI (ss_sent (ss_turn S n)) := by
  obtain ⟨I, ba, ro, mi, se, n', b, br, bp, bo, on⟩ := S
  by_cases c : se = tz
  · rw [ss_turn_t c]; exact ⟨h.1, h.2.1, hn⟩
  · rw [ss_turn_f c]; exact h
theorem SSI_open {id e r idd P O : Tm} (hP : kd P = 2) (hP1 : kd (pt P 0) = 1) (hr : kd r = 1) : SSI (op_ses id e r idd P O) := ⟨⟨fun e he => absurd he List.not_mem_nil, ⟨0, by omega, rfl⟩, Nat.zero_le _⟩, ⟨hP, hP1⟩, hr⟩
theorem SEI_set {s p : Nat} {se : Nat → List SS} {l : List SS} (hp : p ≠ s) (h : SEI s se) (h2 : l.length ≤ 2) (hl : ∀ S, S ∈ l → SSI S) : SEI s (fset se p l) := by
  refine ⟨(fset_ne (Ne.symm hp)).trans h.1, fun q => ?_⟩
  by_cases c : q = p
  · rw [c, fset_same]; exact ⟨h2, hl⟩
  · rw [fset_ne c]; exact h.2 q
theorem SEI_cons {s p : Nat} {se : Nat → List SS} {S : SS} (hp : p ≠ s) (h : SEI s se) (hS : SSI S) : SEI s (fset se p (S :: (se p).take 1)) := SEI_set hp h (by simp only [List.length_cons, List.length_take]; omega) (fun S' h' => by
  rcases List.mem_cons.mp h' with rfl | h'
  · exact hS
  · exact (h.2 p).2 S' (List.mem_of_mem_take h'))
theorem SEI_at {s p : Nat} {se : Nat → List SS} {k : Nat} {S : SS} (h : SEI s se) (hk : (se p)[k]? = some S) : SSI S := (h.2 p).2 S (List.mem_of_getElem? hk)
theorem SEI_ok {s : Nat} {se : Nat → List SS} (h : SEI s se) : okSe se := fun p k S hk => ⟨(SEI_at h hk).2.2, (SEI_at h hk).2.1.2⟩
theorem SEI_ok2 {s : Nat} {se : Nat → List SS} (h : SEI s se) : ok2e se := fun p k S hk => ⟨(SEI_at h hk).2.1.1, (SEI_at h hk).2.2⟩
