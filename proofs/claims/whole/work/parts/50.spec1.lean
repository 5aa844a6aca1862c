/-! What a device has, as plain values: chains that keys come on, sessions -/
noncomputable def cif {α : Type} (p : Prop) (a b : α) : α := @ite α p (Classical.propDecidable p) a b
theorem cif_t {α : Type} {p : Prop} {a b : α} (h : p) : cif p a b = a := if_pos h
theorem cif_f {α : Type} {p : Prop} {a b : α} (h : ¬ p) : cif p a b = b := if_neg h
/-- theirs, chain, next, left keys (PUBLIC, index, key) -/
abbrev IB : Type := Tm × Tm × Int32 × List (Tm × Int32 × Tm)
def ib_step (I : IB) : IB := (I.1, Tmx 7 I.2.1 tz, I.2.2.1 + 1, (if I.2.2.2.length = 8 then I.2.2.2.drop 1 else I.2.2.2) ++ [(I.1, I.2.2.1, Tmx 6 I.2.1 tz)])
def ib_skipN (ix : Int32) : Nat → IB → IB
  | 0, I => I
  | n + 1, I => if ix ≤ I.2.2.1 then I else ib_skipN ix n (ib_step I)
def ib_skipTo (I : IB) (ix : Int32) : Option IB := if ix - I.2.2.1 ≤ 5 then some (ib_skipN ix 5 I) else none
def ib_next (I : IB) (ix : Int32) : Option (Tm × IB) := if ix < I.2.2.1 then none else (ib_skipTo I ix).map fun J => (Tmx 6 J.2.1 tz, (J.1, Tmx 7 J.2.1 tz, J.2.2.1 + 1, J.2.2.2))
/-- the first left key for a PUBLIC and an index -/
def lf_at (l : List (Tm × Int32 × Tm)) (p : Tm) (ix : Int32) (i : Nat) (k : Tm) : Prop := (∃ e, l[i]? = some e ∧ e.1 = p ∧ e.2.1 = ix ∧ e.2.2 = k) ∧ ∀ j e, j < i → l[j]? = some e → ¬ (e.1 = p ∧ e.2.1 = ix)
def lf_no (l : List (Tm × Int32 × Tm)) (p : Tm) (ix : Int32) : Prop := ∀ (j : Nat) (e : Tm × Int32 × Tm), l[j]? = some e → ¬ (e.1 = p ∧ e.2.1 = ix)
noncomputable def lf_take (p : Tm) (ix : Int32) : List (Tm × Int32 × Tm) → Option (Tm × List (Tm × Int32 × Tm))
  | [] => none
  | e :: l => cif (e.1 = p ∧ e.2.1 = ix) (some (e.2.2, l)) ((lf_take p ix l).map fun r => (r.1, e :: r.2))
theorem lf_take_no {p : Tm} {ix : Int32} : ∀ {l : List (Tm × Int32 × Tm)}, lf_no l p ix → lf_take p ix l = none
  | [], _ => rfl
  | e :: l, h => by
    unfold lf_take
    rw [cif_f (h 0 e rfl), lf_take_no (l := l) (fun j e' hj => h (j + 1) e' hj)]
    rfl
theorem lf_take_at {p : Tm} {ix : Int32} {k : Tm} : ∀ {l : List (Tm × Int32 × Tm)} {i : Nat}, lf_at l p ix i k → lf_take p ix l = some (k, l.eraseIdx i)
  | [], i, h => by obtain ⟨⟨e, he, -⟩, -⟩ := h; simp at he
  | e :: l, 0, h => by
    obtain ⟨⟨e', he, h1, h2, h3⟩, -⟩ := h
    simp at he
    subst he
    unfold lf_take
    rw [cif_t ⟨h1, h2⟩, h3]
    rfl
  | e :: l, i + 1, h => by
    obtain ⟨⟨e', he, h1⟩, h2⟩ := h
    unfold lf_take
    rw [cif_f (h2 0 e (by omega) rfl), lf_take_at (l := l) (i := i) (k := k) ⟨⟨e', he, h1⟩, fun j e'' hj hje => h2 (j + 1) e'' (by omega) hje⟩]
    rfl
/-- inbound, base, root, mine, sending, sent, before, bears, bears what (two), one-time -/
abbrev SS : Type := IB × Tm × Tm × Tm × Tm × Int32 × Int32 × Bool × Tm × Tm × Bool
def ss_start (base mine root : Tm) (o : Bool) : SS := ((tz, tz, 0, []), base, root, mine, tz, 0, 0, false, tz, tz, o)
def ss_bear (S : SS) (p o : Tm) : SS := match S with
  | ((_, ch, nx, le), ba, ro, mi, _, n, b, _, _, _, on) => ((p, ch, nx, le), ba, Tmx 4 ro (Tsh mi (pt p 0)), mi, Tmx 5 ro (Tsh mi (pt p 0)), n, b, true, p, o, on)
noncomputable def ss_turn (S : SS) (new : Tm) : SS := match S with
  | (I, ba, ro, mi, se, n, b, br, bp, bo, on) => cif (se = tz) (I, ba, Tmx 4 ro (Tsh new (pt I.1 0)), new, Tmx 5 ro (Tsh new (pt I.1 0)), 0, n, br, bp, bo, on) S
def ss_wire (S : SS) (s d : Int32) (body : Tm) : Tm := match S with
  | (_, ba, _, mi, se, n, b, br, bp, bo, _) => Tsl (Tmx 6 se tz) (Trw 3 s d n b ba (Tpub mi) (if br = true then bp else tz) (if br = true then bo else tz)) body
def ss_sent (S : SS) : SS := match S with
  | (I, ba, ro, mi, se, n, b, br, bp, bo, on) => (I, ba, ro, mi, Tmx 7 se tz, n + 1, b, br, bp, bo, on)
def ss_recv (S : SS) (p : Tm) : SS := match S with
  | ((_, _, _, le), ba, ro, mi, _, n, b, br, bp, bo, on) => ((p, Tmx 5 ro (Tsh mi (pt p 0)), 0, le), ba, Tmx 4 ro (Tsh mi (pt p 0)), mi, tz, n, b, br, bp, bo, on)
noncomputable def ss_follow (S : SS) (p : Tm) (en : Int32) : Option SS := cif (p = S.1.1 ∧ S.1.2.1 ≠ tz) (some S) (cif (S.1.2.1 ≠ tz ∧ S.1.2.2.1 < en) ((ib_skipTo S.1 en).map fun J => ss_recv (J, S.2) p) (some (ss_recv S p)))
/-! In the heap -/
/-- an Inbound at x, its left keys at x + 1 -/
def InS (B : bm_H) (x : Nat) : Prop := (x < bm_n B ∧ bm_K B x = 2) ∧ bm_FR B 2 0 x = some (x + 1) ∧ (x + 1 < bm_n B ∧ bm_K B (x + 1) = 13 ∧ bm_AL B (x + 1) = 24)
def RIn (B : bm_H) (T : List Tm) (x : Nat) (I : IB) : Prop := InS B x ∧ (bm_FI B 2 1 x = nI I.2.2.2.length ∧ I.2.2.2.length ≤ 8) ∧ (tv T (bm_FI B 2 2 x) I.1 ∧ tv T (bm_FI B 2 3 x) I.2.1 ∧ bm_FI B 2 4 x = I.2.2.1) ∧ ∀ (i : Nat) (e : Tm × Int32 × Tm), I.2.2.2[i]? = some e → tv T (bm_AI B (x + 1) (i * 3)) e.1 ∧ bm_AI B (x + 1) (i * 3 + 1) = e.2.1 ∧ tv T (bm_AI B (x + 1) (i * 3 + 2)) e.2.2
theorem InS_fr {X : Nat → Prop} {B B' : bm_H} {x : Nat} (h : InS B x) (hf : fr X B B') : InS B' x := by
  obtain ⟨⟨h1, h2⟩, h3, h4, h5, h6⟩ := h
  exact ⟨⟨fr_lt hf h1, (fr_K hf h1).trans h2⟩, (fr_FS hf h1 2 0 rfl).trans h3, fr_lt hf h4, (fr_K hf h4).trans h5, (fr_AL hf h4).trans h6⟩
theorem RIn_fr {X : Nat → Prop} {B B' : bm_H} {T T' : List Tm} {x : Nat} {I : IB} (h : RIn B T x I) (hf : fr X B B') (n1 : ¬ X x) (n2 : ¬ X (x + 1)) (hT : T <+: T') : RIn B' T' x I := by
  obtain ⟨h1, ⟨h2, h3⟩, ⟨h4, h5, h6⟩, h7⟩ := h
  have l1 := h1.1.1
  have l2 := h1.2.2.1
  refine ⟨InS_fr h1 hf, ⟨by rw [fr_FI hf l1 n1]; exact h2, h3⟩, ⟨by rw [fr_FI hf l1 n1]; exact tv_mono hT h4, by rw [fr_FI hf l1 n1]; exact tv_mono hT h5, by rw [fr_FI hf l1 n1]; exact h6⟩, fun i e he => ?_⟩
  obtain ⟨g1, g2, g3⟩ := h7 i e he
  rw [fr_AI hf l2 n2]
  exact ⟨tv_mono hT g1, g2, tv_mono hT g3⟩
theorem RIn_ok {B : bm_H} {T : List Tm} {x : Nat} {I : IB} (h : RIn B T x I) : in_ok B x (x + 1) I.2.2.2.length := ⟨h.1.1, h.1.2.1, h.1.2.2, h.2.1.1, h.2.1.2⟩
/-- the same Inbound, its values told anew -/
theorem RIn_mk {X : Nat → Prop} {B B' : bm_H} {T' : List Tm} {x c : Nat} {th ch nx : Int32} {g : Nat → Int32} {J : IB} (h : InS B x) (hf : fr X B B') (e1 : bm_FI B' 2 1 x = nI c) (e2 : bm_FI B' 2 2 x = th) (e3 : bm_FI B' 2 3 x = ch) (e4 : bm_FI B' 2 4 x = nx) (e5 : bm_AI B' (x + 1) = g) (hc : J.2.2.2.length = c) (hc8 : c ≤ 8) (h2 : tv T' th J.1) (h3 : tv T' ch J.2.1) (h4 : nx = J.2.2.1) (h5 : ∀ (i : Nat) (e : Tm × Int32 × Tm), J.2.2.2[i]? = some e → tv T' (g (i * 3)) e.1 ∧ g (i * 3 + 1) = e.2.1 ∧ tv T' (g (i * 3 + 2)) e.2.2) : RIn B' T' x J := ⟨InS_fr h hf, ⟨by rw [e1, hc], by rw [hc]; exact hc8⟩, ⟨by rw [e2]; exact h2, by rw [e3]; exact h3, by rw [e4]; exact h4⟩, fun i e he => by rw [e5]; exact h5 i e he⟩
/-- the left keys without one -/
theorem RIn_rem {B : bm_H} {T : List Tm} {x i : Nat} {I : IB} (h : RIn B T x I) (hi : i < I.2.2.2.length) : RIn (in_rem B x (x + 1) I.2.2.2.length i) T x (I.1, I.2.1, I.2.2.1, I.2.2.2.eraseIdx i) := by
  obtain ⟨h1, ⟨h2, h3⟩, ⟨h4, h5, h6⟩, h7⟩ := h
  have hl : (I.2.2.2.eraseIdx i).length = I.2.2.2.length - 1 := by rw [List.length_eraseIdx, if_pos hi]
  refine ⟨h1, ⟨?_, by show (I.2.2.2.eraseIdx i).length ≤ 8; omega⟩, ⟨h4, h5, h6⟩, fun j e he => ?_⟩
  · show (if 2 = 2 ∧ 1 = 1 ∧ x = x then nI (I.2.2.2.length - 1) else _) = _
    rw [if_pos ⟨rfl, rfl, rfl⟩, hl]
  · have hj : j < I.2.2.2.length - 1 := by have := (List.getElem?_eq_some_iff.mp he).1; rw [← hl]; exact this
    have hval : ∀ k, k < 3 → bm_AI (in_rem B x (x + 1) I.2.2.2.length i) (x + 1) (j * 3 + k) = if j < i then bm_AI B (x + 1) (j * 3 + k) else bm_AI B (x + 1) ((j + 1) * 3 + k) := fun k hk => by
      show (if x + 1 = x + 1 then in_cut (bm_AI B (x + 1)) I.2.2.2.length i (j * 3 + k) else _) = _
      rw [if_pos rfl]
      unfold in_cut
      by_cases c : j < i
      · rw [if_pos c, pk_cpy_out (by omega)]
      · rw [if_neg c, pk_cpy_in (by omega) (by omega)]
        congr 1
        omega
    have v0 : bm_AI (in_rem B x (x + 1) I.2.2.2.length i) (x + 1) (j * 3) = if j < i then bm_AI B (x + 1) (j * 3) else bm_AI B (x + 1) ((j + 1) * 3) := hval 0 (by decide)
    have he' : (I.2.2.2.eraseIdx i)[j]? = some e := he
    rw [List.getElem?_eraseIdx] at he'
    rw [v0, hval 1 (by decide), hval 2 (by decide)]
    by_cases c : j < i
    · rw [if_pos c, if_pos c, if_pos c]
      rw [if_pos c] at he'
      exact h7 j e he'
    · rw [if_neg c, if_neg c, if_neg c]
      rw [if_neg c] at he'
      exact h7 (j + 1) e he'
theorem in_rem_fz (B : bm_H) (x c i : Nat) : fz (fun y => y = x ∨ y = x + 1) B (in_rem B x (x + 1) c i) := ⟨fr_trans (fr_mono (fun _ h => Or.inl h) (fr_putI B 2 1 x _)) (fr_mono (fun _ h => Or.inr h) (fr_allI _ (x + 1) _)), rfl, rfl⟩
theorem AI_set (B : bm_H) (a i : Nat) (v : Int32) : bm_AI (bm_setI B a i v) a = upd (bm_AI B a) i v := by
  funext j
  show (if a = a ∧ j = i then v else bm_AI B a j) = if j = i then v else bm_AI B a j
  simp
