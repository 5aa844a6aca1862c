/-! What comes and what is handed out, seen from outside -/
def orig (id : Tm) (K0 K1 : PK) (on : List (Tm × Int32)) (idp H : Tm) (l : List SS) (S : SS) : Prop := S ∈ l ∨ ∃ b o, pk_find K0 K1 (pt H 2) = some b ∧ S = ss_start (pt H 0) (pk_of K0 K1 b).1 (as_root id (pk_of K0 K1 b).1 idp (pt H 0) o) o.isSome ∧ (o = none ∨ ∃ e, e ∈ on ∧ o = some e.1)
def pkx (K K' : PK) (A : Tm) : Prop := K'.1 = K.1 ∧ K'.2.1 = K.2.1 ∧ ∀ x, x ∈ K'.2.2 → x ∈ K.2.2 ∨ x = A
theorem pkx_rfl (K : PK) (A : Tm) : pkx K K A := ⟨rfl, rfl, fun _ h => Or.inl h⟩
theorem pkx_add (K0 K1 : PK) (b : Bool) (A : Tm) : pkx K0 (pk_add K0 K1 b A).1 A ∧ pkx K1 (pk_add K0 K1 b A).2 A := by
  cases b
  · refine ⟨⟨rfl, rfl, fun x hx => ?_⟩, pkx_rfl _ _⟩
    rcases List.mem_append.mp hx with h | h
    · exact Or.inl h
    · exact Or.inr (List.mem_singleton.mp h)
  · refine ⟨pkx_rfl _ _, rfl, rfl, fun x hx => ?_⟩
    rcases List.mem_append.mp hx with h | h
    · exact Or.inl h
    · exact Or.inr (List.mem_singleton.mp h)
theorem getD_mem {α : Type} {l : List α} {i : Nat} {d : α} (h : i < l.length) : l.getD i d ∈ l := by
  rw [List.getD_eq_getElem?_getD, List.getElem?_eq_getElem h]
  exact List.getElem_mem h
theorem on_find_lt {A : Tm} : ∀ {l : List (Tm × Int32)} {i : Nat}, on_find A l = some i → i < l.length
  | [], i, h => by cases h
  | e :: l, i, h => by
    unfold on_find at h
    by_cases c : Tpub e.1 = A
    · rw [cif_t c] at h; cases h; exact Nat.succ_pos _
    · rw [cif_f c] at h
      cases hl : on_find A l with
      | none => rw [hl] at h; cases h
      | some j =>
        rw [hl] at h; cases h
        have := on_find_lt hl
        simp only [List.length_cons]; omega
/-- what a sealed term did -/
def tsv (id : Tm) (K0 K1 : PK) (on : List (Tm × Int32)) (lnu : Int32) (se : Nat → List SS) (me : Nat → MM) (ids : Nat → Tm) (q p : Nat) (A : Tm) (r : Int32 × DV × Bool) : Prop := p ≠ q ∧ nu (pt A 1) 1 = nI q ∧ ∃ K0' K1' on' S l S1 me', (orig id K0 K1 on (ids p) (pt A 1) (se p) S ∧ ss_key S (pt A 1) = some (pt A 0, S1)) ∧ r.2.1 = (id, K0', K1', on', lnu, fset se p (ss_nb S1 :: l), me') ∧ ((pkx K0 K0' (pt (pt A 1) 0) ∧ pkx K1 K1' (pt (pt A 1) 0)) ∧ (∀ e, e ∈ on' → e ∈ on) ∧ ∀ x, x ∈ l → x ∈ se p) ∧ ((r.1 = 1 ∧ Tgood 4 (pt A 2) = true ∧ me' = me ∧ r.2.2 = S1.2.2.2.2.2.2.2.2.2.2) ∨ (r.1 = 2 ∧ Tgood 5 (pt A 2) = true ∧ me' = fset me (nu (pt A 2) 0).toNatClampNeg (mm_acc (me (nu (pt A 2) 0).toNatClampNeg) p (pt A 2) S1.2.2.2.2.2.2.2.2.2.2)))
theorem ts_go_view {id : Tm} {K0 K1 K0' K1' : PK} {on on' : List (Tm × Int32)} {lnu : Int32} {se se' : Nat → List SS} {me : Nat → MM} {ids : Nat → Tm} {q p : Nat} {A : Tm} {k : Nat} {S : SS} (hpq : p ≠ q) (hq : nu (pt A 1) 1 = nI q) (hS : orig id K0 K1 on (ids p) (pt A 1) (se p) S) (hK : pkx K0 K0' (pt (pt A 1) 0) ∧ pkx K1 K1' (pt (pt A 1) 0)) (hon : ∀ e, e ∈ on' → e ∈ on) (hl : ∀ x, x ∈ (se' p).eraseIdx k → x ∈ se p) (hse : ∀ l, fset se' p l = fset se p l) (h0 : 0 ≤ (ts_go (id, K0', K1', on', lnu, se', me) p A k S).1) : tsv id K0 K1 on lnu se me ids q p A (ts_go (id, K0', K1', on', lnu, se', me) p A k S) := by
  unfold ts_go at h0 ⊢
  dsimp only at h0 ⊢
  cases hk : ss_key S (pt A 1) with
  | none => rw [hk] at h0; exact absurd (show (0 : Int32) ≤ -13 from h0) (by decide)
  | some r =>
    obtain ⟨K, S1⟩ := r
    rw [hk] at h0
    dsimp only at h0 ⊢
    by_cases c : K = pt A 0
    · rw [cif_t c] at h0 ⊢
      subst c
      by_cases g4 : Tgood 4 (pt A 2) = true
      · rw [if_pos g4]
        exact ⟨hpq, hq, K0', K1', on', S, (se' p).eraseIdx k, S1, me, ⟨hS, hk⟩, by rw [hse], ⟨hK, hon, hl⟩, Or.inl ⟨rfl, g4, rfl, rfl⟩⟩
      · rw [if_neg g4] at h0 ⊢
        by_cases g5 : Tgood 5 (pt A 2) = true
        · rw [if_pos g5]
          exact ⟨hpq, hq, K0', K1', on', S, (se' p).eraseIdx k, S1, _, ⟨hS, hk⟩, by rw [hse], ⟨hK, hon, hl⟩, Or.inr ⟨rfl, g5, rfl⟩⟩
        · rw [if_neg g5] at h0
          exact absurd (show (0 : Int32) ≤ -15 from h0) (by decide)
    · rw [cif_f c] at h0
      exact absurd (show (0 : Int32) ≤ -14 from h0) (by decide)
theorem ts_view {id : Tm} {K0 K1 : PK} {on : List (Tm × Int32)} {lnu : Int32} {se : Nat → List SS} {me : Nat → MM} {ids : Nat → Tm} {q p : Nat} {A : Tm} (h0 : 0 ≤ (ts_spec (id, K0, K1, on, lnu, se, me) ids q p A).1) : tsv id K0 K1 on lnu se me ids q p A (ts_spec (id, K0, K1, on, lnu, se, me) ids q p A) := by
  unfold ts_spec at h0 ⊢
  by_cases c : nu (pt A 1) 1 = nI q ∧ p ≠ q
  · rw [if_pos c] at h0 ⊢
    dsimp only at h0 ⊢
    cases hf : ss_find (se p) (pt (pt A 1) 0) with
    | some r =>
      obtain ⟨k, S⟩ := r
      rw [hf] at h0
      dsimp only at h0 ⊢
      exact ts_go_view c.2 c.1 (Or.inl (List.mem_of_getElem? (ss_find_some hf).1)) ⟨pkx_rfl _ _, pkx_rfl _ _⟩ (fun _ h => h) (fun x hx => List.mem_of_mem_eraseIdx hx) (fun _ => rfl) h0
    | none =>
      rw [hf] at h0
      dsimp only at h0 ⊢
      unfold as_spec at h0 ⊢
      dsimp only at h0 ⊢
      cases hp : pk_find K0 K1 (pt (pt A 1) 2) with
      | none => rw [hp] at h0; exact absurd (show (0 : Int32) ≤ -12 from h0) (by decide)
      | some b =>
        rw [hp] at h0
        dsimp only at h0 ⊢
        have hx : ∀ (x : SS), x ∈ (x :: (se p).take 1).eraseIdx 0 → x ∈ se p := fun x hx => List.mem_of_mem_take hx
        by_cases c1 : pt (pt A 1) 3 = tz
        · rw [cif_t c1] at h0 ⊢
          by_cases c2 : pt (pt A 1) 0 ∈ (pk_of K0 K1 b).2.2 ∨ 4 ≤ (pk_of K0 K1 b).2.2.length
          · rw [cif_t c2] at h0; exact absurd (show (0 : Int32) ≤ -12 from h0) (by decide)
          · rw [cif_f c2] at h0 ⊢
            unfold dv_ses at h0 ⊢
            dsimp only at h0 ⊢
            rw [fset_same] at h0 ⊢
            dsimp only at h0 ⊢
            exact ts_go_view c.2 c.1 (Or.inr ⟨b, none, hp, rfl, Or.inl rfl⟩) (pkx_add K0 K1 b _) (fun _ h => h) (fun x hx => by rw [fset_same] at hx; exact List.mem_of_mem_take hx) (fun l => fset_fset _ _ _ _) h0
        · rw [cif_f c1] at h0 ⊢
          cases ho : on_find (pt (pt A 1) 3) on with
          | none => rw [ho] at h0; exact absurd (show (0 : Int32) ≤ -12 from h0) (by decide)
          | some i =>
            rw [ho] at h0
            dsimp only at h0 ⊢
            unfold dv_ses at h0 ⊢
            dsimp only at h0 ⊢
            rw [fset_same] at h0 ⊢
            dsimp only at h0 ⊢
            exact ts_go_view c.2 c.1 (Or.inr ⟨b, some _, hp, rfl, Or.inr ⟨on.getD i (tz, 0), getD_mem (on_find_lt ho), rfl⟩⟩) ⟨pkx_rfl _ _, pkx_rfl _ _⟩ (fun e he => List.mem_of_mem_eraseIdx he) (fun x hx => by rw [fset_same] at hx; exact List.mem_of_mem_take hx) (fun l => fset_fset _ _ _ _) h0
  · rw [if_neg c] at h0
    exact absurd (show (0 : Int32) ≤ -11 from h0) (by decide)
theorem tp_view {A : Tm} {q p : Nat} {M : MM} (h0 : 0 ≤ (tp_spec A q p M).1) : p ≠ q ∧ Tgood 4 (pt (pt A 1) 2) = true ∧ ∃ k G0 I, (mgv M p)[k]? = some G0 ∧ G0.2.1 = nu (pt (pt A 1) 1) 2 ∧ gv_key G0.1 (nu (pt (pt A 1) 1) 3) = some (pt (pt A 1) 0, I) ∧ tp_spec A q p M = (1, mm_set M p ((mgv M p).set k (I, G0.2.1, G0.2.2))) ∧ tp_one A p M = G0.2.2 := by
  unfold tp_spec tp_one at *
  by_cases c : p = q
  · rw [if_pos c] at h0; exact absurd (show (0 : Int32) ≤ -11 from h0) (by decide)
  · rw [if_neg c] at h0 ⊢
    cases hf : gv_find (mgv M p) (nu (pt (pt A 1) 1) 2) with
    | none => rw [hf] at h0; exact absurd (show (0 : Int32) ≤ -17 from h0) (by decide)
    | some r =>
      obtain ⟨k, G0⟩ := r
      rw [hf] at h0
      dsimp only at h0 ⊢
      by_cases c1 : hbit M.2.1 (nI p) = true
      · rw [if_pos c1] at h0 ⊢
        by_cases c2 : (if kd (pt A 0) = 1 then Tpub (pt A 0) else tz) = G0.1.1
        · rw [cif_t c2] at h0 ⊢
          cases hg : gv_key G0.1 (nu (pt (pt A 1) 1) 3) with
          | none => rw [hg] at h0; exact absurd (show (0 : Int32) ≤ -13 from h0) (by decide)
          | some r =>
            obtain ⟨K, I⟩ := r
            rw [hg] at h0
            dsimp only at h0 ⊢
            by_cases c3 : K = pt (pt A 1) 0
            · rw [cif_t c3] at h0 ⊢
              by_cases g4 : Tgood 4 (pt (pt A 1) 2) = true
              · rw [if_pos g4]
                exact ⟨c, g4, k, G0, I, (gv_find_some hf).1, (gv_find_some hf).2, by rw [hg, c3], rfl, rfl⟩
              · rw [if_neg g4] at h0; exact absurd (show (0 : Int32) ≤ -15 from h0) (by decide)
            · rw [cif_f c3] at h0; exact absurd (show (0 : Int32) ≤ -14 from h0) (by decide)
        · rw [cif_f c2] at h0; exact absurd (show (0 : Int32) ≤ -14 from h0) (by decide)
      · rw [if_neg c1] at h0; exact absurd (show (0 : Int32) ≤ -17 from h0) (by decide)
