/-! The whole of what holds, and steps that keep it -/
theorem an_once_at (dir : Nat → Tm) (p : Nat) : ∀ (n i j : Nat), (an_once dir p n i).2 j = dir j ∨ (an_once dir p n i).2 j = tz
  | 0, _, _ => Or.inl rfl
  | n + 1, i, j => by
    unfold an_once
    split
    · exact an_once_at dir p n (i + 1) j
    · by_cases c : j = i
      · subst c; exact Or.inr (fset_same _ _ _)
      · exact Or.inl (fset_ne c)
theorem an_dir_at (p : Nat) (v : Int32) : ∀ (l : List (Tm × Int32)) (k : Nat) (dir : Nat → Tm) (j : Nat), p * 5 + 1 + k + l.length ≤ 30 → an_dir p v l k dir j = dir j ∨ (j < 30 ∧ ∃ e, e ∈ l ∧ an_dir p v l k dir j = kr v e)
  | [], _, _, _, _ => Or.inl rfl
  | e :: l, k, dir, j, h => by
    simp only [List.length_cons] at h
    unfold an_dir
    rcases an_dir_at p v l (k + 1) (fset dir (p * 5 + (k + 1)) (kr v e)) j (by omega) with q | ⟨q1, e', q2, q3⟩
    · by_cases c : j = p * 5 + (k + 1)
      · subst c
        rw [fset_same] at q
        exact Or.inr ⟨by omega, e, List.mem_cons_self, q⟩
      · rw [fset_ne c] at q
        exact Or.inl q
    · exact Or.inr ⟨q1, e', List.mem_cons_of_mem _ q2, q3⟩
theorem an_pre_at {dir ids : Nat → Tm} {p : Nat} (h : an_pre dir ids p ≠ tz) : an_pre dir ids p = pt (pt (dir (p * 5)) 1) 0 ∧ kd (dir (p * 5)) = 6 ∧ pt (dir (p * 5)) 0 = ids p ∧ Tgood 1 (pt (dir (p * 5)) 1) = true ∧ nu (pt (dir (p * 5)) 1) 0 = nI p := by
  unfold an_pre at h ⊢
  by_cases c : kd (dir (p * 5)) = 6 ∧ pt (dir (p * 5)) 0 = ids p ∧ Tgood 1 (pt (dir (p * 5)) 1) = true ∧ nu (pt (dir (p * 5)) 1) 0 = nI p
  · rw [cif_t c]; exact ⟨rfl, c⟩
  · rw [cif_f c] at h; exact absurd rfl h
theorem hEF_1 {d : Int32} {k : Int32} {f : Int32 × Bool} (h : f.2 = decide (k = 1 ∨ k = 2) ∧ (k = 1 ∨ k = 2 → f.1 = d)) : ∀ (i : Nat) (e : Int32 × Int32) (g : Int32 × Bool), [(d, k)][i]? = some e → [f][i]? = some g → g.2 = decide (e.2 = 1 ∨ e.2 = 2) ∧ (e.2 = 1 ∨ e.2 = 2 → g.1 = e.1)
  | 0, e, g, he, hg => by
    cases he; cases hg; exact h
  | i + 1, e, g, he, _ => by simp at he
theorem hEF_2 {d d' : Int32} {k k' : Int32} {f f' : Int32 × Bool} (h : f.2 = decide (k = 1 ∨ k = 2) ∧ (k = 1 ∨ k = 2 → f.1 = d)) (h' : f'.2 = decide (k' = 1 ∨ k' = 2) ∧ (k' = 1 ∨ k' = 2 → f'.1 = d')) : ∀ (i : Nat) (e : Int32 × Int32) (g : Int32 × Bool), [(d, k), (d', k')][i]? = some e → [f, f'][i]? = some g → g.2 = decide (e.2 = 1 ∨ e.2 = 2) ∧ (e.2 = 1 ∨ e.2 = 2 → g.1 = e.1)
  | 0, e, g, he, hg => by
    cases he; cases hg; exact h
  | 1, e, g, he, hg => by
    cases he; cases hg; exact h'
  | i + 2, e, g, he, _ => by simp at he
theorem hEF_p {d : Int32} {m : Nat} : ∀ (i : Nat) (e : Int32 × Int32) (g : Int32 × Bool), ([(d, 1)] ++ List.replicate m (d, 0))[i]? = some e → ((d, true) :: List.replicate m (d, false))[i]? = some g → g.2 = decide (e.2 = 1 ∨ e.2 = 2) ∧ (e.2 = 1 ∨ e.2 = 2 → g.1 = e.1)
  | 0, e, g, he, hg => by
    have he : (d, 1) = e := by simpa using he
    have hg : (d, true) = g := by simpa using hg
    subst he; subst hg
    exact ⟨rfl, fun _ => rfl⟩
  | i + 1, e, g, he, hg => by
    have he : (List.replicate m ((d, 0) : Int32 × Int32))[i]? = some e := he
    have hg : (List.replicate m ((d, false) : Int32 × Bool))[i]? = some g := hg
    have h1 := List.eq_of_mem_replicate (List.mem_of_getElem? he)
    have h2 := List.eq_of_mem_replicate (List.mem_of_getElem? hg)
    subst h1; subst h2
    exact ⟨rfl, fun _ => rfl⟩
theorem hEF_m {s : Int32} {E : List (Int32 × Int32)} (hE : ∀ e, e ∈ E → e.1 = s ∧ (e.2 = 0 ∨ e.2 = 2)) : ∀ (i : Nat) (e : Int32 × Int32) (g : Int32 × Bool), E[i]? = some e → (E.map fun e => (e.1, decide (e.2 ≠ 0)))[i]? = some g → g.2 = decide (e.2 = 1 ∨ e.2 = 2) ∧ (e.2 = 1 ∨ e.2 = 2 → g.1 = e.1) := fun i e g he hg => by
  rw [List.getElem?_map, he] at hg
  have hg : (e.1, decide (e.2 ≠ 0)) = g := by simpa using hg
  subst hg
  refine ⟨?_, fun _ => rfl⟩
  rcases (hE e (List.mem_of_getElem? he)).2 with h | h
  · show decide (e.2 ≠ 0) = decide (e.2 = 1 ∨ e.2 = 2)
    rw [h]; decide
  · show decide (e.2 ≠ 0) = decide (e.2 = 1 ∨ e.2 = 2)
    rw [h]; decide
/-- a letter as it is first written down -/
theorem LE_sent {DL : List (Int32 × Int32)} {b s p m : Nat} {th ch : Tm} {nx : Int32} {le : List (Tm × Int32 × Tm)} {ba ro mi sd : Tm} {nn b0 : Int32} {br : Bool} {bp bo : Tm} {oc : Bool} (hs : s < 6) (hp : p < 6) (hm : DL[m]? = some (nI s, 0)) (h1 : SD DL mi) (h2 : SD DL (pt th 0)) : LE DL b (lt_sent (Tsec (nI m) (nI s) 0) (nI s) (nI p) ((th, ch, nx, le), ba, ro, mi, sd, nn, b0, br, bp, bo, oc)) (Tsec (nI m) (nI s) 0, nI s, nI p, oc, mi, pt th 0, 0, 0, fun _ => 2147483647) := ⟨⟨rfl, rfl, s, hs, rfl, m, hm, rfl⟩, Or.inl ⟨rfl, ⟨p, hp, rfl⟩, rfl, rfl, rfl, rfl, h1, h2, rfl⟩, fun q hq => ⟨by rw [hbit_z (by omega), decide_eq_false (fun z => z rfl)], Or.inl rfl⟩⟩
theorem LE_post {DL : List (Int32 × Int32)} {b s g m : Nat} {ma li : Int32} (hs : s < 6) (hg : g < 4) (hm : DL[m]? = some (nI s, 0)) : LE DL b (lt_post (Tsec (nI m) (nI s) 0) (nI s) (nI g) ma li) (Tsec (nI m) (nI s) 0, nI s, nI (16 + g), false, tz, tz, ma, 0, fun _ => 2147483647) := ⟨⟨rfl, rfl, s, hs, rfl, m, hm, rfl⟩, Or.inr ⟨g, hg, rfl, rfl, rfl⟩, fun q hq => ⟨by rw [hbit_z (by omega), decide_eq_false (fun z => z rfl)], Or.inl rfl⟩⟩
theorem get_end {α : Type} (l : List α) (x : α) : (l ++ [x])[l.length]? = some x := by rw [List.getElem?_append_right (Nat.le_refl _), Nat.sub_self]; rfl
theorem fset_id1 {dev : Nat → DV} {s : Nat} {D : DV} (h : D.1 = (dev s).1) : ∀ q, q < 6 → (fset dev s D q).1 = (dev q).1 := fun q _ => by
  by_cases c : q = s
  · subst c; rw [fset_same, h]
  · rw [fset_ne c]
