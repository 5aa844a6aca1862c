/-! The reference: post -/
theorem cq_6 {s : Nat} (hs : s < 6) : cq s 6 0 = 5 := by
  rcases (by omega : s = 0 ∨ s = 1 ∨ s = 2 ∨ s = 3 ∨ s = 4 ∨ s = 5) with rfl | rfl | rfl | rfl | rfl | rfl <;> rfl
theorem bgn_le (se se' : Nat → List SS) : ∀ n p, bgn se se' n p ≤ n
  | 0, _ => Nat.le_refl _
  | n + 1, p => by
    have h := bgn_le se se' n (p + 1)
    show (if _ then 1 else 0) + bgn se se' n (p + 1) ≤ n + 1
    split <;> omega
theorem qMm_renew {w h : Nat → Int32} {T T' : List Tm} {a dr : Nat} {v : Int32} {M : MM} (hT : T <+: T') (hM : qMm w T a M) (e : ∀ k, k ≠ a + 3 → k ≠ a + 4 → k ≠ a + 5 → k ≠ a + 6 → k ≠ a + 7 → k ≠ a + 8 → h k = w k) (e3 : h (a + 3) = M.2.2.2.1 + 1) (e4 : tv T' (h (a + 4)) (Tsec (nI dr) v 0)) (e5 : tv T' (h (a + 5)) (Tsec (nI (dr + 1)) v 0)) (e6 : h (a + 6) = 0) (e7 : h (a + 7) = 0) (e8 : h (a + 8) = 0) : qMm h T' a (mm_renew M dr v) := by
  obtain ⟨ve, ma, go, ge, ch, si, ix, ga, sl, gv⟩ := M
  obtain ⟨⟨h1, h2, h3, h4⟩, ⟨h5, h6⟩, ⟨h7, h8, h9⟩, h10⟩ := hM
  refine ⟨⟨(e _ (by omega) (by omega) (by omega) (by omega) (by omega) (by omega)).trans h1, (e _ (by omega) (by omega) (by omega) (by omega) (by omega) (by omega)).trans h2, (e _ (by omega) (by omega) (by omega) (by omega) (by omega) (by omega)).trans h3, e3⟩, ⟨e4, e5⟩, ⟨e6, e7, e8⟩, fun p hp => ?_⟩
  obtain ⟨⟨q1, q2⟩, q3⟩ := h10 p hp
  exact ⟨⟨(e _ (by omega) (by omega) (by omega) (by omega) (by omega) (by omega)).trans q1, q2⟩, fun k G hG => qGv_c hT (fun j hj => e _ (by omega) (by omega) (by omega) (by omega) (by omega) (by omega)) (q3 k G hG)⟩
theorem ho1_wires {id : Tm} {ids : Nat → Tm} {s g p : Nat} {Y : Tm} {se : Nat → List SS} {me : Nat → MM} {dir : Nat → Tm} {dr : Nat} {wt : List Tm} : (ho1 id ids s g Y p (se, me, dir, dr, wt)).2.2.2.2 = wt ∨ ∃ S q, (ho1 id ids s g Y p (se, me, dir, dr, wt)).2.2.2.2 = wt ++ [ss_wire S q (nI p) Y] := by
  by_cases h : p = s ∨ hbit (me g).2.1 (nI p) = false ∨ hbit (me g).2.2.2.2.2.2.2.1 (nI p) = true
  · rw [ho1_skip (H := (se, me, dir, dr, wt)) h]
    exact Or.inl rfl
  · cases hs : se p with
    | nil =>
      by_cases hz : an_pre dir ids p = tz
      · rw [ho1_none (H := (se, me, dir, dr, wt)) h hs hz]
        exact Or.inl rfl
      · have hw : ho_way id ids s p se dir dr = some (fset se p [op_ses id (Tsec (nI dr) (nI s) 0) (Tsec (nI (dr + 1)) (nI s) 2) (ids p) (an_pre dir ids p) (an_once dir p 4 (p * 5 + 1)).1], (an_once dir p 4 (p * 5 + 1)).2, dr + 2) := by unfold ho_way; rw [hs]; exact cif_f hz
        rw [ho1_some (H := (se, me, dir, dr, wt)) h hw (fset_same _ _ _)]
        exact Or.inr ⟨_, _, rfl⟩
    | cons S0 l =>
      have hw : ho_way id ids s p se dir dr = some (se, dir, dr) := by unfold ho_way; rw [hs]
      rw [ho1_some (H := (se, me, dir, dr, wt)) h hw hs]
      exact Or.inr ⟨_, _, rfl⟩
theorem turn_le (S : SS) (dr : Nat) : dr_turn S dr ≤ dr + 1 := by unfold dr_turn; split <;> omega
theorem ho1_dr {id : Tm} {ids : Nat → Tm} {s g p : Nat} {Y : Tm} {se : Nat → List SS} {me : Nat → MM} {dir : Nat → Tm} {dr : Nat} {wt : List Tm} : (ho1 id ids s g Y p (se, me, dir, dr, wt)).2.2.2.1 ≤ dr + 3 := by
  by_cases h : p = s ∨ hbit (me g).2.1 (nI p) = false ∨ hbit (me g).2.2.2.2.2.2.2.1 (nI p) = true
  · rw [ho1_skip (H := (se, me, dir, dr, wt)) h]
    show dr ≤ dr + 3
    omega
  · cases hs : se p with
    | nil =>
      by_cases hz : an_pre dir ids p = tz
      · rw [ho1_none (H := (se, me, dir, dr, wt)) h hs hz]
        show dr ≤ dr + 3
        omega
      · have hw : ho_way id ids s p se dir dr = some (fset se p [op_ses id (Tsec (nI dr) (nI s) 0) (Tsec (nI (dr + 1)) (nI s) 2) (ids p) (an_pre dir ids p) (an_once dir p 4 (p * 5 + 1)).1], (an_once dir p 4 (p * 5 + 1)).2, dr + 2) := by unfold ho_way; rw [hs]; exact cif_f hz
        rw [ho1_some (H := (se, me, dir, dr, wt)) h hw (fset_same _ _ _)]
        have := turn_le (op_ses id (Tsec (nI dr) (nI s) 0) (Tsec (nI (dr + 1)) (nI s) 2) (ids p) (an_pre dir ids p) (an_once dir p 4 (p * 5 + 1)).1) (dr + 2)
        exact this
    | cons S0 l =>
      have hw : ho_way id ids s p se dir dr = some (se, dir, dr) := by unfold ho_way; rw [hs]
      rw [ho1_some (H := (se, me, dir, dr, wt)) h hw hs]
      have := turn_le S0 dr
      show dr_turn S0 dr ≤ dr + 3
      omega
theorem ho_dr {id : Tm} {ids : Nat → Tm} {s g : Nat} {Y : Tm} : ∀ (n p : Nat) (H : HS), (ho id ids s g Y n p H).2.2.2.1 ≤ H.2.2.2.1 + 3 * n
  | 0, _, H => Nat.le_refl _
  | n + 1, p, H => by
    obtain ⟨se, me, dir, dr, wt⟩ := H
    show (ho id ids s g Y n (p + 1) (ho1 id ids s g Y p (se, me, dir, dr, wt))).2.2.2.1 ≤ dr + 3 * (n + 1)
    have h1 := ho_dr (id := id) (ids := ids) (s := s) (g := g) (Y := Y) n (p + 1) (ho1 id ids s g Y p (se, me, dir, dr, wt))
    have h2 := ho1_dr (id := id) (ids := ids) (s := s) (g := g) (p := p) (Y := Y) (se := se) (me := me) (dir := dir) (dr := dr) (wt := wt)
    omega
theorem ho1_si {id : Tm} {ids : Nat → Tm} {s g p : Nat} {Y : Tm} {se : Nat → List SS} {me : Nat → MM} {dir : Nat → Tm} {dr : Nat} {wt : List Tm} : ((ho1 id ids s g Y p (se, me, dir, dr, wt)).2.1 g).2.2.2.2.2.1 = (me g).2.2.2.2.2.1 := by
  by_cases h : p = s ∨ hbit (me g).2.1 (nI p) = false ∨ hbit (me g).2.2.2.2.2.2.2.1 (nI p) = true
  · rw [ho1_skip (H := (se, me, dir, dr, wt)) h]
  · cases hs : se p with
    | nil =>
      by_cases hz : an_pre dir ids p = tz
      · rw [ho1_none (H := (se, me, dir, dr, wt)) h hs hz]
      · have hw : ho_way id ids s p se dir dr = some (fset se p [op_ses id (Tsec (nI dr) (nI s) 0) (Tsec (nI (dr + 1)) (nI s) 2) (ids p) (an_pre dir ids p) (an_once dir p 4 (p * 5 + 1)).1], (an_once dir p 4 (p * 5 + 1)).2, dr + 2) := by unfold ho_way; rw [hs]; exact cif_f hz
        rw [ho1_some (H := (se, me, dir, dr, wt)) h hw (fset_same _ _ _)]
        show ((fset me g (mm_gave (me g) (1 <<< (nI p &&& 31)))) g).2.2.2.2.2.1 = _
        rw [fset_same, si_gave]
    | cons S0 l =>
      have hw : ho_way id ids s p se dir dr = some (se, dir, dr) := by unfold ho_way; rw [hs]
      rw [ho1_some (H := (se, me, dir, dr, wt)) h hw hs]
      show ((fset me g (mm_gave (me g) (1 <<< (nI p &&& 31)))) g).2.2.2.2.2.1 = _
      rw [fset_same, si_gave]
theorem ho_si {id : Tm} {ids : Nat → Tm} {s g : Nat} {Y : Tm} : ∀ (n p : Nat) (H : HS), ((ho id ids s g Y n p H).2.1 g).2.2.2.2.2.1 = (H.2.1 g).2.2.2.2.2.1
  | 0, _, H => rfl
  | n + 1, p, H => by
    obtain ⟨se, me, dir, dr, wt⟩ := H
    show ((ho id ids s g Y n (p + 1) (ho1 id ids s g Y p (se, me, dir, dr, wt))).2.1 g).2.2.2.2.2.1 = _
    rw [ho_si n (p + 1) (ho1 id ids s g Y p (se, me, dir, dr, wt)), ho1_si]
theorem ho_wires {id : Tm} {ids : Nat → Tm} {s g : Nat} {Y : Tm} : ∀ (n p : Nat) (H : HS), (∀ X, X ∈ H.2.2.2.2 → X ≠ tz) → (∀ X, X ∈ (ho id ids s g Y n p H).2.2.2.2 → X ≠ tz) ∧ (ho id ids s g Y n p H).2.2.2.2.length ≤ H.2.2.2.2.length + n
  | 0, _, H, h => ⟨h, Nat.le_refl _⟩
  | n + 1, p, H, h => by
    obtain ⟨se, me, dir, dr, wt⟩ := H
    show (∀ X, X ∈ (ho id ids s g Y n (p + 1) (ho1 id ids s g Y p (se, me, dir, dr, wt))).2.2.2.2 → X ≠ tz) ∧ _
    rcases ho1_wires (id := id) (ids := ids) (s := s) (g := g) (p := p) (Y := Y) (se := se) (me := me) (dir := dir) (dr := dr) (wt := wt) with q | ⟨S, v, q⟩
    · have r := ho_wires (id := id) (ids := ids) (s := s) (g := g) (Y := Y) n (p + 1) (ho1 id ids s g Y p (se, me, dir, dr, wt)) (by rw [q]; exact h)
      rw [q] at r
      exact ⟨r.1, Nat.le_trans r.2 (by show wt.length + n ≤ wt.length + (n + 1); omega)⟩
    · have r := ho_wires (id := id) (ids := ids) (s := s) (g := g) (Y := Y) n (p + 1) (ho1 id ids s g Y p (se, me, dir, dr, wt)) (by
        rw [q]
        intro X hX
        rcases List.mem_append.mp hX with hX | hX
        · exact h X hX
        · rw [List.mem_singleton.mp hX]
          exact fun e => nomatch e)
      rw [q] at r
      refine ⟨r.1, Nat.le_trans r.2 ?_⟩
      rw [List.length_append]
      show wt.length + 1 + n ≤ wt.length + (n + 1)
      omega
set_option maxRecDepth 100000 in
theorem mo_post {sc : tm_X} {d : Nat} {f : Nat → Int32} {A : Nat → Nat → Int32} {T : List Tm} {DL : List (Int32 × Int32)} {G Kw : Tm → Prop} {dev : Nat → DV} {sto : Nat → ST} {ws : List (Tm × Int32)} {dir reg : Nat → Tm} {seen : List Tm} {ls : List RL} {lo dt db rt fl ll tl tf tg tm : Nat → Int32} {ck fo du : Int32} {id : Tm} {K0 K1 : PK} {on : List (Tm × Int32)} {lnu : Int32} {se : Nat → List SS} {me : Nat → MM} {p0 : Bool} {P O : EN2} {c : Option Nat} {ids : Nat → Tm} {s g : Nat} {Q : Int32 → MS → Prop} (hM : MT f A T DL G Kw) (hS : RS f A T DL dev sto ws dir reg seen ls lo (dt, db, rt, fl, ll, tl, tf, tg, tm, ck, fo, du)) (hdl : DL.length ≤ 2960) (hws : ws.length ≤ 692) (hls : ls.length < 700) (hTl : T.length + 140 ≤ 4000) (hr : rc (A 1) T.length + 14 < 1000) (hs : s < 6) (hg : g < 4) (eids : ids = fun q => (dev q).1) (kid : ∀ q, q < 6 → kd (ids q) = 1) (eD : dev s = (id, K0, K1, on, lnu, se, me)) (hz0 : K0.1 = tz ↔ K0.2.1 = 0) (hz1 : K1.1 = tz ↔ K1.2.1 = 0) (hok : ok2e se) (hsi : mm_fresh (me g) = true → kd (me g).2.2.2.2.2.1 = 1) (hst : sto s = (p0, P, O, c, false)) (hen : (me g).1 ≠ 0 → (dv_en (id, K0, K1, on, lnu, (po_hand id ids s g se me dir DL.length).1, fset (po_hand id ids s g se me dir DL.length).2.1 g (mm_posted ((po_hand id ids s g se me dir DL.length).2.1 g)))).length ≤ 536) (kN : (me g).1 = 0 → ∀ f1 A1, MT f1 A1 T DL G Kw → A1 1 = A 1 → f1 16 = f 16 → RS f1 A1 T DL dev sto ws dir reg seen ls lo (dt, db, rt, fl, ll, tl, tf, tg, tm, ck + 1, fo, du) → Q (-6) (f1, A1)) (k0 : (me g).1 ≠ 0 → (st_commit p0 P c (dv_en (id, K0, K1, on, lnu, (po_hand id ids s g se me dir DL.length).1, fset (po_hand id ids s g se me dir DL.length).2.1 g (mm_posted ((po_hand id ids s g se me dir DL.length).2.1 g))))).1 = 0 → ∀ f1 A1 T' (E : List (Int32 × Int32)), T <+: T' → T'.length ≤ T.length + 56 + 10 * bgn se (po_hand id ids s g se me dir DL.length).1 6 0 → rc (A1 1) T'.length ≤ rc (A 1) T.length + 14 → DL.length + E.length = (po_hand id ids s g se me dir DL.length).2.2.2.1 → (∀ e, e ∈ E → e.1 = nI s ∧ (e.2 = 0 ∨ e.2 = 2)) → MT f1 A1 T' (DL ++ E ++ [(nI s, 0)]) G Kw → f1 16 = f 16 → RS f1 A1 T' (DL ++ E ++ [(nI s, 0)]) dev (fset sto s (st_commit p0 P c (dv_en (id, K0, K1, on, lnu, (po_hand id ids s g se me dir DL.length).1, fset (po_hand id ids s g se me dir DL.length).2.1 g (mm_posted ((po_hand id ids s g se me dir DL.length).2.1 g))))).2) (ws) (po_hand id ids s g se me dir DL.length).2.2.1 reg seen (ls) ((wl (wl lo DL.length ((E.map fun e => (e.1, decide (e.2 ≠ 0))).map fun (e : Int32 × Bool) => -1)) (DL ++ E).length (([(nI (6 + s), false)] : List (Int32 × Bool)).map fun _ => -1))) (wl (wl dt DL.length ((E.map fun e => (e.1, decide (e.2 ≠ 0))).map fun (e : Int32 × Bool) => ck + 1)) (DL ++ E).length (([(nI (6 + s), false)] : List (Int32 × Bool)).map fun _ => ck + 1), wl (wl db DL.length ((E.map fun e => (e.1, decide (e.2 ≠ 0))).map fun (e : Int32 × Bool) => e.1)) (DL ++ E).length (([(nI (6 + s), false)] : List (Int32 × Bool)).map fun (e : Int32 × Bool) => e.1), wl (wl rt DL.length ((E.map fun e => (e.1, decide (e.2 ≠ 0))).map fun (e : Int32 × Bool) => bz e.2)) (DL ++ E).length (([(nI (6 + s), false)] : List (Int32 × Bool)).map fun (e : Int32 × Bool) => bz e.2), fl, ll, tl, tf, tg, tm, ck + 1, fo, du) → Q (-4) (f1, A1)) (k1 : (me g).1 ≠ 0 → (st_commit p0 P c (dv_en (id, K0, K1, on, lnu, (po_hand id ids s g se me dir DL.length).1, fset (po_hand id ids s g se me dir DL.length).2.1 g (mm_posted ((po_hand id ids s g se me dir DL.length).2.1 g))))).1 = 1 → ∀ f1 A1 T' (E : List (Int32 × Int32)), T <+: T' → T'.length ≤ T.length + 56 + 10 * bgn se (po_hand id ids s g se me dir DL.length).1 6 0 → rc (A1 1) T'.length ≤ rc (A 1) T.length + 14 → DL.length + E.length = (po_hand id ids s g se me dir DL.length).2.2.2.1 → (∀ e, e ∈ E → e.1 = nI s ∧ (e.2 = 0 ∨ e.2 = 2)) → MT f1 A1 T' (DL ++ E ++ [(nI s, 0)]) G Kw → f1 16 = f 16 → RS f1 A1 T' (DL ++ E ++ [(nI s, 0)]) (fset dev s (id, K0, K1, on, lnu, (po_hand id ids s g se me dir DL.length).1, fset (po_hand id ids s g se me dir DL.length).2.1 g (mm_posted ((po_hand id ids s g se me dir DL.length).2.1 g)))) (fset sto s (st_commit p0 P c (dv_en (id, K0, K1, on, lnu, (po_hand id ids s g se me dir DL.length).1, fset (po_hand id ids s g se me dir DL.length).2.1 g (mm_posted ((po_hand id ids s g se me dir DL.length).2.1 g))))).2) (ws) (po_hand id ids s g se me dir DL.length).2.2.1 reg seen (ls) ((wl (wl lo DL.length ((E.map fun e => (e.1, decide (e.2 ≠ 0))).map fun (e : Int32 × Bool) => -1)) (DL ++ E).length (([(nI (6 + s), false)] : List (Int32 × Bool)).map fun _ => -1))) (wl (wl dt DL.length ((E.map fun e => (e.1, decide (e.2 ≠ 0))).map fun (e : Int32 × Bool) => ck + 1)) (DL ++ E).length (([(nI (6 + s), false)] : List (Int32 × Bool)).map fun _ => ck + 1), wl (wl db DL.length ((E.map fun e => (e.1, decide (e.2 ≠ 0))).map fun (e : Int32 × Bool) => e.1)) (DL ++ E).length (([(nI (6 + s), false)] : List (Int32 × Bool)).map fun (e : Int32 × Bool) => e.1), wl (wl rt DL.length ((E.map fun e => (e.1, decide (e.2 ≠ 0))).map fun (e : Int32 × Bool) => bz e.2)) (DL ++ E).length (([(nI (6 + s), false)] : List (Int32 × Bool)).map fun (e : Int32 × Bool) => bz e.2), fl, ll, tl, tf, tg, tm, ck + 1, fo, du) → Q (-4) (f1, A1)) (k2 : (me g).1 ≠ 0 → (st_commit p0 P c (dv_en (id, K0, K1, on, lnu, (po_hand id ids s g se me dir DL.length).1, fset (po_hand id ids s g se me dir DL.length).2.1 g (mm_posted ((po_hand id ids s g se me dir DL.length).2.1 g))))).1 = 2 → ∀ f1 A1 T' (E : List (Int32 × Int32)), T <+: T' → T'.length ≤ T.length + 56 + 10 * bgn se (po_hand id ids s g se me dir DL.length).1 6 0 → rc (A1 1) T'.length ≤ rc (A 1) T.length + 14 → DL.length + E.length = (po_hand id ids s g se me dir DL.length).2.2.2.1 → (∀ e, e ∈ E → e.1 = nI s ∧ (e.2 = 0 ∨ e.2 = 2)) → MT f1 A1 T' (DL ++ E ++ [(nI s, 0)]) (fun y => G y ∨ y ∈ (po_hand id ids s g se me dir DL.length).2.2.2.2 ++ [(mm_post ((po_hand id ids s g se me dir DL.length).2.1 g) (nI g) (nI s) (Trw 4 0 0 0 0 (Tsec (nI (po_hand id ids s g se me dir DL.length).2.2.2.1) (nI s) 0) tz tz tz))]) Kw → (f1 16 = 1 ∨ (f1 16 = f 16 ∧ ∀ y, y ∈ (po_hand id ids s g se me dir DL.length).2.2.2.2 ++ [(mm_post ((po_hand id ids s g se me dir DL.length).2.1 g) (nI g) (nI s) (Trw 4 0 0 0 0 (Tsec (nI (po_hand id ids s g se me dir DL.length).2.2.2.1) (nI s) 0) tz tz tz))] → G y)) → RS f1 A1 T' (DL ++ E ++ [(nI s, 0)]) (fset dev s (id, K0, K1, on, lnu, (po_hand id ids s g se me dir DL.length).1, fset (po_hand id ids s g se me dir DL.length).2.1 g (mm_posted ((po_hand id ids s g se me dir DL.length).2.1 g)))) (fset sto s (st_commit p0 P c (dv_en (id, K0, K1, on, lnu, (po_hand id ids s g se me dir DL.length).1, fset (po_hand id ids s g se me dir DL.length).2.1 g (mm_posted ((po_hand id ids s g se me dir DL.length).2.1 g))))).2) (ws ++ (po_hand id ids s g se me dir DL.length).2.2.2.2.map (fun X => (X, -1)) ++ [((mm_post ((po_hand id ids s g se me dir DL.length).2.1 g) (nI g) (nI s) (Trw 4 0 0 0 0 (Tsec (nI (po_hand id ids s g se me dir DL.length).2.2.2.1) (nI s) 0) tz tz tz)), nI ls.length)]) (po_hand id ids s g se me dir DL.length).2.2.1 reg seen (ls ++ [((Tsec (nI (po_hand id ids s g se me dir DL.length).2.2.2.1) (nI s) 0), nI s, nI (16 + g), false, tz, tz, ((po_hand id ids s g se me dir DL.length).2.1 g).2.1, 0, fun _ => 2147483647)]) (upd (wl (wl lo DL.length ((E.map fun e => (e.1, decide (e.2 ≠ 0))).map fun (e : Int32 × Bool) => -1)) (DL ++ E).length (([(nI (6 + s), false)] : List (Int32 × Bool)).map fun _ => -1)) (DL ++ E).length (nI ls.length)) (wl (wl dt DL.length ((E.map fun e => (e.1, decide (e.2 ≠ 0))).map fun (e : Int32 × Bool) => ck + 1)) (DL ++ E).length (([(nI (6 + s), false)] : List (Int32 × Bool)).map fun _ => ck + 1), wl (wl db DL.length ((E.map fun e => (e.1, decide (e.2 ≠ 0))).map fun (e : Int32 × Bool) => e.1)) (DL ++ E).length (([(nI (6 + s), false)] : List (Int32 × Bool)).map fun (e : Int32 × Bool) => e.1), wl (wl rt DL.length ((E.map fun e => (e.1, decide (e.2 ≠ 0))).map fun (e : Int32 × Bool) => bz e.2)) (DL ++ E).length (([(nI (6 + s), false)] : List (Int32 × Bool)).map fun (e : Int32 × Bool) => bz e.2), fl, ll, tl, tf, tg, tm, ck + 1, fo, du) → Q (nI (ws.length + (po_hand id ids s g se me dir DL.length).2.2.2.2.length)) (f1, A1)) : mGi sc (d + 7) 228 [.ref 1482, .int (nI s), .int (nI g)] (f, A) Q := by
  have hq0 := hS.1.2.2 s hs
  rw [hst] at hq0
  have h40 := hS.2.1.1.1.1
  have h11 : f 11 = nI DL.length := hS.2.2.2.1.1
  have h21 : f 21 = ck := hS.2.2.2.1.2.1
  have hdv := hS.1.2.1 s hs
  rw [eD] at hdv
  have hids : ∀ q, q < 6 → tv T (A 16 q) (ids q) := fun q hq => by rw [eids]; exact hS.1.1 q hq
  have eI : id = ids s := by rw [eids]; show id = (dev s).1; rw [eD]
  have hTl2 := MT_len hM
  rcases hmg : me g with ⟨ve, ma, go, ge, ch, si, ix, ga, sl, gv⟩
  have hve : (me g).1 = ve := by rw [hmg]
  show mg sc (d + 7) 228 0 [(0, .ref 1482), (1, .int (nI s)), (2, .int (nI g))] [] (f, A) _
  generalize elv : ([(0, .ref 1482), (1, .int (nI s)), (2, .int (nI g))] : tm_L) = lv
  have l0 : lv.lookup 0 = some (.ref 1482) := by rw [← elv]; rfl
  have l1 : lv.lookup 1 = some (.int (nI s)) := by rw [← elv]; rfl
  have l2 : lv.lookup 2 = some (.int (nI g)) := by rw [← elv]; rfl
  clear elv
  refine m_ald (pc' := 1) cd_Mo_post rfl (Or.inr ⟨_, rfl, rfl, rfl⟩) l0 rfl rfl ?_
  refine m_ild (pc' := 2) cd_Mo_post rfl (Or.inr ⟨_, rfl, rfl, rfl⟩) l1 rfl ?_
  refine m_si (pc' := 5) cd_Mo_post rfl rfl rfl rfl rfl cd_Mo_isDevice rfl (Nat.le_of_ble_eq_true rfl) (m_isDev1 hs ?_)
  show mg _ _ _ 5 _ [.int 1, .ref 1482] _ _
  refine m_if1 (t := 21) (pc' := 8) cd_Mo_post rfl rfl rfl (fun c5 => ?_) (fun c5 => ?_)
  · exact absurd (show (1 : Int32) = 0 from c5) (by decide)
  · have c5 : ¬ (1 : Int32) = 0 := c5
    refine m_ild (pc' := 9) cd_Mo_post rfl (Or.inr ⟨_, rfl, rfl, rfl⟩) l2 rfl ?_
    refine m_if1 (t := 21) (pc' := 12) cd_Mo_post rfl rfl rfl (fun c9 => ?_) (fun c9 => ?_)
    · have c9 : (nI g) < 0 := c9
      exact absurd c9 (nI_nlt0 (by omega))
    · have c9 : ¬ (nI g) < 0 := c9
      refine m_ild (pc' := 13) cd_Mo_post rfl (Or.inr ⟨_, rfl, rfl, rfl⟩) l2 rfl ?_
      refine m_k1 (v := 4) (pc' := 14) cd_Mo_post rfl (by decide) rfl ?_
      refine m_if2 (t := 21) (pc' := 17) cd_Mo_post rfl rfl rfl (fun c14 => ?_) (fun c14 => ?_)
      · have c14 : (4 : Int32) ≤ (nI g) := c14
        exact absurd c14 (nI_ge (b := 4) hg (by decide))
      · have c14 : ¬ (4 : Int32) ≤ (nI g) := c14
        refine m_k1 (v := 1) (pc' := 18) cd_Mo_post rfl (by decide) rfl ?_
        refine m_pure (pc' := 22) (st' := [.int 1, .ref 1482]) cd_Mo_post rfl rfl (fun _ _ => rfl) ?_
        refine m_k1 (v := 1) (pc' := 23) cd_Mo_post rfl (by decide) rfl ?_
        refine m_ild (pc' := 24) cd_Mo_post rfl (Or.inr ⟨_, rfl, rfl, rfl⟩) l1 rfl ?_
        refine m_si (pc' := 27) cd_Mo_post rfl rfl rfl rfl rfl cd_Mo_isDevice rfl (Nat.le_of_ble_eq_true rfl) (m_isDev1 hs ?_)
        show mg _ _ _ 27 _ [.int 1, .int 1, .int 1, .ref 1482] _ _
        refine m_if1 (t := 34) (pc' := 30) cd_Mo_post rfl rfl rfl (fun c27 => ?_) (fun c27 => ?_)
        · exact absurd (show (1 : Int32) = 0 from c27) (by decide)
        · have c27 : ¬ (1 : Int32) = 0 := c27
          refine m_ild (pc' := 31) cd_Mo_post rfl (Or.inr ⟨_, rfl, rfl, rfl⟩) l1 rfl ?_
          refine m_pure (pc' := 35) (st' := [.int (nI s), .int 1, .int 1, .ref 1482]) cd_Mo_post rfl rfl (fun _ _ => rfl) ?_
          refine m_ci (pc' := 38) cd_Mo_post rfl rfl rfl rfl rfl cd_Mo_refused rfl (Nat.le_of_ble_eq_true rfl) (m_refused (b := true) (mk := true) (dn := false) (p := s) h11 hdl h40 hws hs hq0.1.2.2.1 (fun q => nomatch q) (fun _ q => nomatch q) (fun _ _ => ?_))
          show mg _ _ _ 38 _ [.int 0] _ _
          refine m_ist (pc' := 39) cd_Mo_post rfl (Or.inr ⟨_, rfl, rfl, rfl⟩) (by decide) rfl (fun lv el => ?_)
          have l0 := tm_lk el l0 rfl (by decide)
          have l1 := tm_lk el l1 rfl (by decide)
          have l2 := tm_lk el l2 rfl (by decide)
          have l3 : lv.lookup 3 = some (.int 0) := tm_lks el
          clear el
          refine m_ild (pc' := 40) cd_Mo_post rfl (Or.inr ⟨_, rfl, rfl, rfl⟩) l3 rfl ?_
          refine m_if1 (t := 45) (pc' := 43) cd_Mo_post rfl rfl rfl (fun c40 => ?_) (fun c40 => ?_)
          · have c40 : (0 : Int32) = 0 := c40
            refine m_ald (pc' := 46) cd_Mo_post rfl (Or.inr ⟨_, rfl, rfl, rfl⟩) l0 rfl rfl ?_
            refine m_ild (pc' := 47) cd_Mo_post rfl (Or.inr ⟨_, rfl, rfl, rfl⟩) l1 rfl ?_
            refine m_cv (pc' := 50) cd_Mo_post rfl rfl rfl rfl rfl cd_Mo_load rfl (Nat.le_of_ble_eq_true rfl) (m_load hs (fun gw hgw => ?_))
            have hDw : qDv gw T (id, K0, K1, on, lnu, se, me) := qDv_c (List.prefix_refl T) hgw hdv
            have hG0 := hDw.2.2.2 g hg
            have hG := hG0
            rw [hmg] at hG
            obtain ⟨⟨g1, g2, g3, g4⟩, ⟨g5, g6⟩, ⟨g7, g8, g9⟩, g10⟩ := hG
            show mg _ _ _ 50 _ [] _ _
            refine m_ild (pc' := 51) cd_Mo_post rfl (Or.inr ⟨_, rfl, rfl, rfl⟩) l2 rfl ?_
            refine m_si (pc' := 54) cd_Mo_post rfl rfl rfl rfl rfl cd_Mo_groupAt rfl (Nat.le_of_ble_eq_true rfl) (m_groupAt ?_)
            show mg _ _ _ 54 _ [.int (nI (486 + g * 279))] _ _
            refine m_ist (pc' := 56) cd_Mo_post rfl (Or.inl ⟨rfl, rfl⟩) (by decide) rfl (fun lv el => ?_)
            have l0 := tm_lk el l0 rfl (by decide)
            have l1 := tm_lk el l1 rfl (by decide)
            have l2 := tm_lk el l2 rfl (by decide)
            have l3 := tm_lk el l3 rfl (by decide)
            have l4 : lv.lookup 4 = some (.int (nI (486 + g * 279))) := tm_lks el
            clear el
            refine m_ald (pc' := 57) cd_Mo_post rfl (Or.inr ⟨_, rfl, rfl, rfl⟩) l0 rfl rfl ?_
            refine m_fR (r := 14) (a := 15) (ad := 1497) (pc' := 60) rfl rfl cd_Mo_post rfl rfl rfl rfl rfl ?_
            refine m_ild (pc' := 62) cd_Mo_post rfl (Or.inl ⟨rfl, rfl⟩) l4 rfl ?_
            refine m_k1 (v := 0) (pc' := 63) cd_Mo_post rfl (by decide) rfl ?_
            refine m_pure (pc' := 64) (st' := [.int ((nI (486 + g * 279)) + 0), .ref 1497]) cd_Mo_post rfl rfl (fun _ _ => rfl) ?_
            refine m_eq (show ((nI (486 + g * 279)) + 0 : Int32) = nI ((486 + g * 279) + 0) from nI_add (486 + g * 279) 0) ?_
            refine m_aI (r := 14) (a := 15) (g := gw) (x := ve) (pc' := 65) rfl rfl cd_Mo_post rfl rfl rfl (vp_in_nI (by omega) (by decide)) ((congrArg gw (nI_clamp (by omega))).trans g1) ?_
            refine m_if1 (t := 71) (pc' := 68) cd_Mo_post rfl rfl rfl (fun c65 => ?_) (fun c65 => ?_)
            · have c65 : ¬ ve = 0 := c65
              refine m_ald (pc' := 72) cd_Mo_post rfl (Or.inr ⟨_, rfl, rfl, rfl⟩) l0 rfl rfl ?_
              refine m_fR (r := 14) (a := 15) (ad := 1497) (pc' := 75) rfl rfl cd_Mo_post rfl rfl rfl rfl rfl ?_
              refine m_ild (pc' := 77) cd_Mo_post rfl (Or.inl ⟨rfl, rfl⟩) l4 rfl ?_
              refine m_k1 (v := 3) (pc' := 78) cd_Mo_post rfl (by decide) rfl ?_
              refine m_pure (pc' := 79) (st' := [.int ((nI (486 + g * 279)) + 3), .ref 1497]) cd_Mo_post rfl rfl (fun _ _ => rfl) ?_
              refine m_eq (show ((nI (486 + g * 279)) + 3 : Int32) = nI ((486 + g * 279) + 3) from nI_add (486 + g * 279) 3) ?_
              refine m_aI (r := 14) (a := 15) (g := gw) (x := ge) (pc' := 80) rfl rfl cd_Mo_post rfl rfl rfl (vp_in_nI (by omega) (by decide)) ((congrArg gw (nI_clamp (by omega))).trans g4) ?_
              refine m_if1 (t := 97) (pc' := 83) cd_Mo_post rfl rfl rfl (fun c80 => ?_) (fun c80 => ?_)
              · have c80 : ge = 0 := c80
                refine m_ald (pc' := 98) cd_Mo_post rfl (Or.inr ⟨_, rfl, rfl, rfl⟩) l0 rfl rfl ?_
                refine m_fR (r := 14) (a := 15) (ad := 1497) (pc' := 101) rfl rfl cd_Mo_post rfl rfl rfl rfl rfl ?_
                refine m_ild (pc' := 103) cd_Mo_post rfl (Or.inl ⟨rfl, rfl⟩) l4 rfl ?_
                refine m_k1 (v := 3) (pc' := 104) cd_Mo_post rfl (by decide) rfl ?_
                refine m_pure (pc' := 105) (st' := [.int ((nI (486 + g * 279)) + 3), .ref 1497]) cd_Mo_post rfl rfl (fun _ _ => rfl) ?_
                refine m_eq (show ((nI (486 + g * 279)) + 3 : Int32) = nI ((486 + g * 279) + 3) from nI_add (486 + g * 279) 3) ?_
                refine m_pure (pc' := 106) (st' := [.int (nI ((486 + g * 279) + 3)), .ref 1497, .int (nI ((486 + g * 279) + 3)), .ref 1497]) cd_Mo_post rfl rfl (fun _ _ => rfl) ?_
                refine m_aI (r := 14) (a := 15) (g := gw) (x := ge) (pc' := 107) rfl rfl cd_Mo_post rfl rfl rfl (vp_in_nI (by omega) (by decide)) ((congrArg gw (nI_clamp (by omega))).trans g4) ?_
                refine m_k1 (v := 1) (pc' := 108) cd_Mo_post rfl (by decide) rfl ?_
                refine m_pure (pc' := 109) (st' := [.int (ge + 1), .int (nI ((486 + g * 279) + 3)), .ref 1497]) cd_Mo_post rfl rfl (fun _ _ => rfl) ?_
                refine m_aS (r := 14) (a := 15) (g := gw) (p := ((486 + g * 279) + 3)) (pc' := 110) rfl rfl cd_Mo_post rfl rfl rfl (vp_in_nI (by omega) (by decide)) (nI_clamp (by omega)) ?_
                refine m_ald (pc' := 111) cd_Mo_post rfl (Or.inr ⟨_, rfl, rfl, rfl⟩) l0 rfl rfl ?_
                refine m_fR (r := 14) (a := 15) (ad := 1497) (pc' := 114) rfl rfl cd_Mo_post rfl rfl rfl rfl rfl ?_
                refine m_ild (pc' := 116) cd_Mo_post rfl (Or.inl ⟨rfl, rfl⟩) l4 rfl ?_
                refine m_k1 (v := 4) (pc' := 117) cd_Mo_post rfl (by decide) rfl ?_
                refine m_pure (pc' := 118) (st' := [.int ((nI (486 + g * 279)) + 4), .ref 1497]) cd_Mo_post rfl rfl (fun _ _ => rfl) ?_
                refine m_eq (show ((nI (486 + g * 279)) + 4 : Int32) = nI ((486 + g * 279) + 4) from nI_add (486 + g * 279) 4) ?_
                refine m_ald (pc' := 119) cd_Mo_post rfl (Or.inr ⟨_, rfl, rfl, rfl⟩) l0 rfl rfl ?_
                refine m_ild (pc' := 120) cd_Mo_post rfl (Or.inr ⟨_, rfl, rfl, rfl⟩) l1 rfl ?_
                refine m_k1 (v := 0) (pc' := 121) cd_Mo_post rfl (by decide) rfl ?_
                refine m_ci (pc' := 124) cd_Mo_post rfl rfl rfl rfl rfl cd_Mo_drawn rfl (Nat.le_of_ble_eq_true rfl) (m_drawn (rt := false) (xd := (nI s)) (xp := 0) (by exact MT_i hM rfl rfl rfl rfl rfl rfl rfl rfl rfl rfl) (by omega) (by show rc (A 1) T.length < 1000; omega) h11 (by omega) (fun f1 A1 T1 r1 hx1 hr1 => ?_))
                obtain ⟨p1, q1, s1, hM1⟩ := hx1
                have hM1 : MT f1 A1 T1 _ _ _ := MT_i hM1 rfl rfl rfl rfl rfl rfl rfl rfl rfl rfl
                have s1 : rc (A1 1) T1.length ≤ rc (A 1) T.length + 0 := s1
                show mg _ _ _ 124 _ [.int r1, .int (nI ((486 + g * 279) + 4)), .ref 1497] _ _
                refine m_aS (r := 14) (a := 15) (g := (upd gw ((486 + g * 279) + 3) (ge + 1))) (p := ((486 + g * 279) + 4)) (pc' := 125) rfl rfl cd_Mo_post rfl rfl rfl (vp_in_nI (by omega) (by decide)) (nI_clamp (by omega)) ?_
                refine m_ald (pc' := 126) cd_Mo_post rfl (Or.inr ⟨_, rfl, rfl, rfl⟩) l0 rfl rfl ?_
                refine m_fR (r := 14) (a := 15) (ad := 1497) (pc' := 129) rfl rfl cd_Mo_post rfl rfl rfl rfl rfl ?_
                refine m_ild (pc' := 131) cd_Mo_post rfl (Or.inl ⟨rfl, rfl⟩) l4 rfl ?_
                refine m_k1 (v := 5) (pc' := 132) cd_Mo_post rfl (by decide) rfl ?_
                refine m_pure (pc' := 133) (st' := [.int ((nI (486 + g * 279)) + 5), .ref 1497]) cd_Mo_post rfl rfl (fun _ _ => rfl) ?_
                refine m_eq (show ((nI (486 + g * 279)) + 5 : Int32) = nI ((486 + g * 279) + 5) from nI_add (486 + g * 279) 5) ?_
                refine m_ald (pc' := 134) cd_Mo_post rfl (Or.inr ⟨_, rfl, rfl, rfl⟩) l0 rfl rfl ?_
                refine m_ild (pc' := 135) cd_Mo_post rfl (Or.inr ⟨_, rfl, rfl, rfl⟩) l1 rfl ?_
                refine m_k1 (v := 0) (pc' := 136) cd_Mo_post rfl (by decide) rfl ?_
                refine m_ci (pc' := 139) cd_Mo_post rfl rfl rfl rfl rfl cd_Mo_drawn rfl (Nat.le_of_ble_eq_true rfl) (m_drawn (rt := false) (xd := (nI s)) (xp := 0) (by exact MT_i hM1 rfl rfl rfl rfl rfl rfl rfl rfl rfl rfl) (by omega) (by show rc (A1 1) T1.length < 1000; omega) (by show nI (List.length DL + 1) = nI (List.length (DL ++ [((nI s), 0)])); exact congrArg nI (by simp)) (by rw [show List.length (DL ++ [((nI s), 0)]) = (DL.length + 1) by simp]; omega) (fun f2 A2 T2 r2 hx2 hr2 => ?_))
                obtain ⟨p2, q2, s2, hM2⟩ := hx2
                have hM2 : MT f2 A2 T2 _ _ _ := MT_i hM2 rfl rfl rfl rfl rfl rfl rfl rfl rfl rfl
                have s2 : rc (A2 1) T2.length ≤ rc (A1 1) T1.length + 0 := s2
                rw [show List.length (DL ++ [((nI s), 0)]) = (DL.length + 1) by simp] at hr2
                show mg _ _ _ 139 _ [.int r2, .int (nI ((486 + g * 279) + 5)), .ref 1497] _ _
                refine m_aS (r := 14) (a := 15) (g := (upd (upd gw ((486 + g * 279) + 3) (ge + 1)) ((486 + g * 279) + 4) r1)) (p := ((486 + g * 279) + 5)) (pc' := 140) rfl rfl cd_Mo_post rfl rfl rfl (vp_in_nI (by omega) (by decide)) (nI_clamp (by omega)) ?_
                refine m_ald (pc' := 141) cd_Mo_post rfl (Or.inr ⟨_, rfl, rfl, rfl⟩) l0 rfl rfl ?_
                refine m_fR (r := 14) (a := 15) (ad := 1497) (pc' := 144) rfl rfl cd_Mo_post rfl rfl rfl rfl rfl ?_
                refine m_ild (pc' := 146) cd_Mo_post rfl (Or.inl ⟨rfl, rfl⟩) l4 rfl ?_
                refine m_k2 (v := 6) (pc' := 148) cd_Mo_post rfl (by decide) rfl ?_
                refine m_pure (pc' := 149) (st' := [.int ((nI (486 + g * 279)) + 6), .ref 1497]) cd_Mo_post rfl rfl (fun _ _ => rfl) ?_
                refine m_eq (show ((nI (486 + g * 279)) + 6 : Int32) = nI ((486 + g * 279) + 6) from nI_add (486 + g * 279) 6) ?_
                refine m_k1 (v := 0) (pc' := 150) cd_Mo_post rfl (by decide) rfl ?_
                refine m_aS (r := 14) (a := 15) (g := (upd (upd (upd gw ((486 + g * 279) + 3) (ge + 1)) ((486 + g * 279) + 4) r1) ((486 + g * 279) + 5) r2)) (p := ((486 + g * 279) + 6)) (pc' := 151) rfl rfl cd_Mo_post rfl rfl rfl (vp_in_nI (by omega) (by decide)) (nI_clamp (by omega)) ?_
                rw [fset_fset]
                refine m_ald (pc' := 152) cd_Mo_post rfl (Or.inr ⟨_, rfl, rfl, rfl⟩) l0 rfl rfl ?_
                refine m_fR (r := 14) (a := 15) (ad := 1497) (pc' := 155) rfl rfl cd_Mo_post rfl rfl rfl rfl rfl ?_
                refine m_ild (pc' := 157) cd_Mo_post rfl (Or.inl ⟨rfl, rfl⟩) l4 rfl ?_
                refine m_k2 (v := 7) (pc' := 159) cd_Mo_post rfl (by decide) rfl ?_
                refine m_pure (pc' := 160) (st' := [.int ((nI (486 + g * 279)) + 7), .ref 1497]) cd_Mo_post rfl rfl (fun _ _ => rfl) ?_
                refine m_eq (show ((nI (486 + g * 279)) + 7 : Int32) = nI ((486 + g * 279) + 7) from nI_add (486 + g * 279) 7) ?_
                refine m_k1 (v := 0) (pc' := 161) cd_Mo_post rfl (by decide) rfl ?_
                refine m_aS (r := 14) (a := 15) (g := (upd (upd (upd (upd gw ((486 + g * 279) + 3) (ge + 1)) ((486 + g * 279) + 4) r1) ((486 + g * 279) + 5) r2) ((486 + g * 279) + 6) 0)) (p := ((486 + g * 279) + 7)) (pc' := 162) rfl rfl cd_Mo_post rfl rfl rfl (vp_in_nI (by omega) (by decide)) (nI_clamp (by omega)) ?_
                rw [fset_fset]
                refine m_ald (pc' := 163) cd_Mo_post rfl (Or.inr ⟨_, rfl, rfl, rfl⟩) l0 rfl rfl ?_
                refine m_fR (r := 14) (a := 15) (ad := 1497) (pc' := 166) rfl rfl cd_Mo_post rfl rfl rfl rfl rfl ?_
                refine m_ild (pc' := 168) cd_Mo_post rfl (Or.inl ⟨rfl, rfl⟩) l4 rfl ?_
                refine m_k2 (v := 8) (pc' := 170) cd_Mo_post rfl (by decide) rfl ?_
                refine m_pure (pc' := 171) (st' := [.int ((nI (486 + g * 279)) + 8), .ref 1497]) cd_Mo_post rfl rfl (fun _ _ => rfl) ?_
                refine m_eq (show ((nI (486 + g * 279)) + 8 : Int32) = nI ((486 + g * 279) + 8) from nI_add (486 + g * 279) 8) ?_
                refine m_k1 (v := 0) (pc' := 172) cd_Mo_post rfl (by decide) rfl ?_
                refine m_aS (r := 14) (a := 15) (g := (upd (upd (upd (upd (upd gw ((486 + g * 279) + 3) (ge + 1)) ((486 + g * 279) + 4) r1) ((486 + g * 279) + 5) r2) ((486 + g * 279) + 6) 0) ((486 + g * 279) + 7) 0)) (p := ((486 + g * 279) + 8)) (pc' := 173) rfl rfl cd_Mo_post rfl rfl rfl (vp_in_nI (by omega) (by decide)) (nI_clamp (by omega)) ?_
                rw [fset_fset]
                refine m_k1 (v := 0) (pc' := 174) cd_Mo_post rfl (by decide) rfl ?_
                refine m_ist (pc' := 176) cd_Mo_post rfl (Or.inl ⟨rfl, rfl⟩) (by decide) rfl (fun lv el => ?_)
                have l0 := tm_lk el l0 rfl (by decide)
                have l1 := tm_lk el l1 rfl (by decide)
                have l2 := tm_lk el l2 rfl (by decide)
                have l3 := tm_lk el l3 rfl (by decide)
                have l4 := tm_lk el l4 rfl (by decide)
                have l5 : lv.lookup 5 = some (.int 0) := tm_lks el
                clear el
                have hven : (me g).1 ≠ 0 := fun q => c65 (hve.symm.trans q)
                have hfr : mm_fresh (me g) = false := by
                  rw [hmg]
                  unfold mm_fresh
                  dsimp only
                  rw [decide_eq_true c80]; rfl
                have ere : mm_ren (me g) DL.length (nI s) = mm_renew (me g) DL.length (nI s) := if_neg (by rw [hfr]; decide)
                have edr : dr_ren (me g) DL.length = DL.length + 2 := if_neg (by rw [hfr]; decide)
                have hdlen : (DL ++ [(nI s, (0 : Int32))] ++ [(nI s, (0 : Int32))]).length = DL.length + 2 := by simp
                have ePH : (po_hand id ids s g se me dir DL.length) = ho id ids s g (mm_gift (mm_renew (me g) DL.length (nI s)) (nI g)) 6 0 (se, fset me g (mm_renew (me g) DL.length (nI s)), dir, (DL ++ [(nI s, (0 : Int32))] ++ [(nI s, (0 : Int32))]).length, []) := by unfold po_hand; rw [ere, edr, hdlen]
                have p12 := p1.trans p2
                have hGr : qMm (upd (upd (upd (upd (upd (upd gw ((486 + g * 279) + 3) (ge + 1)) ((486 + g * 279) + 4) r1) ((486 + g * 279) + 5) r2) ((486 + g * 279) + 6) 0) ((486 + g * 279) + 7) 0) ((486 + g * 279) + 8) 0) T2 (486 + g * 279) (mm_renew (me g) DL.length (nI s)) := by
                  refine qMm_renew p12 hG0 (fun k k1 k2 k3 k4 k5 k6 => by rw [upd_ne k6, upd_ne k5, upd_ne k4, upd_ne k3, upd_ne k2, upd_ne k1]) ?_ ?_ ?_ ?_ ?_ ?_
                  · rw [upd_ne (by omega), upd_ne (by omega), upd_ne (by omega), upd_ne (by omega), upd_ne (by omega), upd_same, hmg]
                  · rw [upd_ne (by omega), upd_ne (by omega), upd_ne (by omega), upd_ne (by omega), upd_same]; exact tv_mono p2 hr1
                  · rw [upd_ne (by omega), upd_ne (by omega), upd_ne (by omega), upd_same]; exact hr2
                  · rw [upd_ne (by omega), upd_ne (by omega), upd_same]
                  · rw [upd_ne (by omega), upd_same]
                  · rw [upd_same]
                have hD2 := qDv_grp hg hDw p12 hGr (fun j hj => by rw [upd_ne (by omega), upd_ne (by omega), upd_ne (by omega), upd_ne (by omega), upd_ne (by omega), upd_ne (by omega)])
                have hgf : (fset me g (mm_renew (me g) DL.length (nI s))) g = mm_renew (me g) DL.length (nI s) := fset_same _ _ _
                have ksi : kd ((fset me g (mm_renew (me g) DL.length (nI s))) g).2.2.2.2.2.1 = 1 := by rw [hgf, hmg]; rfl
                obtain ⟨hwz, hwl⟩ := ho_wires (id := id) (ids := ids) (s := s) (g := g) (Y := mm_gift (mm_renew (me g) DL.length (nI s)) (nI g)) 6 0 (se, (fset me g (mm_renew (me g) DL.length (nI s))), dir, (DL ++ [(nI s, (0 : Int32))] ++ [(nI s, (0 : Int32))]).length, []) (fun X q => absurd q List.not_mem_nil)
                have hwl : _ ≤ 6 := hwl
                have hdb := ho_dr (id := id) (ids := ids) (s := s) (g := g) (Y := mm_gift (mm_renew (me g) DL.length (nI s)) (nI g)) 6 0 (se, (fset me g (mm_renew (me g) DL.length (nI s))), dir, (DL ++ [(nI s, (0 : Int32))] ++ [(nI s, (0 : Int32))]).length, [])
                have hdb : _ ≤ (DL ++ [(nI s, (0 : Int32))] ++ [(nI s, (0 : Int32))]).length + 18 := hdb
                rw [← ePH] at hwz hwl hdb
                rw [hdlen] at hdb
                refine l_mpostL (d := d + 1) (Y := mm_gift (mm_renew (me g) DL.length (nI s)) (nI g)) hs hg eI kid 6 0 _ _ T2 (DL ++ [(nI s, 0)] ++ [(nI s, 0)]) se (fset me g (mm_renew (me g) DL.length (nI s))) dir [] 2 (by omega) rfl (Or.inr (by omega)) (by exact ⟨⟨MT_i hM2 rfl rfl rfl rfl rfl rfl rfl rfl rfl rfl, (show nI (List.length (DL ++ [(nI s, (0 : Int32))]) + 1) = _ by rw [hdlen]; congr 1; simp)⟩, hD2, fun i hi => tv_mono p12 (hS.2.1.2.1 i hi), rfl, fun i X q => by simp at q⟩) (by omega) (by show rc (A2 1) _ + _ < 1000; omega) (by rw [hdlen]; omega) (by simp) hok ksi (by rw [hgf]) (by exact fun q hq => tv_mono p12 (hids q hq)) (fun f5 A5 T5 E5 lv p5 q5 s5 ef5 eA5 hP5 hE5 hE52 hdw5 l0 l1 l2 l4 => ?_) lv l0 l1 l2 l4 l5
                rw [← ePH] at hP5 hE5 q5
                rw [cq_6 hs] at q5
                have hb6 := bgn_le se (po_hand id ids s g se me dir DL.length).1 6 0
                have s5 : rc (A5 1) T5.length ≤ rc (A2 1) T2.length + 2 * 6 := s5
                rw [hdlen] at hE5 hdw5
                obtain ⟨E, eE⟩ : ∃ E, E = ([(nI s, (0 : Int32))] ++ [(nI s, (0 : Int32))]) ++ E5 := ⟨_, rfl⟩
                have eDL : (DL ++ [(nI s, 0)] ++ [(nI s, 0)]) ++ E5 = DL ++ E := by rw [eE]; simp
                rw [eDL] at hP5
                have hE6 : DL.length + E.length = (po_hand id ids s g se me dir DL.length).2.2.2.1 := by rw [eE, ← hE5]; simp only [List.length_append, List.length_cons, List.length_nil]; omega
                have hE62 : ∀ e, e ∈ E → e.1 = nI s ∧ (e.2 = 0 ∨ e.2 = 2) := by
                  intro e he
                  rw [eE] at he
                  rcases List.mem_append.mp he with he | he
                  · simp only [List.mem_append, List.mem_cons, List.not_mem_nil, or_false, or_self] at he
                    rw [he]
                    exact ⟨rfl, Or.inl rfl⟩
                  · exact hE52 e he
                have hdw6 : dws A A5 DL.length (ck + 1) (E.map fun e => (e.1, decide (e.2 ≠ 0))) := by
                  rw [eE, List.map_append, ← h21]
                  refine dws_app (l := [(nI s, false), (nI s, false)]) ?_ hdw5
                  refine dws_app (l := [(nI s, false)]) (l' := [(nI s, false)]) (A' := drA A DL.length (f 21 + 1) (nI s) (bz false)) ⟨rfl, rfl, rfl, rfl⟩ ?_
                  rw [show DL.length + [(nI s, false)].length = (DL ++ [(nI s, (0 : Int32))]).length by simp]
                  exact ⟨rfl, rfl, rfl, rfl⟩
                have pT := p12.trans p5
                have hlE : (DL ++ E).length = (po_hand id ids s g se me dir DL.length).2.2.2.1 := by rw [List.length_append]; exact hE6
                have hS5 : RS f5 A5 T5 (DL ++ E) dev sto ws (po_hand id ids s g se me dir DL.length).2.2.1 reg seen ls (wl lo DL.length ((E.map fun e => (e.1, decide (e.2 ≠ 0))).map fun (e : Int32 × Bool) => -1)) ((wl dt DL.length ((E.map fun e => (e.1, decide (e.2 ≠ 0))).map fun (e : Int32 × Bool) => ck + 1)), (wl db DL.length ((E.map fun e => (e.1, decide (e.2 ≠ 0))).map fun (e : Int32 × Bool) => e.1)), (wl rt DL.length ((E.map fun e => (e.1, decide (e.2 ≠ 0))).map fun (e : Int32 × Bool) => bz e.2)), fl, ll, tl, tf, tg, tm, ck + 1, fo, du) := RS_p hS pT hP5.1.2 ((ef5 21 (by decide)).trans (show f 21 + 1 = ck + 1 by rw [h21])) ⟨(ef5 53 (by decide)).trans rfl, (ef5 54 (by decide)).trans rfl, (ef5 63 (by decide)).trans rfl, (ef5 40 (by decide)).trans rfl, (ef5 43 (by decide)).trans rfl⟩ ⟨(eA5 14 (by decide)).trans rfl, (eA5 16 (by decide)).trans rfl, (eA5 18 (by decide)).trans rfl, (eA5 19 (by decide)).trans rfl, (eA5 20 (by decide)).trans rfl, (eA5 21 (by decide)).trans rfl, (eA5 22 (by decide)).trans rfl, (eA5 23 (by decide)).trans rfl, (eA5 24 (by decide)).trans rfl, (eA5 25 (by decide)).trans rfl, (eA5 28 (by decide)).trans rfl, (eA5 29 (by decide)).trans rfl, (eA5 30 (by decide)).trans rfl, (eA5 31 (by decide)).trans rfl, (eA5 32 (by decide)).trans rfl, (eA5 33 (by decide)).trans rfl, (eA5 34 (by decide)).trans rfl, (eA5 35 (by decide)).trans rfl, (eA5 36 (by decide)).trans rfl, (eA5 37 (by decide)).trans rfl, (eA5 38 (by decide)).trans rfl, (eA5 39 (by decide)).trans rfl, (eA5 40 (by decide)).trans rfl, (eA5 41 (by decide)).trans rfl, (eA5 42 (by decide)).trans rfl, (eA5 45 (by decide)).trans rfl, (eA5 46 (by decide)).trans rfl⟩ hP5.2.2.1 (hdw6.1.trans (congrArg (fun z => wl z DL.length _) hS.2.2.2.2.1.1)) (hdw6.2.1.trans (congrArg (fun z => wl z DL.length _) hS.2.2.2.2.1.2.1)) (hdw6.2.2.1.trans (congrArg (fun z => wl z DL.length _) hS.2.2.2.2.1.2.2)) (hdw6.2.2.2.trans (congrArg (fun z => wl z DL.length _) hS.2.2.1.2))
                have hid5 : (dev s).1 = id := by rw [eD]
                have hsi5 : kd ((po_hand id ids s g se me dir DL.length).2.1 g).2.2.2.2.2.1 = 1 := by rw [ePH, ho_si]; exact ksi
                rw [← hlE] at k0 k1 k2
                refine l_mpostE (d := d + 2) (p0 := p0) (P := P) (O := O) (c := c) hP5 hS5 (by omega) (by omega) (by rw [hlE]; have := hE6; have hb5 := hdb; omega) (by omega) hls hs hg hid5 hz0 hz1 hst (by omega) hwz hsi5 (hen hven) (fun hc f6 A6 T6 p6 q6 s6 hM6 e16 hS6 => ?_) (fun hc f6 A6 T6 p6 q6 s6 hM6 e16 hS6 => ?_) (fun hc f6 A6 T6 p6 q6 s6 hM6 e16 hS6 => ?_) lv l0 l1 l2 l4
                · exact k0 hven hc f6 A6 T6 E (pT.trans p6) (by omega) (by omega) List.length_append.symm hE62 hM6 (e16.trans ((ef5 16 (by decide)).trans rfl)) hS6
                · exact k1 hven hc f6 A6 T6 E (pT.trans p6) (by omega) (by omega) List.length_append.symm hE62 hM6 (e16.trans ((ef5 16 (by decide)).trans rfl)) hS6
                · exact k2 hven hc f6 A6 T6 E (pT.trans p6) (by omega) (by omega) List.length_append.symm hE62 hM6 (e16.imp (fun z => z) (fun q => ⟨q.1.trans ((ef5 16 (by decide)).trans rfl), q.2⟩)) hS6
              · have c80 : ¬ ge = 0 := c80
                refine m_ald (pc' := 84) cd_Mo_post rfl (Or.inr ⟨_, rfl, rfl, rfl⟩) l0 rfl rfl ?_
                refine m_fR (r := 14) (a := 15) (ad := 1497) (pc' := 87) rfl rfl cd_Mo_post rfl rfl rfl rfl rfl ?_
                refine m_ild (pc' := 89) cd_Mo_post rfl (Or.inl ⟨rfl, rfl⟩) l4 rfl ?_
                refine m_k2 (v := 8) (pc' := 91) cd_Mo_post rfl (by decide) rfl ?_
                refine m_pure (pc' := 92) (st' := [.int ((nI (486 + g * 279)) + 8), .ref 1497]) cd_Mo_post rfl rfl (fun _ _ => rfl) ?_
                refine m_eq (show ((nI (486 + g * 279)) + 8 : Int32) = nI ((486 + g * 279) + 8) from nI_add (486 + g * 279) 8) ?_
                refine m_aI (r := 14) (a := 15) (g := gw) (x := (bz sl)) (pc' := 93) rfl rfl cd_Mo_post rfl rfl rfl (vp_in_nI (by omega) (by decide)) ((congrArg gw (nI_clamp (by omega))).trans g9) ?_
                refine m_k1 (v := 1) (pc' := 94) cd_Mo_post rfl (by decide) rfl ?_
                refine m_if2 (t := 173) (pc' := 97) cd_Mo_post rfl rfl rfl (fun c94 => ?_) (fun c94 => ?_)
                · have c94 : ¬ (bz sl) = 1 := c94
                  refine m_k1 (v := 0) (pc' := 174) cd_Mo_post rfl (by decide) rfl ?_
                  refine m_ist (pc' := 176) cd_Mo_post rfl (Or.inl ⟨rfl, rfl⟩) (by decide) rfl (fun lv el => ?_)
                  have l0 := tm_lk el l0 rfl (by decide)
                  have l1 := tm_lk el l1 rfl (by decide)
                  have l2 := tm_lk el l2 rfl (by decide)
                  have l3 := tm_lk el l3 rfl (by decide)
                  have l4 := tm_lk el l4 rfl (by decide)
                  have l5 : lv.lookup 5 = some (.int 0) := tm_lks el
                  clear el
                  have hven : (me g).1 ≠ 0 := fun q => c65 (hve.symm.trans q)
                  have hfr : mm_fresh (me g) = true := by
                    rw [hmg]
                    have e1 : sl = false := by cases sl; rfl; exact absurd rfl c94
                    unfold mm_fresh
                    dsimp only
                    rw [decide_eq_false c80, e1]; rfl
                  have ere : mm_ren (me g) DL.length (nI s) = me g := if_pos hfr
                  have edr : dr_ren (me g) DL.length = DL.length := if_pos hfr
                  have ePH : (po_hand id ids s g se me dir DL.length) = ho id ids s g (mm_gift (me g) (nI g)) 6 0 (se, me, dir, DL.length, []) := by unfold po_hand; rw [ere, edr, fset_id]
                  have hP : PS (fset (fset (fset f 21 (f 21 + 1)) 30 0) 32 0) (fset A 15 gw) T DL G Kw id K0 K1 on lnu se me dir [] := ⟨⟨by exact MT_i hM rfl rfl rfl rfl rfl rfl rfl rfl rfl rfl, h11⟩, hDw, fun i hi => hS.2.1.2.1 i hi, rfl, fun i X q => by simp at q⟩
                  have ksi := hsi hfr
                  obtain ⟨hwz, hwl⟩ := ho_wires (id := id) (ids := ids) (s := s) (g := g) (Y := mm_gift (me g) (nI g)) 6 0 (se, me, dir, DL.length, []) (fun X q => absurd q List.not_mem_nil)
                  have hwl : _ ≤ 6 := hwl
                  have hdb := ho_dr (id := id) (ids := ids) (s := s) (g := g) (Y := mm_gift (me g) (nI g)) 6 0 (se, me, dir, DL.length, [])
                  have hdb : _ ≤ DL.length + 18 := hdb
                  rw [← ePH] at hwz hwl hdb
                  refine l_mpostL (d := d + 1) (Y := mm_gift (me g) (nI g)) hs hg eI kid 6 0 _ _ T DL se me dir [] 2 (by omega) rfl (Or.inr (by omega)) hP (by omega) (by show rc (A 1) _ + _ < 1000; omega) (by omega) (by simp) hok ksi rfl hids (fun f5 A5 T5 E lv p5 q5 s5 ef5 eA5 hP5 hE5 hE52 hdw5 l0 l1 l2 l4 => ?_) lv l0 l1 l2 l4 l5
                  rw [← ePH] at hP5 hE5 q5
                  rw [cq_6 hs] at q5
                  have hb6 := bgn_le se (po_hand id ids s g se me dir DL.length).1 6 0
                  have s5 : rc (A5 1) T5.length ≤ rc (A 1) T.length + 2 * 6 := s5
                  have hE6 := hE5
                  have hE62 := hE52
                  have hdw6 : dws A A5 DL.length (ck + 1) (E.map fun e => (e.1, decide (e.2 ≠ 0))) := by rw [← h21]; exact hdw5
                  have pT := p5
                  have hlE : (DL ++ E).length = (po_hand id ids s g se me dir DL.length).2.2.2.1 := by rw [List.length_append]; exact hE6
                  have hS5 : RS f5 A5 T5 (DL ++ E) dev sto ws (po_hand id ids s g se me dir DL.length).2.2.1 reg seen ls (wl lo DL.length ((E.map fun e => (e.1, decide (e.2 ≠ 0))).map fun (e : Int32 × Bool) => -1)) ((wl dt DL.length ((E.map fun e => (e.1, decide (e.2 ≠ 0))).map fun (e : Int32 × Bool) => ck + 1)), (wl db DL.length ((E.map fun e => (e.1, decide (e.2 ≠ 0))).map fun (e : Int32 × Bool) => e.1)), (wl rt DL.length ((E.map fun e => (e.1, decide (e.2 ≠ 0))).map fun (e : Int32 × Bool) => bz e.2)), fl, ll, tl, tf, tg, tm, ck + 1, fo, du) := RS_p hS pT hP5.1.2 ((ef5 21 (by decide)).trans (show f 21 + 1 = ck + 1 by rw [h21])) ⟨(ef5 53 (by decide)).trans rfl, (ef5 54 (by decide)).trans rfl, (ef5 63 (by decide)).trans rfl, (ef5 40 (by decide)).trans rfl, (ef5 43 (by decide)).trans rfl⟩ ⟨(eA5 14 (by decide)).trans rfl, (eA5 16 (by decide)).trans rfl, (eA5 18 (by decide)).trans rfl, (eA5 19 (by decide)).trans rfl, (eA5 20 (by decide)).trans rfl, (eA5 21 (by decide)).trans rfl, (eA5 22 (by decide)).trans rfl, (eA5 23 (by decide)).trans rfl, (eA5 24 (by decide)).trans rfl, (eA5 25 (by decide)).trans rfl, (eA5 28 (by decide)).trans rfl, (eA5 29 (by decide)).trans rfl, (eA5 30 (by decide)).trans rfl, (eA5 31 (by decide)).trans rfl, (eA5 32 (by decide)).trans rfl, (eA5 33 (by decide)).trans rfl, (eA5 34 (by decide)).trans rfl, (eA5 35 (by decide)).trans rfl, (eA5 36 (by decide)).trans rfl, (eA5 37 (by decide)).trans rfl, (eA5 38 (by decide)).trans rfl, (eA5 39 (by decide)).trans rfl, (eA5 40 (by decide)).trans rfl, (eA5 41 (by decide)).trans rfl, (eA5 42 (by decide)).trans rfl, (eA5 45 (by decide)).trans rfl, (eA5 46 (by decide)).trans rfl⟩ hP5.2.2.1 (hdw6.1.trans (congrArg (fun z => wl z DL.length _) hS.2.2.2.2.1.1)) (hdw6.2.1.trans (congrArg (fun z => wl z DL.length _) hS.2.2.2.2.1.2.1)) (hdw6.2.2.1.trans (congrArg (fun z => wl z DL.length _) hS.2.2.2.2.1.2.2)) (hdw6.2.2.2.trans (congrArg (fun z => wl z DL.length _) hS.2.2.1.2))
                  have hid5 : (dev s).1 = id := by rw [eD]
                  have hsi5 : kd ((po_hand id ids s g se me dir DL.length).2.1 g).2.2.2.2.2.1 = 1 := by rw [ePH, ho_si]; exact ksi
                  rw [← hlE] at k0 k1 k2
                  refine l_mpostE (d := d + 2) (p0 := p0) (P := P) (O := O) (c := c) hP5 hS5 (by omega) (by omega) (by rw [hlE]; have := hE6; have hb5 := hdb; omega) (by omega) hls hs hg hid5 hz0 hz1 hst (by omega) hwz hsi5 (hen hven) (fun hc f6 A6 T6 p6 q6 s6 hM6 e16 hS6 => ?_) (fun hc f6 A6 T6 p6 q6 s6 hM6 e16 hS6 => ?_) (fun hc f6 A6 T6 p6 q6 s6 hM6 e16 hS6 => ?_) lv l0 l1 l2 l4
                  · exact k0 hven hc f6 A6 T6 E (pT.trans p6) (by omega) (by omega) List.length_append.symm hE62 hM6 (e16.trans ((ef5 16 (by decide)).trans rfl)) hS6
                  · exact k1 hven hc f6 A6 T6 E (pT.trans p6) (by omega) (by omega) List.length_append.symm hE62 hM6 (e16.trans ((ef5 16 (by decide)).trans rfl)) hS6
                  · exact k2 hven hc f6 A6 T6 E (pT.trans p6) (by omega) (by omega) List.length_append.symm hE62 hM6 (e16.imp (fun z => z) (fun q => ⟨q.1.trans ((ef5 16 (by decide)).trans rfl), q.2⟩)) hS6
                · have c94 : (bz sl) = 1 := Classical.not_not.mp c94
                  refine m_ald (pc' := 98) cd_Mo_post rfl (Or.inr ⟨_, rfl, rfl, rfl⟩) l0 rfl rfl ?_
                  refine m_fR (r := 14) (a := 15) (ad := 1497) (pc' := 101) rfl rfl cd_Mo_post rfl rfl rfl rfl rfl ?_
                  refine m_ild (pc' := 103) cd_Mo_post rfl (Or.inl ⟨rfl, rfl⟩) l4 rfl ?_
                  refine m_k1 (v := 3) (pc' := 104) cd_Mo_post rfl (by decide) rfl ?_
                  refine m_pure (pc' := 105) (st' := [.int ((nI (486 + g * 279)) + 3), .ref 1497]) cd_Mo_post rfl rfl (fun _ _ => rfl) ?_
                  refine m_eq (show ((nI (486 + g * 279)) + 3 : Int32) = nI ((486 + g * 279) + 3) from nI_add (486 + g * 279) 3) ?_
                  refine m_pure (pc' := 106) (st' := [.int (nI ((486 + g * 279) + 3)), .ref 1497, .int (nI ((486 + g * 279) + 3)), .ref 1497]) cd_Mo_post rfl rfl (fun _ _ => rfl) ?_
                  refine m_aI (r := 14) (a := 15) (g := gw) (x := ge) (pc' := 107) rfl rfl cd_Mo_post rfl rfl rfl (vp_in_nI (by omega) (by decide)) ((congrArg gw (nI_clamp (by omega))).trans g4) ?_
                  refine m_k1 (v := 1) (pc' := 108) cd_Mo_post rfl (by decide) rfl ?_
                  refine m_pure (pc' := 109) (st' := [.int (ge + 1), .int (nI ((486 + g * 279) + 3)), .ref 1497]) cd_Mo_post rfl rfl (fun _ _ => rfl) ?_
                  refine m_aS (r := 14) (a := 15) (g := gw) (p := ((486 + g * 279) + 3)) (pc' := 110) rfl rfl cd_Mo_post rfl rfl rfl (vp_in_nI (by omega) (by decide)) (nI_clamp (by omega)) ?_
                  refine m_ald (pc' := 111) cd_Mo_post rfl (Or.inr ⟨_, rfl, rfl, rfl⟩) l0 rfl rfl ?_
                  refine m_fR (r := 14) (a := 15) (ad := 1497) (pc' := 114) rfl rfl cd_Mo_post rfl rfl rfl rfl rfl ?_
                  refine m_ild (pc' := 116) cd_Mo_post rfl (Or.inl ⟨rfl, rfl⟩) l4 rfl ?_
                  refine m_k1 (v := 4) (pc' := 117) cd_Mo_post rfl (by decide) rfl ?_
                  refine m_pure (pc' := 118) (st' := [.int ((nI (486 + g * 279)) + 4), .ref 1497]) cd_Mo_post rfl rfl (fun _ _ => rfl) ?_
                  refine m_eq (show ((nI (486 + g * 279)) + 4 : Int32) = nI ((486 + g * 279) + 4) from nI_add (486 + g * 279) 4) ?_
                  refine m_ald (pc' := 119) cd_Mo_post rfl (Or.inr ⟨_, rfl, rfl, rfl⟩) l0 rfl rfl ?_
                  refine m_ild (pc' := 120) cd_Mo_post rfl (Or.inr ⟨_, rfl, rfl, rfl⟩) l1 rfl ?_
                  refine m_k1 (v := 0) (pc' := 121) cd_Mo_post rfl (by decide) rfl ?_
                  refine m_ci (pc' := 124) cd_Mo_post rfl rfl rfl rfl rfl cd_Mo_drawn rfl (Nat.le_of_ble_eq_true rfl) (m_drawn (rt := false) (xd := (nI s)) (xp := 0) (by exact MT_i hM rfl rfl rfl rfl rfl rfl rfl rfl rfl rfl) (by omega) (by show rc (A 1) T.length < 1000; omega) h11 (by omega) (fun f1 A1 T1 r1 hx1 hr1 => ?_))
                  obtain ⟨p1, q1, s1, hM1⟩ := hx1
                  have hM1 : MT f1 A1 T1 _ _ _ := MT_i hM1 rfl rfl rfl rfl rfl rfl rfl rfl rfl rfl
                  have s1 : rc (A1 1) T1.length ≤ rc (A 1) T.length + 0 := s1
                  show mg _ _ _ 124 _ [.int r1, .int (nI ((486 + g * 279) + 4)), .ref 1497] _ _
                  refine m_aS (r := 14) (a := 15) (g := (upd gw ((486 + g * 279) + 3) (ge + 1))) (p := ((486 + g * 279) + 4)) (pc' := 125) rfl rfl cd_Mo_post rfl rfl rfl (vp_in_nI (by omega) (by decide)) (nI_clamp (by omega)) ?_
                  refine m_ald (pc' := 126) cd_Mo_post rfl (Or.inr ⟨_, rfl, rfl, rfl⟩) l0 rfl rfl ?_
                  refine m_fR (r := 14) (a := 15) (ad := 1497) (pc' := 129) rfl rfl cd_Mo_post rfl rfl rfl rfl rfl ?_
                  refine m_ild (pc' := 131) cd_Mo_post rfl (Or.inl ⟨rfl, rfl⟩) l4 rfl ?_
                  refine m_k1 (v := 5) (pc' := 132) cd_Mo_post rfl (by decide) rfl ?_
                  refine m_pure (pc' := 133) (st' := [.int ((nI (486 + g * 279)) + 5), .ref 1497]) cd_Mo_post rfl rfl (fun _ _ => rfl) ?_
                  refine m_eq (show ((nI (486 + g * 279)) + 5 : Int32) = nI ((486 + g * 279) + 5) from nI_add (486 + g * 279) 5) ?_
                  refine m_ald (pc' := 134) cd_Mo_post rfl (Or.inr ⟨_, rfl, rfl, rfl⟩) l0 rfl rfl ?_
                  refine m_ild (pc' := 135) cd_Mo_post rfl (Or.inr ⟨_, rfl, rfl, rfl⟩) l1 rfl ?_
                  refine m_k1 (v := 0) (pc' := 136) cd_Mo_post rfl (by decide) rfl ?_
                  refine m_ci (pc' := 139) cd_Mo_post rfl rfl rfl rfl rfl cd_Mo_drawn rfl (Nat.le_of_ble_eq_true rfl) (m_drawn (rt := false) (xd := (nI s)) (xp := 0) (by exact MT_i hM1 rfl rfl rfl rfl rfl rfl rfl rfl rfl rfl) (by omega) (by show rc (A1 1) T1.length < 1000; omega) (by show nI (List.length DL + 1) = nI (List.length (DL ++ [((nI s), 0)])); exact congrArg nI (by simp)) (by rw [show List.length (DL ++ [((nI s), 0)]) = (DL.length + 1) by simp]; omega) (fun f2 A2 T2 r2 hx2 hr2 => ?_))
                  obtain ⟨p2, q2, s2, hM2⟩ := hx2
                  have hM2 : MT f2 A2 T2 _ _ _ := MT_i hM2 rfl rfl rfl rfl rfl rfl rfl rfl rfl rfl
                  have s2 : rc (A2 1) T2.length ≤ rc (A1 1) T1.length + 0 := s2
                  rw [show List.length (DL ++ [((nI s), 0)]) = (DL.length + 1) by simp] at hr2
                  show mg _ _ _ 139 _ [.int r2, .int (nI ((486 + g * 279) + 5)), .ref 1497] _ _
                  refine m_aS (r := 14) (a := 15) (g := (upd (upd gw ((486 + g * 279) + 3) (ge + 1)) ((486 + g * 279) + 4) r1)) (p := ((486 + g * 279) + 5)) (pc' := 140) rfl rfl cd_Mo_post rfl rfl rfl (vp_in_nI (by omega) (by decide)) (nI_clamp (by omega)) ?_
                  refine m_ald (pc' := 141) cd_Mo_post rfl (Or.inr ⟨_, rfl, rfl, rfl⟩) l0 rfl rfl ?_
                  refine m_fR (r := 14) (a := 15) (ad := 1497) (pc' := 144) rfl rfl cd_Mo_post rfl rfl rfl rfl rfl ?_
                  refine m_ild (pc' := 146) cd_Mo_post rfl (Or.inl ⟨rfl, rfl⟩) l4 rfl ?_
                  refine m_k2 (v := 6) (pc' := 148) cd_Mo_post rfl (by decide) rfl ?_
                  refine m_pure (pc' := 149) (st' := [.int ((nI (486 + g * 279)) + 6), .ref 1497]) cd_Mo_post rfl rfl (fun _ _ => rfl) ?_
                  refine m_eq (show ((nI (486 + g * 279)) + 6 : Int32) = nI ((486 + g * 279) + 6) from nI_add (486 + g * 279) 6) ?_
                  refine m_k1 (v := 0) (pc' := 150) cd_Mo_post rfl (by decide) rfl ?_
                  refine m_aS (r := 14) (a := 15) (g := (upd (upd (upd gw ((486 + g * 279) + 3) (ge + 1)) ((486 + g * 279) + 4) r1) ((486 + g * 279) + 5) r2)) (p := ((486 + g * 279) + 6)) (pc' := 151) rfl rfl cd_Mo_post rfl rfl rfl (vp_in_nI (by omega) (by decide)) (nI_clamp (by omega)) ?_
                  rw [fset_fset]
                  refine m_ald (pc' := 152) cd_Mo_post rfl (Or.inr ⟨_, rfl, rfl, rfl⟩) l0 rfl rfl ?_
                  refine m_fR (r := 14) (a := 15) (ad := 1497) (pc' := 155) rfl rfl cd_Mo_post rfl rfl rfl rfl rfl ?_
                  refine m_ild (pc' := 157) cd_Mo_post rfl (Or.inl ⟨rfl, rfl⟩) l4 rfl ?_
                  refine m_k2 (v := 7) (pc' := 159) cd_Mo_post rfl (by decide) rfl ?_
                  refine m_pure (pc' := 160) (st' := [.int ((nI (486 + g * 279)) + 7), .ref 1497]) cd_Mo_post rfl rfl (fun _ _ => rfl) ?_
                  refine m_eq (show ((nI (486 + g * 279)) + 7 : Int32) = nI ((486 + g * 279) + 7) from nI_add (486 + g * 279) 7) ?_
                  refine m_k1 (v := 0) (pc' := 161) cd_Mo_post rfl (by decide) rfl ?_
                  refine m_aS (r := 14) (a := 15) (g := (upd (upd (upd (upd gw ((486 + g * 279) + 3) (ge + 1)) ((486 + g * 279) + 4) r1) ((486 + g * 279) + 5) r2) ((486 + g * 279) + 6) 0)) (p := ((486 + g * 279) + 7)) (pc' := 162) rfl rfl cd_Mo_post rfl rfl rfl (vp_in_nI (by omega) (by decide)) (nI_clamp (by omega)) ?_
                  rw [fset_fset]
                  refine m_ald (pc' := 163) cd_Mo_post rfl (Or.inr ⟨_, rfl, rfl, rfl⟩) l0 rfl rfl ?_
                  refine m_fR (r := 14) (a := 15) (ad := 1497) (pc' := 166) rfl rfl cd_Mo_post rfl rfl rfl rfl rfl ?_
                  refine m_ild (pc' := 168) cd_Mo_post rfl (Or.inl ⟨rfl, rfl⟩) l4 rfl ?_
                  refine m_k2 (v := 8) (pc' := 170) cd_Mo_post rfl (by decide) rfl ?_
                  refine m_pure (pc' := 171) (st' := [.int ((nI (486 + g * 279)) + 8), .ref 1497]) cd_Mo_post rfl rfl (fun _ _ => rfl) ?_
                  refine m_eq (show ((nI (486 + g * 279)) + 8 : Int32) = nI ((486 + g * 279) + 8) from nI_add (486 + g * 279) 8) ?_
                  refine m_k1 (v := 0) (pc' := 172) cd_Mo_post rfl (by decide) rfl ?_
                  refine m_aS (r := 14) (a := 15) (g := (upd (upd (upd (upd (upd gw ((486 + g * 279) + 3) (ge + 1)) ((486 + g * 279) + 4) r1) ((486 + g * 279) + 5) r2) ((486 + g * 279) + 6) 0) ((486 + g * 279) + 7) 0)) (p := ((486 + g * 279) + 8)) (pc' := 173) rfl rfl cd_Mo_post rfl rfl rfl (vp_in_nI (by omega) (by decide)) (nI_clamp (by omega)) ?_
                  rw [fset_fset]
                  refine m_k1 (v := 0) (pc' := 174) cd_Mo_post rfl (by decide) rfl ?_
                  refine m_ist (pc' := 176) cd_Mo_post rfl (Or.inl ⟨rfl, rfl⟩) (by decide) rfl (fun lv el => ?_)
                  have l0 := tm_lk el l0 rfl (by decide)
                  have l1 := tm_lk el l1 rfl (by decide)
                  have l2 := tm_lk el l2 rfl (by decide)
                  have l3 := tm_lk el l3 rfl (by decide)
                  have l4 := tm_lk el l4 rfl (by decide)
                  have l5 : lv.lookup 5 = some (.int 0) := tm_lks el
                  clear el
                  have hven : (me g).1 ≠ 0 := fun q => c65 (hve.symm.trans q)
                  have hfr : mm_fresh (me g) = false := by
                    rw [hmg]
                    unfold mm_fresh
                    dsimp only
                    rw [show sl = true from (by cases sl; exact absurd c94 (by decide); rfl)]; simp
                  have ere : mm_ren (me g) DL.length (nI s) = mm_renew (me g) DL.length (nI s) := if_neg (by rw [hfr]; decide)
                  have edr : dr_ren (me g) DL.length = DL.length + 2 := if_neg (by rw [hfr]; decide)
                  have hdlen : (DL ++ [(nI s, (0 : Int32))] ++ [(nI s, (0 : Int32))]).length = DL.length + 2 := by simp
                  have ePH : (po_hand id ids s g se me dir DL.length) = ho id ids s g (mm_gift (mm_renew (me g) DL.length (nI s)) (nI g)) 6 0 (se, fset me g (mm_renew (me g) DL.length (nI s)), dir, (DL ++ [(nI s, (0 : Int32))] ++ [(nI s, (0 : Int32))]).length, []) := by unfold po_hand; rw [ere, edr, hdlen]
                  have p12 := p1.trans p2
                  have hGr : qMm (upd (upd (upd (upd (upd (upd gw ((486 + g * 279) + 3) (ge + 1)) ((486 + g * 279) + 4) r1) ((486 + g * 279) + 5) r2) ((486 + g * 279) + 6) 0) ((486 + g * 279) + 7) 0) ((486 + g * 279) + 8) 0) T2 (486 + g * 279) (mm_renew (me g) DL.length (nI s)) := by
                    refine qMm_renew p12 hG0 (fun k k1 k2 k3 k4 k5 k6 => by rw [upd_ne k6, upd_ne k5, upd_ne k4, upd_ne k3, upd_ne k2, upd_ne k1]) ?_ ?_ ?_ ?_ ?_ ?_
                    · rw [upd_ne (by omega), upd_ne (by omega), upd_ne (by omega), upd_ne (by omega), upd_ne (by omega), upd_same, hmg]
                    · rw [upd_ne (by omega), upd_ne (by omega), upd_ne (by omega), upd_ne (by omega), upd_same]; exact tv_mono p2 hr1
                    · rw [upd_ne (by omega), upd_ne (by omega), upd_ne (by omega), upd_same]; exact hr2
                    · rw [upd_ne (by omega), upd_ne (by omega), upd_same]
                    · rw [upd_ne (by omega), upd_same]
                    · rw [upd_same]
                  have hD2 := qDv_grp hg hDw p12 hGr (fun j hj => by rw [upd_ne (by omega), upd_ne (by omega), upd_ne (by omega), upd_ne (by omega), upd_ne (by omega), upd_ne (by omega)])
                  have hgf : (fset me g (mm_renew (me g) DL.length (nI s))) g = mm_renew (me g) DL.length (nI s) := fset_same _ _ _
                  have ksi : kd ((fset me g (mm_renew (me g) DL.length (nI s))) g).2.2.2.2.2.1 = 1 := by rw [hgf, hmg]; rfl
                  obtain ⟨hwz, hwl⟩ := ho_wires (id := id) (ids := ids) (s := s) (g := g) (Y := mm_gift (mm_renew (me g) DL.length (nI s)) (nI g)) 6 0 (se, (fset me g (mm_renew (me g) DL.length (nI s))), dir, (DL ++ [(nI s, (0 : Int32))] ++ [(nI s, (0 : Int32))]).length, []) (fun X q => absurd q List.not_mem_nil)
                  have hwl : _ ≤ 6 := hwl
                  have hdb := ho_dr (id := id) (ids := ids) (s := s) (g := g) (Y := mm_gift (mm_renew (me g) DL.length (nI s)) (nI g)) 6 0 (se, (fset me g (mm_renew (me g) DL.length (nI s))), dir, (DL ++ [(nI s, (0 : Int32))] ++ [(nI s, (0 : Int32))]).length, [])
                  have hdb : _ ≤ (DL ++ [(nI s, (0 : Int32))] ++ [(nI s, (0 : Int32))]).length + 18 := hdb
                  rw [← ePH] at hwz hwl hdb
                  rw [hdlen] at hdb
                  refine l_mpostL (d := d + 1) (Y := mm_gift (mm_renew (me g) DL.length (nI s)) (nI g)) hs hg eI kid 6 0 _ _ T2 (DL ++ [(nI s, 0)] ++ [(nI s, 0)]) se (fset me g (mm_renew (me g) DL.length (nI s))) dir [] 2 (by omega) rfl (Or.inr (by omega)) (by exact ⟨⟨MT_i hM2 rfl rfl rfl rfl rfl rfl rfl rfl rfl rfl, (show nI (List.length (DL ++ [(nI s, (0 : Int32))]) + 1) = _ by rw [hdlen]; congr 1; simp)⟩, hD2, fun i hi => tv_mono p12 (hS.2.1.2.1 i hi), rfl, fun i X q => by simp at q⟩) (by omega) (by show rc (A2 1) _ + _ < 1000; omega) (by rw [hdlen]; omega) (by simp) hok ksi (by rw [hgf]) (by exact fun q hq => tv_mono p12 (hids q hq)) (fun f5 A5 T5 E5 lv p5 q5 s5 ef5 eA5 hP5 hE5 hE52 hdw5 l0 l1 l2 l4 => ?_) lv l0 l1 l2 l4 l5
                  rw [← ePH] at hP5 hE5 q5
                  rw [cq_6 hs] at q5
                  have hb6 := bgn_le se (po_hand id ids s g se me dir DL.length).1 6 0
                  have s5 : rc (A5 1) T5.length ≤ rc (A2 1) T2.length + 2 * 6 := s5
                  rw [hdlen] at hE5 hdw5
                  obtain ⟨E, eE⟩ : ∃ E, E = ([(nI s, (0 : Int32))] ++ [(nI s, (0 : Int32))]) ++ E5 := ⟨_, rfl⟩
                  have eDL : (DL ++ [(nI s, 0)] ++ [(nI s, 0)]) ++ E5 = DL ++ E := by rw [eE]; simp
                  rw [eDL] at hP5
                  have hE6 : DL.length + E.length = (po_hand id ids s g se me dir DL.length).2.2.2.1 := by rw [eE, ← hE5]; simp only [List.length_append, List.length_cons, List.length_nil]; omega
                  have hE62 : ∀ e, e ∈ E → e.1 = nI s ∧ (e.2 = 0 ∨ e.2 = 2) := by
                    intro e he
                    rw [eE] at he
                    rcases List.mem_append.mp he with he | he
                    · simp only [List.mem_append, List.mem_cons, List.not_mem_nil, or_false, or_self] at he
                      rw [he]
                      exact ⟨rfl, Or.inl rfl⟩
                    · exact hE52 e he
                  have hdw6 : dws A A5 DL.length (ck + 1) (E.map fun e => (e.1, decide (e.2 ≠ 0))) := by
                    rw [eE, List.map_append, ← h21]
                    refine dws_app (l := [(nI s, false), (nI s, false)]) ?_ hdw5
                    refine dws_app (l := [(nI s, false)]) (l' := [(nI s, false)]) (A' := drA A DL.length (f 21 + 1) (nI s) (bz false)) ⟨rfl, rfl, rfl, rfl⟩ ?_
                    rw [show DL.length + [(nI s, false)].length = (DL ++ [(nI s, (0 : Int32))]).length by simp]
                    exact ⟨rfl, rfl, rfl, rfl⟩
                  have pT := p12.trans p5
                  have hlE : (DL ++ E).length = (po_hand id ids s g se me dir DL.length).2.2.2.1 := by rw [List.length_append]; exact hE6
                  have hS5 : RS f5 A5 T5 (DL ++ E) dev sto ws (po_hand id ids s g se me dir DL.length).2.2.1 reg seen ls (wl lo DL.length ((E.map fun e => (e.1, decide (e.2 ≠ 0))).map fun (e : Int32 × Bool) => -1)) ((wl dt DL.length ((E.map fun e => (e.1, decide (e.2 ≠ 0))).map fun (e : Int32 × Bool) => ck + 1)), (wl db DL.length ((E.map fun e => (e.1, decide (e.2 ≠ 0))).map fun (e : Int32 × Bool) => e.1)), (wl rt DL.length ((E.map fun e => (e.1, decide (e.2 ≠ 0))).map fun (e : Int32 × Bool) => bz e.2)), fl, ll, tl, tf, tg, tm, ck + 1, fo, du) := RS_p hS pT hP5.1.2 ((ef5 21 (by decide)).trans (show f 21 + 1 = ck + 1 by rw [h21])) ⟨(ef5 53 (by decide)).trans rfl, (ef5 54 (by decide)).trans rfl, (ef5 63 (by decide)).trans rfl, (ef5 40 (by decide)).trans rfl, (ef5 43 (by decide)).trans rfl⟩ ⟨(eA5 14 (by decide)).trans rfl, (eA5 16 (by decide)).trans rfl, (eA5 18 (by decide)).trans rfl, (eA5 19 (by decide)).trans rfl, (eA5 20 (by decide)).trans rfl, (eA5 21 (by decide)).trans rfl, (eA5 22 (by decide)).trans rfl, (eA5 23 (by decide)).trans rfl, (eA5 24 (by decide)).trans rfl, (eA5 25 (by decide)).trans rfl, (eA5 28 (by decide)).trans rfl, (eA5 29 (by decide)).trans rfl, (eA5 30 (by decide)).trans rfl, (eA5 31 (by decide)).trans rfl, (eA5 32 (by decide)).trans rfl, (eA5 33 (by decide)).trans rfl, (eA5 34 (by decide)).trans rfl, (eA5 35 (by decide)).trans rfl, (eA5 36 (by decide)).trans rfl, (eA5 37 (by decide)).trans rfl, (eA5 38 (by decide)).trans rfl, (eA5 39 (by decide)).trans rfl, (eA5 40 (by decide)).trans rfl, (eA5 41 (by decide)).trans rfl, (eA5 42 (by decide)).trans rfl, (eA5 45 (by decide)).trans rfl, (eA5 46 (by decide)).trans rfl⟩ hP5.2.2.1 (hdw6.1.trans (congrArg (fun z => wl z DL.length _) hS.2.2.2.2.1.1)) (hdw6.2.1.trans (congrArg (fun z => wl z DL.length _) hS.2.2.2.2.1.2.1)) (hdw6.2.2.1.trans (congrArg (fun z => wl z DL.length _) hS.2.2.2.2.1.2.2)) (hdw6.2.2.2.trans (congrArg (fun z => wl z DL.length _) hS.2.2.1.2))
                  have hid5 : (dev s).1 = id := by rw [eD]
                  have hsi5 : kd ((po_hand id ids s g se me dir DL.length).2.1 g).2.2.2.2.2.1 = 1 := by rw [ePH, ho_si]; exact ksi
                  rw [← hlE] at k0 k1 k2
                  refine l_mpostE (d := d + 2) (p0 := p0) (P := P) (O := O) (c := c) hP5 hS5 (by omega) (by omega) (by rw [hlE]; have := hE6; have hb5 := hdb; omega) (by omega) hls hs hg hid5 hz0 hz1 hst (by omega) hwz hsi5 (hen hven) (fun hc f6 A6 T6 p6 q6 s6 hM6 e16 hS6 => ?_) (fun hc f6 A6 T6 p6 q6 s6 hM6 e16 hS6 => ?_) (fun hc f6 A6 T6 p6 q6 s6 hM6 e16 hS6 => ?_) lv l0 l1 l2 l4
                  · exact k0 hven hc f6 A6 T6 E (pT.trans p6) (by omega) (by omega) List.length_append.symm hE62 hM6 (e16.trans ((ef5 16 (by decide)).trans rfl)) hS6
                  · exact k1 hven hc f6 A6 T6 E (pT.trans p6) (by omega) (by omega) List.length_append.symm hE62 hM6 (e16.trans ((ef5 16 (by decide)).trans rfl)) hS6
                  · exact k2 hven hc f6 A6 T6 E (pT.trans p6) (by omega) (by omega) List.length_append.symm hE62 hM6 (e16.imp (fun z => z) (fun q => ⟨q.1.trans ((ef5 16 (by decide)).trans rfl), q.2⟩)) hS6
            · have c65 : ve = 0 := Classical.not_not.mp c65
              refine m_k2 (v := (-6)) (pc' := 70) cd_Mo_post rfl (by decide) rfl ?_
              exact m_reti cd_Mo_post rfl ⟨_, rfl, (kN (hve.trans c65) _ _ (by exact MT_i hM rfl rfl rfl rfl rfl rfl rfl rfl rfl rfl) rfl rfl (RS_p hS (List.prefix_refl T) h11 (show f 21 + 1 = ck + 1 by rw [h21]) ⟨rfl, rfl, rfl, rfl, rfl⟩ ⟨rfl, rfl, rfl, rfl, rfl, rfl, rfl, rfl, rfl, rfl, rfl, rfl, rfl, rfl, rfl, rfl, rfl, rfl, rfl, rfl, rfl, rfl, rfl, rfl, rfl, rfl, rfl⟩ (hS.2.1.2.1) hS.2.2.2.2.1.1 hS.2.2.2.2.1.2.1 hS.2.2.2.2.1.2.2 hS.2.2.1.2))⟩
          · exact absurd (show ¬ (0 : Int32) = 0 from c40) (by decide)
