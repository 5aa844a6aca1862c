/-! What is handed out, seen from outside -/
def mm_ga (M : MM) (x : Int32) : MM := match M with
  | (ve, ma, go, ge, ch, si, ix, _, sl, gv) => (ve, ma, go, ge, ch, si, ix, x, sl, gv)
theorem on_keep (S : SS) (x : Tm) : (ss_sent (ss_turn S x)).2.2.2.2.2.2.2.2.2.2 = S.2.2.2.2.2.2.2.2.2.2 := by
  obtain ⟨⟨th, ch, nx, le⟩, ba, ro, mi, sd, n, b, br, bp, bo', on⟩ := S
  by_cases c : sd = tz
  · rw [ss_turn_t c]; rfl
  · rw [ss_turn_f c]; rfl
/-- what the handing out did to a state H -/
def hov (Φ : Nat → SS → Prop) (s g p : Nat) (gift : Tm) (H H' : HS) : Prop := (∀ q S, S ∈ H'.1 q → Φ q S) ∧ ∃ x, H'.2.1 = fset H.2.1 g (mm_ga (H.2.1 g) x) ∧ (∀ q, q < 6 → hbit (H.2.1 g).2.2.2.2.2.2.2.1 (nI q) = true → hbit x (nI q) = true) ∧ ∀ W, W ∈ H'.2.2.2.2 → W ∈ H.2.2.2.2 ∨ ∃ q S m S1 l, (p ≤ q ∧ q < 6 ∧ q ≠ s) ∧ (hbit (H.2.1 g).2.1 (nI q) = true ∧ hbit (H.2.1 g).2.2.2.2.2.2.2.1 (nI q) = false ∧ hbit x (nI q) = true) ∧ Φ q S ∧ W = ss_wire (ss_turn S (Tsec m (nI s) 2)) (nI s) (nI q) gift ∧ H'.1 q = S1 :: l ∧ S1.2.2.2.2.2.2.2.2.2.2 = S.2.2.2.2.2.2.2.2.2.2
theorem ho_view {Φ : Nat → SS → Prop} {id : Tm} {ids : Nat → Tm} {s g : Nat} {gift : Tm} {dir0 : Nat → Tm} (hS : ∀ p S m, Φ p S → Φ p (ss_sent (ss_turn S (Tsec m (nI s) 2)))) (hO : ∀ (p : Nat) (m m' : Int32) (dir' : Nat → Tm), (∀ j, dir' j = dir0 j ∨ dir' j = tz) → p < 6 → an_pre dir' ids p ≠ tz → Φ p (op_ses id (Tsec m (nI s) 0) (Tsec m' (nI s) 2) (ids p) (an_pre dir' ids p) (an_once dir' p 4 (p * 5 + 1)).1)) : ∀ (n p : Nat) (H : HS), p + n ≤ 6 → (∀ j, H.2.2.1 j = dir0 j ∨ H.2.2.1 j = tz) → (∀ q S, S ∈ H.1 q → Φ q S) → hov Φ s g p gift H (ho id ids s g gift n p H)
  | 0, p, H, _, _, h => by
    refine ⟨h, (H.2.1 g).2.2.2.2.2.2.2.1, ?_, fun q _ z => z, fun W hW => Or.inl hW⟩
    show H.2.1 = fset H.2.1 g _
    exact (fset_id H.2.1 g).symm
  | n + 1, p, H, hp, hd, h => by
    have same : ho1 id ids s g gift p H = H → hov Φ s g p gift H (ho id ids s g gift (n + 1) p H) := fun e => by
      have ih := ho_view (g := g) (gift := gift) hS hO n (p + 1) H (by omega) hd h
      unfold ho
      rw [e]
      obtain ⟨a1, x, a2, a3, a4⟩ := ih
      refine ⟨a1, x, a2, a3, fun W hW => ?_⟩
      rcases a4 W hW with z | ⟨q, S, m, S1, l, ⟨b1, b2, b3⟩, b4⟩
      · exact Or.inl z
      · exact Or.inr ⟨q, S, m, S1, l, ⟨by omega, b2, b3⟩, b4⟩
    obtain ⟨se, me, dir, dr, wt⟩ := H
    have step : ∀ (S0 : SS) (l : List SS) (m : Int32) (dir' : Nat → Tm) (dr' : Nat), ¬ (p = s ∨ hbit (me g).2.1 (nI p) = false ∨ hbit (me g).2.2.2.2.2.2.2.1 (nI p) = true) → Φ p S0 → (∀ S, S ∈ l → Φ p S) → (∀ j, dir' j = dir0 j ∨ dir' j = tz) → ho1 id ids s g gift p (se, me, dir, dr, wt) = (fset se p (ss_sent (ss_turn S0 (Tsec m (nI s) 2)) :: l), fset me g (mm_gave (me g) (1 <<< (nI p &&& 31))), dir', dr', wt ++ [ss_wire (ss_turn S0 (Tsec m (nI s) 2)) (nI s) (nI p) gift]) → hov Φ s g p gift (se, me, dir, dr, wt) (ho id ids s g gift (n + 1) p (se, me, dir, dr, wt)) := fun S0 l m dir' dr' hc hS0 hl hd' e => by
      have ih := ho_view (g := g) (gift := gift) hS hO n (p + 1) (fset se p (ss_sent (ss_turn S0 (Tsec m (nI s) 2)) :: l), fset me g (mm_gave (me g) (1 <<< (nI p &&& 31))), dir', dr', wt ++ [ss_wire (ss_turn S0 (Tsec m (nI s) 2)) (nI s) (nI p) gift]) (by omega) hd' (fun q S hq => by
        have hq : S ∈ fset se p (ss_sent (ss_turn S0 (Tsec m (nI s) 2)) :: l) q := hq
        by_cases c : q = p
        · subst c
          rw [fset_same] at hq
          rcases List.mem_cons.mp hq with z | z
          · rw [z]; exact hS q S0 m hS0
          · exact hl S z
        · rw [fset_ne c] at hq
          exact h q S hq)
      have hse := ho_se (id := id) (ids := ids) (s := s) (g := g) (Y := gift) n (p + 1) (fset se p (ss_sent (ss_turn S0 (Tsec m (nI s) 2)) :: l), fset me g (mm_gave (me g) (1 <<< (nI p &&& 31))), dir', dr', wt ++ [ss_wire (ss_turn S0 (Tsec m (nI s) 2)) (nI s) (nI p) gift]) p (by omega)
      unfold ho
      rw [e]
      obtain ⟨a1, x, a2, a3, a4⟩ := ih
      have a2 : _ = fset (fset me g (mm_gave (me g) (1 <<< (nI p &&& 31)))) g (mm_ga (fset me g (mm_gave (me g) (1 <<< (nI p &&& 31))) g) x) := a2
      rw [fset_same, fset_fset] at a2
      have hga : ∀ q, q < 6 → hbit ((mm_gave (me g) (1 <<< (nI p &&& 31)))).2.2.2.2.2.2.2.1 (nI q) = (hbit (me g).2.2.2.2.2.2.2.1 (nI q) || decide (q = p)) := fun q hq => by
        obtain ⟨ve, ma, go, ge, ch, si, ix, ga, sl, gv⟩ := me g
        show hbit (ga ||| _) (nI q) = _
        rw [hbit_or _ _ (by omega), hbit_one (by omega) (by omega)]
      have hma : (mm_gave (me g) (1 <<< (nI p &&& 31))).2.1 = (me g).2.1 := by
        obtain ⟨ve, ma, go, ge, ch, si, ix, ga, sl, gv⟩ := me g
        rfl
      have hga2 : mm_ga (mm_gave (me g) (1 <<< (nI p &&& 31))) x = mm_ga (me g) x := by
        obtain ⟨ve, ma, go, ge, ch, si, ix, ga, sl, gv⟩ := me g
        rfl
      have a3 : ∀ q, q < 6 → hbit (fset me g (mm_gave (me g) (1 <<< (nI p &&& 31))) g).2.2.2.2.2.2.2.1 (nI q) = true → hbit x (nI q) = true := a3
      rw [fset_same] at a3
      rw [hga2] at a2
      refine ⟨a1, x, a2, fun q hq z => a3 q hq (by rw [hga q hq]; rw [show hbit (me g).2.2.2.2.2.2.2.1 (nI q) = true from z]; rfl), fun W hW => ?_⟩
      rcases a4 W hW with z | ⟨q, S, m', S1, l', ⟨b1, b2, b3⟩, b4, b5⟩
      · rcases List.mem_append.mp (show W ∈ wt ++ [ss_wire (ss_turn S0 (Tsec m (nI s) 2)) (nI s) (nI p) gift] from z) with z | z
        · exact Or.inl z
        · refine Or.inr ⟨p, S0, m, ss_sent (ss_turn S0 (Tsec m (nI s) 2)), l, ⟨Nat.le_refl _, by omega, fun q => hc (Or.inl q)⟩, ⟨?_, ?_, ?_⟩, hS0, List.mem_singleton.mp z, ?_, on_keep _ _⟩
          · exact Bool.of_not_eq_false (fun q => hc (Or.inr (Or.inl q)))
          · exact Bool.eq_false_iff.mpr (fun q => hc (Or.inr (Or.inr q)))
          · exact a3 p (by omega) (by rw [hga p (by omega), decide_eq_true rfl, Bool.or_true])
          · rw [hse]; exact fset_same _ _ _
      · have b4 : hbit (fset me g (mm_gave (me g) (1 <<< (nI p &&& 31))) g).2.1 (nI q) = true ∧ hbit (fset me g (mm_gave (me g) (1 <<< (nI p &&& 31))) g).2.2.2.2.2.2.2.1 (nI q) = false ∧ hbit x (nI q) = true := b4
        rw [fset_same, hma, hga q b2] at b4
        refine Or.inr ⟨q, S, m', S1, l', ⟨by omega, b2, b3⟩, ⟨b4.1, ?_, b4.2.2⟩, b5⟩
        exact (Bool.or_eq_false_iff.mp b4.2.1).1
    by_cases c : p = s ∨ hbit (me g).2.1 (nI p) = false ∨ hbit (me g).2.2.2.2.2.2.2.1 (nI p) = true
    · exact same (ho1_skip c)
    · cases hse : se p with
      | nil =>
        by_cases c2 : an_pre dir ids p = tz
        · exact same (ho1_none c hse c2)
        · refine step _ [] _ _ _ c (hO p _ _ dir hd (by omega) c2) (fun S hS => absurd hS List.not_mem_nil) (fun j => ?_) (ho1_open c hse c2 rfl)
          rcases an_once_at dir p 4 (p * 5 + 1) j with z | z
          · rw [z]; exact hd j
          · exact Or.inr z
      | cons S0 l => exact step S0 l _ dir _ c (h p S0 (by show S0 ∈ se p; rw [hse]; exact List.mem_cons_self)) (fun S hS => h p S (by show S ∈ se p; rw [hse]; exact List.mem_cons_of_mem _ hS)) hd (ho1_have c hse)
