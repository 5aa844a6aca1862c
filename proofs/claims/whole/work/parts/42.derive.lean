/-! What can be derived -/
def can (K : Tm → Prop) (A : Tm) : Prop := (kd A = 3 ∧ ((K (pt A 0) ∧ K (pt A 3)) ∨ (K (pt A 1) ∧ K (pt A 2)))) ∨ (kd A ≠ 3 ∧ kd A ≠ 1 ∧ K (pt A 0) ∧ K (pt A 1) ∧ K (pt A 2) ∧ K (pt A 3))
theorem can_mono {K K' : Tm → Prop} (h : ∀ x, K x → K' x) {A : Tm} (c : can K A) : can K' A := by
  rcases c with ⟨e, c | c⟩ | ⟨e1, e2, c0, c1, c2, c3⟩
  · exact Or.inl ⟨e, Or.inl ⟨h _ c.1, h _ c.2⟩⟩
  · exact Or.inl ⟨e, Or.inr ⟨h _ c.1, h _ c.2⟩⟩
  · exact Or.inr ⟨e1, e2, h _ c0, h _ c1, h _ c2, h _ c3⟩
/-- K is closed: what can be made of it is in it, and what it opens -/
def clo (K : Tm → Prop) : Prop := K tz ∧ (∀ A, can K A → K A) ∧ (∀ A, K A → kd A = 7 → ∀ i, i < 4 → K (pt A i)) ∧ (∀ A, K A → kd A = 6 → K (pt A 1)) ∧ (∀ A, K A → kd A = 5 → K (pt A 1) ∧ (K (pt A 0) → K (pt A 2)))
/-- DERIVED from G -/
def Kn (G : Tm → Prop) (A : Tm) : Prop := ∀ K : Tm → Prop, clo K → (∀ x, G x → K x) → K A
theorem Kn_clo (G : Tm → Prop) : clo (Kn G) := by
  refine ⟨fun K hK _ => hK.1, fun A c K hK hG => hK.2.1 A (can_mono (fun x hx => hx K hK hG) c), fun A h e i hi K hK hG => hK.2.2.1 A (h K hK hG) e i hi, fun A h e K hK hG => hK.2.2.2.1 A (h K hK hG) e, fun A h e => ⟨fun K hK hG => (hK.2.2.2.2 A (h K hK hG) e).1, fun h0 K hK hG => (hK.2.2.2.2 A (h K hK hG) e).2 (h0 K hK hG)⟩⟩
theorem Kn_G {G : Tm → Prop} {A : Tm} (h : G A) : Kn G A := fun _ _ hG => hG A h
theorem Kn_mono {G G' : Tm → Prop} (h : ∀ x, G x → G' x) {A : Tm} (hA : Kn G A) : Kn G' A := fun K hK hG => hA K hK (fun x hx => hG x (h x hx))
theorem Kn_of {G G' : Tm → Prop} (h : ∀ x, G x → Kn G' x) {A : Tm} (hA : Kn G A) : Kn G' A := hA _ (Kn_clo G') h
/-- what can be made of L -/
def Syn (L : Tm → Prop) (A : Tm) : Prop := ∀ S : Tm → Prop, S tz → (∀ x, L x → S x) → (∀ x, can S x → S x) → S A
theorem Syn_tz (L : Tm → Prop) : Syn L tz := fun _ h _ _ => h
theorem Syn_L {L : Tm → Prop} {A : Tm} (h : L A) : Syn L A := fun _ _ hL _ => hL A h
theorem Syn_can {L : Tm → Prop} {A : Tm} (h : can (Syn L) A) : Syn L A := fun S h0 hL hc => hc A (can_mono (fun _ hx => hx S h0 hL hc) h)
theorem Syn_inv {L : Tm → Prop} {A : Tm} (h : Syn L A) : A = tz ∨ L A ∨ can (Syn L) A := by
  refine h (fun A => A = tz ∨ L A ∨ can (Syn L) A) (Or.inl rfl) (fun x hx => Or.inr (Or.inl hx)) (fun x c => Or.inr (Or.inr (can_mono (fun y hy => ?_) c)))
  rcases hy with rfl | hy | hy
  · exact Syn_tz L
  · exact Syn_L hy
  · exact Syn_can hy
/-- L, closed among the terms at hand (In), has all that is DERIVED of them -/
theorem Kn_all {G : Tm → Prop} (L : Tm → Prop) (In : Tm → Nat → Prop) (hpt : ∀ A u, In A u → A = tz ∨ ∀ i, i < 4 → ∃ v, v < u ∧ In (pt A i) v) (hL : ∀ x, L x → ∃ u, In x u) (hG : ∀ x, G x → x = tz ∨ L x) (h2 : ∀ A u, In A u → A ≠ tz → can (fun x => x = tz ∨ L x) A → L A) (h7 : ∀ A i, L A → kd A = 7 → i < 4 → pt A i = tz ∨ L (pt A i)) (h6 : ∀ A, L A → kd A = 6 → pt A 1 = tz ∨ L (pt A 1)) (h5 : ∀ A, L A → kd A = 5 → pt A 1 = tz ∨ L (pt A 1)) (h5' : ∀ A, L A → kd A = 5 → (pt A 0 = tz ∨ L (pt A 0)) → pt A 2 = tz ∨ L (pt A 2)) {u : Nat} {A : Tm} (hA : In A u) (hK : Kn G A) : A = tz ∨ L A := by
  have key : ∀ N u A, u < N → In A u → Syn L A → A = tz ∨ L A := by
    intro N
    induction N with
    | zero => intro u A h; omega
    | succ N ih =>
      intro u A hN hA hs
      rcases Syn_inv hs with e | hs | hs
      · exact Or.inl e
      · exact Or.inr hs
      · rcases hpt A u hA with e | hp
        · exact Or.inl e
        · by_cases e : A = tz
          · exact Or.inl e
          · refine Or.inr (h2 A u hA e ?_)
            have g : ∀ i, i < 4 → Syn L (pt A i) → pt A i = tz ∨ L (pt A i) := fun i hi hs => by
              obtain ⟨v, hv, hv2⟩ := hp i hi
              exact ih v (pt A i) (by omega) hv2 hs
            rcases hs with ⟨e, c | c⟩ | ⟨e1, e2, c0, c1, c2, c3⟩
            · exact Or.inl ⟨e, Or.inl ⟨g 0 (by decide) c.1, g 3 (by decide) c.2⟩⟩
            · exact Or.inl ⟨e, Or.inr ⟨g 1 (by decide) c.1, g 2 (by decide) c.2⟩⟩
            · exact Or.inr ⟨e1, e2, g 0 (by decide) c0, g 1 (by decide) c1, g 2 (by decide) c2, g 3 (by decide) c3⟩
  have toS : ∀ x, x = tz ∨ L x → Syn L x := fun x hx => hx.elim (fun e => e ▸ Syn_tz L) Syn_L
  have hclo : clo (Syn L) := by
    refine ⟨Syn_tz L, fun A => Syn_can, fun A hs e i hi => ?_, fun A hs e => ?_, fun A hs e => ?_⟩
    · rcases Syn_inv hs with rfl | hs | hs
      · exact absurd e (by decide)
      · exact toS _ (h7 A i hs e hi)
      · rcases hs with ⟨e', -⟩ | ⟨-, -, c0, c1, c2, c3⟩
        · rw [e] at e'; exact absurd e' (by decide)
        · rcases (by omega : i = 0 ∨ i = 1 ∨ i = 2 ∨ i = 3) with rfl | rfl | rfl | rfl
          · exact c0
          · exact c1
          · exact c2
          · exact c3
    · rcases Syn_inv hs with rfl | hs | hs
      · exact absurd e (by decide)
      · exact toS _ (h6 A hs e)
      · rcases hs with ⟨e', -⟩ | ⟨-, -, c0, c1, c2, c3⟩
        · rw [e] at e'; exact absurd e' (by decide)
        · exact c1
    · rcases Syn_inv hs with rfl | hs | hs
      · exact absurd e (by decide)
      · refine ⟨toS _ (h5 A hs e), fun h0 => toS _ (h5' A hs e ?_)⟩
        obtain ⟨u, hu⟩ := hL A hs
        rcases hpt A u hu with rfl | hp
        · exact absurd e (by decide)
        · obtain ⟨v, hv, hv2⟩ := hp 0 (by decide)
          exact key (v + 1) v _ (by omega) hv2 h0
      · rcases hs with ⟨e', -⟩ | ⟨-, -, c0, c1, c2, c3⟩
        · rw [e] at e'; exact absurd e' (by decide)
        · exact ⟨c1, fun _ => c2⟩
  exact key (u + 1) u A (by omega) hA (hK (Syn L) hclo (fun x hx => toS x (hG x hx)))
theorem nodup_le : ∀ (N : Nat) (L : List Nat), L.Nodup → (∀ u, u ∈ L → u < N) → L.length ≤ N
  | 0, L, _, h => by
    cases L with
    | nil => exact Nat.le_refl _
    | cons a l => exact absurd (h a List.mem_cons_self) (by omega)
  | N + 1, L, hn, h => by
    by_cases c : N ∈ L
    · have h1 : (L.erase N).length = L.length - 1 := List.length_erase_of_mem c
      have := nodup_le N (L.erase N) (hn.erase N) (fun u hu => by
        have h2 := h u (List.mem_of_mem_erase hu)
        have h3 : u ≠ N := fun e => by subst e; exact hn.not_mem_erase hu
        omega)
      omega
    · exact Nat.le_succ_of_le (nodup_le N L hn (fun u hu => by
        have h2 := h u hu
        have h3 : u ≠ N := fun e => c (e ▸ hu)
        omega))
/-- the last use of v below n: use e is part e % 4 of term e / 4 -/
def ul (fp : Nat → Nat) (v : Nat) : Nat → Nat
  | 0 => 0
  | n + 1 => if 4 ≤ n ∧ fp n = v then n else ul fp v n
theorem ul_lt (fp : Nat → Nat) (v : Nat) : ∀ n, ul fp v n ≤ n ∧ (0 < n → ul fp v n < n)
  | 0 => ⟨Nat.le_refl _, fun h => h⟩
  | n + 1 => by
    unfold ul
    have := ul_lt fp v n
    split <;> omega
theorem ul_ge (fp : Nat → Nat) (v : Nat) : ∀ n, 0 < ul fp v n → 4 ≤ ul fp v n ∧ fp (ul fp v n) = v
  | 0, h => absurd h (by simp [ul])
  | n + 1, h => by
    unfold ul at h ⊢
    split
    · rename_i c; exact c
    · rename_i c
      rw [if_neg c] at h
      exact ul_ge fp v n h
/-- between the last use below n and n there is none -/
theorem ul_no (fp : Nat → Nat) (v : Nat) : ∀ n e, ul fp v n < e → e < n → 4 ≤ e → fp e ≠ v
  | 0, e, _, h, _ => by omega
  | n + 1, e, h1, h2, h4 => by
    unfold ul at h1
    split at h1
    · omega
    · rename_i c
      by_cases q : e = n
      · subst q
        exact fun w => c ⟨h4, w⟩
      · exact ul_no fp v n e h1 (by omega) h4
theorem ul_congr {fp gp : Nat → Nat} {v : Nat} : ∀ {n : Nat}, (∀ e, e < n → fp e = gp e) → ul fp v n = ul gp v n
  | 0, _ => rfl
  | n + 1, h => by
    unfold ul
    rw [ul_congr (fun e he => h e (by omega)), h n (by omega)]
