/-! Secrets: single steps -/
section SI
variable {V : Nat → Prop} {Z : Tm → Prop} {GF : Nat → Nat → Nat → Int32 → Bool → Prop} {PF : Tm → Int32 → Tm → Prop} {DL : List (Int32 × Int32)} {dev : Nat → DV} {sto : Nat → ST} {G : Tm → Prop} {ls : List RL}
theorem SI_draw (E : List (Int32 × Int32)) (h : SI V Z GF PF DL dev sto G ls) : SI V Z GF PF (DL ++ E) dev sto G ls := by
  obtain ⟨⟨a1, a2, a3⟩, ⟨b1, b2⟩, c1, c2⟩ := h
  have hl : DL.length ≤ (DL ++ E).length := by rw [List.length_append]; omega
  refine ⟨⟨a1, fun m hm h3 => a2 m (by omega) h3, a3⟩, ⟨fun X e c q => ?_, b2⟩, c1, c2⟩
  obtain ⟨⟨m, d, p, q1, q2⟩, q3, ⟨m', v, q4, q5⟩, q6⟩ := b1 X e c q
  exact ⟨⟨m, d, p, by omega, q2⟩, q3, ⟨m', v, by omega, q5⟩, q6⟩
theorem SI_give {G' : Tm → Prop} (h : SI V Z GF PF DL dev sto G ls) (hG : ∀ y, G' y → G y ∨ UU V Z GF PF ls y) : SI V Z GF PF DL dev sto G' ls := ⟨h.1, h.2.1, fun y hy => (hG y hy).elim (h.2.2.1 y) (fun z => z), h.2.2.2⟩
theorem SI_dev {s : Nat} {D : DV} {S : ST} (h : SI V Z GF PF DL dev sto G ls) (hs : s < 6) (h1 : V s → DVS V Z GF (UU V Z GF PF ls) s D) (h2 : ¬ V s → DPU (UU V Z GF PF ls) D ∧ ∀ e, e ∈ S.2.2.1 → UU V Z GF PF ls e.1 ∧ UU V Z GF PF ls e.2) (h3 : V s → ∀ X e c, PF X e c → ∀ g, g < 4 → (dme D g).2.2.2.1 ≠ 0 → ¬ upc (dme D g).2.2.2.2.1 c) : SI V Z GF PF DL (fset dev s D) (fset sto s S) G ls := by
  obtain ⟨a, ⟨b1, b2⟩, c1, c2⟩ := h
  refine ⟨a, ⟨fun X e c q => ?_, b2⟩, c1, fun q hq => ?_⟩
  · obtain ⟨q1, q2, q3, q4⟩ := b1 X e c q
    refine ⟨q1, q2, q3, fun s' hs' g hg hz => ?_⟩
    by_cases z : s' = s
    · subst z
      rw [fset_same] at hz ⊢
      exact h3 hs' X e c q g hg hz
    · rw [fset_ne z] at hz ⊢
      exact q4 s' hs' g hg hz
  · by_cases z : q = s
    · subst z
      rw [fset_same, fset_same]
      exact ⟨h1, h2⟩
    · rw [fset_ne z, fset_ne z]
      exact c2 q hq
theorem SI_sto {s : Nat} {S : ST} (h : SI V Z GF PF DL dev sto G ls) (hs : s < 6) (h2 : ¬ V s → ∀ e, e ∈ S.2.2.1 → UU V Z GF PF ls e.1 ∧ UU V Z GF PF ls e.2) : SI V Z GF PF DL dev (fset sto s S) G ls := by
  obtain ⟨a, b, c1, c2⟩ := h
  refine ⟨a, b, c1, fun q hq => ⟨(c2 q hq).1, fun hv => ⟨((c2 q hq).2 hv).1, ?_⟩⟩⟩
  by_cases z : q = s
  · subst z
    rw [fset_same]
    exact h2 hv
  · rw [fset_ne z]
    exact ((c2 q hq).2 hv).2
/-- a chain, from y on, or a letter, is given away -/
theorem SI_pub {y : Tm} {m j0 s : Nat} (h : SI V Z GF PF DL dev sto G ls) (hV : ∀ p, V p → p < 6) (hy : y = c7 j0 (Tsec (nI m) (nI s) 0)) (h6 : 6 ≤ m) (hm : m < DL.length) (hd : DL.length ≤ 2960) (hP : ∀ X e c, PF X e c → ¬ upc y c) (hk : ∀ r, r ∈ ls → kd r.1 = 1) (hl : ∀ r, r ∈ ls → inV V r → r.1 ≠ Tsec (nI m) (nI s) 0) (hc : ∀ q, V q → ∀ g, g < 4 → insV V (dme (dev q) g) → ∀ j, ¬ upc y (c7 j (dme (dev q) g).2.2.2.2.1)) : SI V (fun t => Z t ∧ ¬ upc y t) GF PF DL dev sto G ls := by
  obtain ⟨⟨⟨a1, a2, a3⟩, a4, a5⟩, ⟨b1, b2⟩, c1, c2⟩ := h
  have hsec : ∀ t, kd t = 1 → upc y t → t = Tsec (nI m) (nI s) 0 := fun t ht q => by
    obtain ⟨k, q⟩ := q
    rw [hy, c7_add] at q
    exact (c7_inj (j := 0) ht rfl q).2
  have hU : ∀ t, UU V Z GF PF ls t → UU V (fun t => Z t ∧ ¬ upc y t) GF PF ls t := fun t q => UU_more (fun _ z => z.1) (fun _ _ _ _ _ z => z) (fun _ _ _ z => z) (lsy_rfl ls) q
  refine ⟨⟨⟨fun a z => ⟨a1 a z.1, fun q => z.2 (upc_succ q)⟩, fun t ht => ⟨a2 t ht, fun q => ?_⟩, fun n d p z => a3 n d p z.1⟩, fun m' hm' h3 v hv j p => ⟨a4 m' hm' h3 v hv j p, fun q => ?_⟩, fun r hr hi => ⟨a5 r hr hi, fun q => hl r hr hi (hsec r.1 (hk r hr) q)⟩⟩, ⟨fun X e c q => ?_, b2⟩, fun t ht => hU t (c1 t ht), fun q hq => ⟨fun hv => ?_, fun hv => ?_⟩⟩
  · obtain ⟨p, hp, ht⟩ := ht
    have := hV p hp
    have ht1 : kd t = 1 := by rcases ht with rfl | ⟨m, rfl⟩ <;> rfl
    have e := hsec t ht1 q
    rcases ht with rfl | ⟨m', rfl⟩
    · have := (Tsec_inj (by omega) (by omega) e).1
      omega
    · obtain ⟨e, -⟩ := tn_inj e
      injection e with _ e
      injection e with e1 e
      injection e with e2 e
      injection e with e3 e
      exact absurd e3 (by decide)
  · obtain ⟨k, q⟩ := q
    rw [hy, c7_add] at q
    have := (c7_inj rfl rfl q).2
    have := (Tsec_inj (by omega) (by omega) this).1
    omega
  · obtain ⟨q1, q2, q3⟩ := b1 X e c q
    exact ⟨q1, ⟨q2, hP X e c q⟩, q3⟩
  · exact DVS_more hU (fun _ _ _ _ _ z => z) (fun g hg hi z j => ⟨z j, hc q hv g hg hi j⟩) (fun g hg d e o z => Or.inl z) ((c2 q hq).1 hv)
  · exact ⟨DPU_imp hU ((c2 q hq).2 hv).1, fun e he => ⟨hU _ (((c2 q hq).2 hv).2 e he).1, hU _ (((c2 q hq).2 hv).2 e he).2⟩⟩
/-- the letters are written down anew -/
theorem SI_ls {ls' : List RL} (h : SI V Z GF PF DL dev sto G ls) (hl : lsy ls ls') (hz : ∀ r, r ∈ ls' → inV V r → Z r.1) : SI V Z GF PF DL dev sto G ls' := by
  obtain ⟨⟨a1, a4, a5⟩, b, c1, c2⟩ := h
  have hU : ∀ t, UU V Z GF PF ls t → UU V Z GF PF ls' t := fun t q => UU_more (fun _ z => z) (fun _ _ _ _ _ z => z) (fun _ _ _ z => z) hl q
  refine ⟨⟨a1, a4, hz⟩, b, fun t ht => hU t (c1 t ht), fun q hq => ⟨fun hv => ?_, fun hv => ?_⟩⟩
  · exact DVS_more hU (fun _ _ _ _ _ z => z) (fun g hg hi z => z) (fun g hg d e o z => Or.inl z) ((c2 q hq).1 hv)
  · exact ⟨DPU_imp hU ((c2 q hq).2 hv).1, fun e he => ⟨hU _ (((c2 q hq).2 hv).2 e he).1, hU _ (((c2 q hq).2 hv).2 e he).2⟩⟩
theorem SI_let {r : RL} (h : SI V Z GF PF DL dev sto G ls) (hr : inV V r → Z r.1) : SI V Z GF PF DL dev sto G (ls ++ [r]) := SI_ls h (lsy_app ls r) (fun x hx hi => by
  rcases List.mem_append.mp hx with z | z
  · exact h.1.2.2 x z hi
  · rw [List.mem_singleton.mp z] at hi ⊢; exact hr hi)
/-- gifts are noted -/
theorem SI_gf {N : Nat → Nat → Nat → Int32 → Bool → Prop} (h : SI V Z GF PF DL dev sto G ls) (hc : ∀ s d g e o, N s d g e o → V s → g < 4 → ∃ k k', e = nI k ∧ (dme (dev s) g).2.2.2.1 = nI k' ∧ k ≤ k' ∧ k' ≤ 100 ∧ (k = k' → hbit (dme (dev s) g).2.2.2.2.2.2.2.1 (nI d) = true)) (hf : ∀ s d g e o o', N s d g e o → N s d g e o' ∨ GF s d g e o' → o = o') : SI V Z (fun s d g e o => GF s d g e o ∨ N s d g e o) PF DL dev sto G ls := by
  obtain ⟨a, ⟨b1, b2, b3⟩, c1, c2⟩ := h
  have hU : ∀ t, UU V Z GF PF ls t → UU V Z (fun s d g e o => GF s d g e o ∨ N s d g e o) PF ls t := fun t q => UU_more (fun _ z => z) (fun _ _ _ _ _ z => Or.inl z) (fun _ _ _ z => z) (lsy_rfl ls) q
  refine ⟨a, ⟨b1, b2, fun s d g e o o' q q' => ?_⟩, fun t ht => hU t (c1 t ht), fun q hq => ⟨fun hv => ?_, fun hv => ?_⟩⟩
  · rcases q with q | q
    · rcases q' with q' | q'
      · exact b3 s d g e o o' q q'
      · exact (hf s d g e o' o q' (Or.inr q)).symm
    · exact hf s d g e o o' q q'.symm
  · exact DVS_more hU (fun _ _ _ _ _ z => Or.inl z) (fun g hg hi z => z) (fun g hg d e o z => z.imp (fun w => w) (fun w => hc q d g e o w hv hg)) ((c2 q hq).1 hv)
  · exact ⟨DPU_imp hU ((c2 q hq).2 hv).1, fun e he => ⟨hU _ (((c2 q hq).2 hv).2 e he).1, hU _ (((c2 q hq).2 hv).2 e he).2⟩⟩
/-- a post is noted -/
theorem SI_pf {X0 c0 : Tm} {e0 : Int32} (h : SI V Z GF PF DL dev sto G ls) (h1 : ∃ m d p, m < DL.length ∧ X0 = Tsec (nI m) d p) (h2 : Z c0) (h3 : ∃ m v, m < DL.length ∧ upc (Tsec (nI m) (nI v) 0) c0) (h4 : ∀ s, V s → ∀ g, g < 4 → (dme (dev s) g).2.2.2.1 ≠ 0 → ¬ upc (dme (dev s) g).2.2.2.2.1 c0) (h5 : ∀ e c, ¬ PF X0 e c) : SI V Z GF (fun X e c => PF X e c ∨ (X = X0 ∧ e = e0 ∧ c = c0)) DL dev sto G ls := by
  obtain ⟨a, ⟨b1, b2, b3⟩, c1, c2⟩ := h
  have hU : ∀ t, UU V Z GF PF ls t → UU V Z GF (fun X e c => PF X e c ∨ (X = X0 ∧ e = e0 ∧ c = c0)) ls t := fun t q => UU_more (fun _ z => z) (fun _ _ _ _ _ z => z) (fun _ _ _ z => Or.inl z) (lsy_rfl ls) q
  refine ⟨a, ⟨fun X e c q => ?_, fun X e c e' c' q q' => ?_, b3⟩, fun t ht => hU t (c1 t ht), fun q hq => ⟨fun hv => ?_, fun hv => ?_⟩⟩
  · rcases q with q | ⟨rfl, rfl, rfl⟩
    · exact b1 X e c q
    · exact ⟨h1, h2, h3, h4⟩
  · rcases q with q | ⟨rfl, rfl, rfl⟩
    · rcases q' with q' | ⟨rfl, rfl, rfl⟩
      · exact b2 X e c e' c' q q'
      · exact absurd q (h5 e c)
    · rcases q' with q' | ⟨-, rfl, -⟩
      · exact absurd q' (h5 e' c')
      · rfl
  · exact DVS_more hU (fun _ _ _ _ _ z => z) (fun g hg hi z => z) (fun g hg d e o z => Or.inl z) ((c2 q hq).1 hv)
  · exact ⟨DPU_imp hU ((c2 q hq).2 hv).1, fun e he => ⟨hU _ (((c2 q hq).2 hv).2 e he).1, hU _ (((c2 q hq).2 hv).2 e he).2⟩⟩
end SI
/-! What lies in a store may be known where the device may -/
theorem en_any_U {U : Tm → Prop} (hz : U tz) {A : Tm} (h : U A) : ∀ e, e ∈ en_any A → U e.1 ∧ U e.2 := fun e he => by
  unfold en_any at he
  split at he
  · cases he
  · rw [List.mem_singleton.mp he]; exact ⟨h, hz⟩
