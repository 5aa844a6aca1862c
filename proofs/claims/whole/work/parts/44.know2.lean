/-! Knowledge: its state -/
/-- Knowledge at k: the terms L are known, in this order; sp of them are spread; uses below e0 are linked (fp: whose use it is); N terms -/
def KK (B : bm_H) (k a kc kl rk : Nat) (L : List Nat) (sp ln e0 N : Nat) (fp : Nat → Nat) : Prop := kn_ok B k a kc kl rk L.length sp ln ∧ (∀ i u, L[i]? = some u → bm_AI B kl i = nI u) ∧ (L.Nodup ∧ ∀ u, u ∈ L → 0 < u ∧ u < N) ∧ (∀ u, u < rk → (¬ bm_AI B kc (u * 6) = 0 ↔ u ∈ L)) ∧ (∀ v, 0 < v → v < rk → bm_AI B kc (v * 6 + 1) = nI (ul fp v e0)) ∧ (∀ e, 4 ≤ e → e < e0 → fp e ≠ 0 → bm_AI B kc (e / 4 * 6 + (2 + e % 4)) = nI (ul fp (fp e) e)) ∧ (1 ≤ N ∧ N ≤ rk)
def kx (k kc kl : Nat) (x : Nat) : Prop := x = k ∨ x = kc ∨ x = kl
section KN
variable {sc : tm_X} {d : Nat} {B B' : bm_H} {k a kc kl rk sp ln e0 N ca ba da rm dr : Nat} {L : List Nat} {fp : Nat → Nat} {T : List Tm}
theorem KK_len (h : KK B k a kc kl rk L sp ln e0 N fp) : L.length < N := by
  obtain ⟨-, -, ⟨h1, h2⟩, -, -, -, h3, -⟩ := h
  have h0 : 0 ∉ L := fun w => absurd (h2 0 w).1 (by decide)
  have := nodup_le N (0 :: L) (List.nodup_cons.mpr ⟨h0, h1⟩) (fun u hu => by
    rcases List.mem_cons.mp hu with rfl | hu
    · omega
    · exact (h2 u hu).2)
  simp at this
  omega
theorem KK_rk (h : KK B k a kc kl rk L sp ln e0 N fp) : rk ≤ 65536 ∧ ln ≤ rk ∧ 1 ≤ ln := ⟨h.1.2.2.2.2.1.2.2.1, h.1.2.2.2.2.1.2.1, h.1.2.2.2.2.1.1⟩
theorem KK_is (h : KK B k a kc kl rk L sp ln e0 N fp) {u : Nat} (hu : u < rk) : kn_is B kc ln (nI u) = true ↔ (u = 0 ∨ (u < ln ∧ u ∈ L)) := by
  have hr := KK_rk h
  unfold kn_is
  rw [nI_clamp (by omega)]
  by_cases c0 : u = 0
  · subst c0; simp [nI]
  · have e0 : ¬ nI u = 0 := nI_ne0 (by omega) (by omega)
    have e1 : ¬ nI u ≤ 0 := nI_nle (by omega) (by omega)
    by_cases c1 : u < ln
    · have e2 : ¬ nI ln ≤ nI u := nI_ge c1 (by omega)
      have e3 := h.2.2.2.1 u hu
      simp only [decide_eq_false e0, decide_eq_false e1, decide_eq_false e2, Bool.false_or, Bool.not_false, Bool.true_and, Bool.not_eq_true', decide_eq_false_iff_not]
      rw [e3]
      simp [c0, c1]
    · have e2 : nI ln ≤ nI u := nI_le (by omega) (by omega)
      simp [e0, e2, c0, c1]
theorem kn_ok_learn (h : kn_ok B k a kc kl rk L.length sp ln) (hl : L.length < rk) (u : Nat) : kn_ok (kn_add B k kc kl u L.length) k a kc kl rk (L ++ [u]).length sp ln := by
  obtain ⟨h1, h2, h3, ⟨h4, h5, h6⟩, ⟨h7, h8, h9, h10⟩, h11⟩ := h
  refine ⟨h1, h2, h3, ⟨?_, h5, h6⟩, ⟨h7, h8, h9, by simp; omega⟩, h11⟩
  show (if 3 = 3 ∧ 3 = 3 ∧ k = k then nI (L.length + 1) else _) = _
  rw [if_pos ⟨rfl, rfl, rfl⟩]
  simp
theorem KK_add (h : KK B k a kc kl rk L sp ln e0 N fp) {u : Nat} (u0 : 0 < u) (hu : u < N) (hn : u ∉ L) : KK (kn_add B k kc kl u L.length) k a kc kl rk (L ++ [u]) sp ln e0 N fp := by
  have hlen := KK_len h
  obtain ⟨h1, h2, ⟨h3, h4⟩, h5, h6, h7, h8, h9⟩ := h
  have hne : kc ≠ kl := h1.2.2.2.2.2
  have eL : ∀ i, bm_AI (kn_add B k kc kl u L.length) kl i = if i = L.length then nI u else bm_AI B kl i := fun i => by
    show (if kl = kl ∧ i = L.length then nI u else if kl = kc ∧ i = u * 6 then 1 else bm_AI B kl i) = _
    by_cases c : i = L.length
    · rw [if_pos ⟨rfl, c⟩, if_pos c]
    · rw [if_neg (fun w => c w.2), if_neg c, if_neg (fun w => hne w.1.symm)]
  have eC : ∀ i, bm_AI (kn_add B k kc kl u L.length) kc i = if i = u * 6 then 1 else bm_AI B kc i := fun i => by
    show (if kc = kl ∧ i = L.length then nI u else if kc = kc ∧ i = u * 6 then 1 else bm_AI B kc i) = _
    rw [if_neg (fun w => hne w.1)]
    by_cases c : i = u * 6
    · rw [if_pos ⟨rfl, c⟩, if_pos c]
    · rw [if_neg (fun w => c w.2), if_neg c]
  refine ⟨kn_ok_learn h1 (by omega) u, fun i v hv => ?_, ⟨List.nodup_append.mpr ⟨h3, by simp, fun x hx y hy => by rw [List.mem_singleton] at hy; subst hy; exact fun e => hn (e ▸ hx)⟩, fun v hv => ?_⟩, fun v hv => ?_, fun v v0 hv => ?_, fun e he1 he2 he3 => ?_, h8, h9⟩
  · rw [eL]
    by_cases c : i = L.length
    · subst c
      rw [if_pos rfl]
      simp at hv
      rw [hv]
    · rw [if_neg c]
      have hi := (List.getElem?_eq_some_iff.mp hv).1
      simp at hi
      rw [List.getElem?_append_left (by omega)] at hv
      exact h2 i v hv
  · rcases List.mem_append.mp hv with hv | hv
    · exact h4 v hv
    · rw [List.mem_singleton] at hv; subst hv; exact ⟨u0, hu⟩
  · rw [eC]
    by_cases c : v = u
    · subst c
      rw [if_pos rfl]
      simp
    · rw [if_neg (by omega), h5 v hv]
      simp [c]
  · rw [eC, if_neg (by omega)]
    exact h6 v v0 hv
  · rw [eC, if_neg (by omega)]
    exact h7 e he1 he2 he3
theorem kn_add_fz (B : bm_H) (k kc kl u n : Nat) : fz (kx k kc kl) B (kn_add B k kc kl u n) := ⟨fr_trans (fr_trans (fr_mono (fun x h => Or.inr (Or.inl h)) (fr_setI B kc (u * 6) 1)) (fr_mono (fun x h => Or.inr (Or.inr h)) (fr_setI _ kl n (nI u)))) (fr_mono (fun x h => Or.inl h) (fr_putI _ 3 3 k _)), rfl, rfl⟩
/-- learning a term that is there -/
theorem t_learn {u : Nat} {Q : bm_H → Prop} (hT : te_ok B a ca ba da rm N dr) (h : KK B k a kc kl rk L sp ln e0 N fp) (hu : u < N) (kk : ∀ B' L', KK B' k a kc kl rk L' sp ln e0 N fp → fz (kx k kc kl) B B' → (L' = L ∨ (L' = L ++ [u] ∧ 0 < u)) → (u = 0 ∨ u ∈ L') → Q B') : bm_Gv sc d 26 [.ref k, .int (nI u)] B Q := by
  have hr := KK_rk h
  have hlen := KK_len h
  have hN := h.2.2.2.2.2.2
  refine k_Kn_learn hT h.1 hN.2 (by omega) (fun w => ?_) (fun v e v0 hv hf => ?_) (fun v e v0 hv hf => ?_)
  · have : u = 0 := by
      rcases w with w | w
      · rcases Nat.eq_zero_or_pos u with q | q
        · exact q
        · exact absurd w (nI_nle q (by omega))
      · exact absurd w (nI_ge hu (by omega))
    exact kk B L h (fz_rfl _ _) (Or.inl rfl) (Or.inl this)
  · have := (nI_eq (by omega) (by omega)).mp e
    subst this
    exact kk B L h (fz_rfl _ _) (Or.inl rfl) (Or.inr ((h.2.2.2.1 u (by omega)).mp hf))
  · have := (nI_eq (by omega) (by omega)).mp e
    subst this
    have hn : u ∉ L := fun w => ((h.2.2.2.1 u (by omega)).mpr w) hf
    exact kk _ (L ++ [u]) (KK_add h v0 hu hn) (kn_add_fz B k kc kl u L.length) (Or.inr ⟨rfl, v0⟩) (Or.inr (by simp))
theorem kk_isKnown {u : Nat} {Q : Int32 → bm_H → Prop} (h : KK B k a kc kl rk L sp ln e0 N fp) (hu : u < rk) (kt : (u = 0 ∨ (u < ln ∧ u ∈ L)) → Q 1 B) (kf : ¬ (u = 0 ∨ (u < ln ∧ u ∈ L)) → Q 0 B) : bm_Gi sc d 25 [.ref k, .int (nI u)] B Q := by
  refine k_Kn_isKnown h.1 ?_
  by_cases c : kn_is B kc ln (nI u) = true
  · rw [c]; exact kt ((KK_is h hu).mp c)
  · rw [Bool.eq_false_iff.mpr c]; exact kf (fun w => c ((KK_is h hu).mpr w))
/-- the terms that are known -/
def KL (T : List Tm) (L : List Nat) (x : Tm) : Prop := x = tz ∨ ∃ v, v ∈ L ∧ T[v]? = some x
/-- fp tells the parts of the terms T -/
def pp_ok (T : List Tm) (fp : Nat → Nat) : Prop := ∀ u A i, 0 < u → T[u]? = some A → i < 4 → fp (u * 4 + i) < u ∧ T[fp (u * 4 + i)]? = some (pt A i)
theorem TI_pp (hT : TI B a ca ba da rm dr T) {u i : Nat} {A : Tm} (hu : 0 < u) (hA : T[u]? = some A) (hi : i < 4) (hp : pp_ok T fp) : te_gt2 B ca T.length (nI u) (nI i) 6 = nI (fp (u * 4 + i)) := TI_inj hT (TI_pt hT ⟨u, rfl, hA⟩ hi) ⟨_, rfl, (hp u A i hu hA hi).2⟩
theorem KL_is (hT : TI B a ca ba da rm dr T) (h : KK B k a kc kl rk L sp ln e0 N fp) {u : Nat} {x : Tm} (hx : T[u]? = some x) (hu : u < ln) : kn_is B kc ln (nI u) = true ↔ KL T L x := by
  have hr := KK_rk h
  rw [KK_is h (by omega)]
  constructor
  · rintro (e | ⟨-, e⟩)
    · subst e
      rw [hT.2.2.1.1] at hx
      cases hx
      exact Or.inl rfl
    · exact Or.inr ⟨u, e, hx⟩
  · rintro (e | ⟨v, hv, hvx⟩)
    · subst e
      exact Or.inl (TI_inj0 hT (u + 1) u 0 tz (by omega) hx hT.2.2.1.1)
    · have := TI_inj0 hT (u + 1) u v x (by omega) hx hvx
      subst this
      exact Or.inr ⟨hu, hv⟩
theorem kk_canBeMade {u : Nat} {A : Tm} {Q : Int32 → bm_H → Prop} (hT : TI B a ca ba da rm dr T) (h : KK B k a kc kl rk L sp ln e0 N fp) (hp : pp_ok T fp) (hu : 0 < u) (hul : u ≤ ln) (hA : T[u]? = some A) (kt : can (KL T L) A → Q 1 B) (kf : ¬ can (KL T L) A → Q 0 B) : bm_Gi sc (d + 1) 24 [.ref k, .int (nI u)] B Q := by
  refine k_Kn_canBeMade hT.1 h.1 ?_
  have hr := KK_rk h
  have g : ∀ i, i < 4 → (kn_is B kc ln (te_gt2 B ca T.length (nI u) (nI i) 6) = true ↔ KL T L (pt A i)) := fun i hi => by
    rw [TI_pp hT hu hA hi hp]
    have := hp u A i hu hA hi
    exact KL_is hT h this.2 (by omega)
  have g0 : kn_is B kc ln (te_gt2 B ca T.length (nI u) 0 6) = true ↔ KL T L (pt A 0) := g 0 (by decide)
  have g1 : kn_is B kc ln (te_gt2 B ca T.length (nI u) 1 6) = true ↔ KL T L (pt A 1) := g 1 (by decide)
  have g2 : kn_is B kc ln (te_gt2 B ca T.length (nI u) 2 6) = true ↔ KL T L (pt A 2) := g 2 (by decide)
  have g3 : kn_is B kc ln (te_gt2 B ca T.length (nI u) 3 6) = true ↔ KL T L (pt A 3) := g 3 (by decide)
  have e : kn_can B ca T.length kc ln (nI u) = true ↔ can (KL T L) A := by
    unfold kn_can can
    rw [TI_kd hT ⟨u, rfl, hA⟩]
    by_cases c : kd A = 3
    · rw [if_pos c]
      simp only [Bool.or_eq_true, Bool.and_eq_true, g0, g1, g2, g3, c, true_and, ne_eq, not_true_eq_false, false_and, or_false]
    · rw [if_neg c]
      simp only [Bool.and_eq_true, Bool.not_eq_true', decide_eq_false_iff_not, g0, g1, g2, g3, c, false_and, false_or, ne_eq, not_false_eq_true, true_and, and_assoc]
  by_cases c : kn_can B ca T.length kc ln (nI u) = true
  · rw [c]; exact kt (e.mp c)
  · rw [Bool.eq_false_iff.mpr c]; exact kf (fun w => c (e.mpr w))
/-- what K has of L it has of L' -/
def snd (T : List Tm) (G : Tm → Prop) (L : List Nat) : Prop := ∀ v, v ∈ L → ∀ x, T[v]? = some x → Kn G x
theorem snd_KL {G : Tm → Prop} (h : snd T G L) {x : Tm} (hx : KL T L x) : Kn G x := by
  rcases hx with rfl | ⟨v, hv, hx⟩
  · exact (Kn_clo G).1
  · exact h v hv x hx
theorem snd_add {G : Tm → Prop} (h : snd T G L) {u : Nat} {L' : List Nat} (hL : L' = L ∨ (L' = L ++ [u] ∧ 0 < u)) (hu : ∀ x, T[u]? = some x → Kn G x) : snd T G L' := by
  rcases hL with rfl | ⟨rfl, -⟩
  · exact h
  · intro v hv x hx
    rcases List.mem_append.mp hv with hv | hv
    · exact h v hv x hx
    · rw [List.mem_singleton] at hv; subst hv; exact hu x hx
theorem sub_add {u : Nat} {L' : List Nat} (hL : L' = L ∨ (L' = L ++ [u] ∧ 0 < u)) : L <+: L' := by
  rcases hL with rfl | ⟨rfl, -⟩
  · exact List.prefix_refl _
  · exact List.prefix_append _ _
theorem KL_mono {L' : List Nat} (hL : L <+: L') {x : Tm} (h : KL T L x) : KL T L' x := by
  rcases h with rfl | ⟨v, hv, hx⟩
  · exact Or.inl rfl
  · exact Or.inr ⟨v, hL.subset hv, hx⟩
theorem KL_of (hT : TI B a ca ba da rm dr T) {u : Nat} {x : Tm} (hx : T[u]? = some x) (h : u = 0 ∨ u ∈ L) : KL T L x := by
  rcases h with rfl | h
  · rw [hT.2.2.1.1] at hx; cases hx; exact Or.inl rfl
  · exact Or.inr ⟨u, h, hx⟩
end KN
