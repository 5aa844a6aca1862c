/-! Knowledge: linking, spreading -/
/-- P is spread: what its terms open, and what can be made of them, is in L (N terms) -/
def clP (T : List Tm) (P L : List Nat) (N : Nat) : Prop := (∀ u A, 0 < u → u < N → T[u]? = some A → can (KL T P) A → u ∈ L) ∧ (∀ u A, u ∈ P → T[u]? = some A → kd A = 7 → ∀ i, i < 4 → KL T L (pt A i)) ∧ (∀ u A, u ∈ P → T[u]? = some A → kd A = 6 → KL T L (pt A 1)) ∧ (∀ u A, u ∈ P → T[u]? = some A → kd A = 5 → KL T L (pt A 1)) ∧ (∀ u A, u ∈ P → T[u]? = some A → kd A = 5 → KL T P (pt A 0) → KL T L (pt A 2))
theorem clP_mono {T : List Tm} {P L L' : List Nat} {N : Nat} (h : clP T P L N) (hL : L <+: L') : clP T P L' N := ⟨fun u A u0 hu hA c => hL.subset (h.1 u A u0 hu hA c), fun u A hu hA e i hi => KL_mono hL (h.2.1 u A hu hA e i hi), fun u A hu hA e => KL_mono hL (h.2.2.1 u A hu hA e), fun u A hu hA e => KL_mono hL (h.2.2.2.1 u A hu hA e), fun u A hu hA e q => KL_mono hL (h.2.2.2.2 u A hu hA e q)⟩
theorem KL_snoc {T : List Tm} {P : List Nat} {t : Nat} {U x : Tm} (hU : T[t]? = some U) (h : KL T (P ++ [t]) x) : KL T P x ∨ x = U := by
  rcases h with rfl | ⟨v, hv, hx⟩
  · exact Or.inl (Or.inl rfl)
  · rcases List.mem_append.mp hv with hv | hv
    · exact Or.inl (Or.inr ⟨v, hv, hx⟩)
    · rw [List.mem_singleton] at hv
      subst hv
      rw [hU] at hx
      exact Or.inr (Option.some.inj hx).symm
section KS
variable {sc : tm_X} {d : Nat} {B B' : bm_H} {k a kc kl rk sp ln e0 N ca ba da rm dr : Nat} {L : List Nat} {fp : Nat → Nat} {T : List Tm}
/-- one more term is spread -/
theorem clP_step (hT : TI B a ca ba da rm dr T) (hp : pp_ok T fp) {P L L1 L2 : List Nat} {t : Nat} {U : Tm} (h : clP T P L T.length) (hU : T[t]? = some U) (t0 : 0 < t) (h1 : L <+: L1) (h2 : L1 <+: L2) (hP : ∀ x, x ∈ P ++ [t] → x ∈ L) (o7 : kd U = 7 → ∀ i, i < 4 → KL T L1 (pt U i)) (o6 : kd U = 6 → KL T L1 (pt U 1)) (o5 : kd U = 5 → KL T L1 (pt U 1) ∧ (KL T L (pt U 0) → KL T L1 (pt U 2))) (hup : ∀ e, e < T.length * 4 → 4 ≤ e → fp e = t → up T L1 U e L2) : clP T (P ++ [t]) L2 T.length := by
  have h3 := h1.trans h2
  have hKP : ∀ x, KL T (P ++ [t]) x → KL T L x := fun x hx => by
    rcases hx with rfl | ⟨v, hv, hx⟩
    · exact Or.inl rfl
    · exact Or.inr ⟨v, hP v hv, hx⟩
  have hmem : ∀ {u : Nat} {A : Tm}, u ∈ P ++ [t] → T[u]? = some A → u ∈ P ∨ (u = t ∧ A = U) := fun {u A} hu hA => by
    rcases List.mem_append.mp hu with hu | hu
    · exact Or.inl hu
    · rw [List.mem_singleton] at hu
      subst hu
      rw [hU] at hA
      exact Or.inr ⟨rfl, (Option.some.inj hA).symm⟩
  have huse : ∀ {u i : Nat} {A : Tm}, 0 < u → T[u]? = some A → i < 4 → pt A i = U → up T L1 U (u * 4 + i) L2 ∧ (u * 4 + i) / 4 = u := fun {u i A} u0 hA hi e => by
    have hlt := tv_lt hA
    obtain ⟨q1, q2⟩ := hp u A i u0 hA hi
    refine ⟨hup (u * 4 + i) (by omega) (by omega) ?_, by omega⟩
    exact TI_inj0 hT _ _ t U (Nat.lt_succ_self _) (e ▸ q2) hU
  refine ⟨fun u A u0 hu hA c => ?_, fun u A hu hA e i hi => ?_, fun u A hu hA e => ?_, fun u A hu hA e => ?_, fun u A hu hA e q => ?_⟩
  · by_cases hex : ∃ i, i < 4 ∧ pt A i = U
    · obtain ⟨i, hi, e⟩ := hex
      obtain ⟨q1, q2⟩ := huse u0 hA hi e
      rw [q2.symm] at hA ⊢
      exact (q1 A hA).1 (can_mono (fun x hx => KL_mono h1 (hKP x hx)) c)
    · refine h3.subset (h.1 u A u0 hu hA ?_)
      have g : ∀ i, i < 4 → KL T (P ++ [t]) (pt A i) → KL T P (pt A i) := fun i hi q => (KL_snoc hU q).elim id (fun e => absurd ⟨i, hi, e⟩ hex)
      rcases c with ⟨e, c | c⟩ | ⟨e1, e2, c0, c1, c2, c3⟩
      · exact Or.inl ⟨e, Or.inl ⟨g 0 (by decide) c.1, g 3 (by decide) c.2⟩⟩
      · exact Or.inl ⟨e, Or.inr ⟨g 1 (by decide) c.1, g 2 (by decide) c.2⟩⟩
      · exact Or.inr ⟨e1, e2, g 0 (by decide) c0, g 1 (by decide) c1, g 2 (by decide) c2, g 3 (by decide) c3⟩
  · rcases hmem hu hA with hu | ⟨rfl, rfl⟩
    · exact KL_mono h3 (h.2.1 u A hu hA e i hi)
    · exact KL_mono h2 (o7 e i hi)
  · rcases hmem hu hA with hu | ⟨rfl, rfl⟩
    · exact KL_mono h3 (h.2.2.1 u A hu hA e)
    · exact KL_mono h2 (o6 e)
  · rcases hmem hu hA with hu | ⟨rfl, rfl⟩
    · exact KL_mono h3 (h.2.2.2.1 u A hu hA e)
    · exact KL_mono h2 (o5 e).1
  · rcases hmem hu hA with hu' | ⟨rfl, rfl⟩
    · rcases KL_snoc hU q with q | q
      · exact KL_mono h3 (h.2.2.2.2 u A hu' hA e q)
      · have u0 : 0 < u := Nat.pos_of_ne_zero (fun w => by subst w; rw [hT.2.2.1.1] at hA; cases hA; exact absurd e (by decide))
        obtain ⟨q1, q2⟩ := huse u0 hA (i := 0) (by decide) q
        have hA' := hA
        rw [q2.symm] at hA'
        exact (q1 A hA').2 (by rw [q2]; exact h1.subset (hP u hu)) e q
    · exact KL_mono h2 ((o5 e).2 (hKP _ q))
theorem ul_congr4 {fp gp : Nat → Nat} {v : Nat} : ∀ {n : Nat}, (∀ e, 4 ≤ e → e < n → fp e = gp e) → ul fp v n = ul gp v n
  | 0, _ => rfl
  | n + 1, h => by
    unfold ul
    rw [ul_congr4 (fun e h4 he => h e h4 (by omega))]
    by_cases c : 4 ≤ n
    · rw [h n c (by omega)]
    · rw [if_neg (fun w => c w.1), if_neg (fun w => c w.1)]
theorem ul_none {fp : Nat → Nat} {v : Nat} : ∀ {n : Nat}, (∀ e, 4 ≤ e → e < n → fp e ≠ v) → ul fp v n = 0
  | 0, _ => rfl
  | n + 1, h => by
    unfold ul
    rw [if_neg (fun w => h n w.1 (by omega) w.2), ul_none (fun e h4 he => h e h4 (by omega))]
theorem KK_fp {gp : Nat → Nat} (h : KK B k a kc kl rk L sp ln e0 N fp) (hg : ∀ e, 4 ≤ e → e < e0 → fp e = gp e) : KK B k a kc kl rk L sp ln e0 N gp := by
  obtain ⟨h1, h2, h3, h5, h6, h7, h8⟩ := h
  refine ⟨h1, h2, h3, h5, fun v v0 hv => ?_, fun e he1 he2 he3 => ?_, h8⟩
  · rw [h6 v v0 hv, ul_congr4 hg]
  · rw [h7 e he1 he2 (by rw [hg e he1 he2]; exact he3), hg e he1 he2, ul_congr4 (fun e' q1 q2 => hg e' q1 (by omega))]
theorem KK_N {N' : Nat} (h : KK B k a kc kl rk L sp ln e0 N fp) (h1 : N ≤ N') (h2 : N' ≤ rk) : KK B k a kc kl rk L sp ln e0 N' fp := ⟨h.1, h.2.1, ⟨h.2.2.1.1, fun u hu => ⟨(h.2.2.1.2 u hu).1, Nat.lt_of_lt_of_le (h.2.2.1.2 u hu).2 h1⟩⟩, h.2.2.2.1, h.2.2.2.2.1, h.2.2.2.2.2.1, Nat.le_trans h.2.2.2.2.2.2.1 h1, h2⟩
theorem pp_ex (hT : TI B a ca ba da rm dr T) : ∃ fp, pp_ok T fp := by
  have hl := TI_len hT
  refine ⟨fun e => (bm_AI B ca (e / 4 * 11 + 6 + e % 4)).toNatClampNeg, fun u A i u0 hA hi => ?_⟩
  have hlt := tv_lt hA
  obtain ⟨p0, p1, p2, p3, P0, P1, P2, P3, ⟨⟨a0, a1, a2, a3⟩, b0, b1, b2, b3⟩, ⟨c0, c1, c2, c3⟩, e⟩ := hT.2.2.1.2 u A u0 hA
  show (bm_AI B ca ((u * 4 + i) / 4 * 11 + 6 + (u * 4 + i) % 4)).toNatClampNeg < u ∧ T[(bm_AI B ca ((u * 4 + i) / 4 * 11 + 6 + (u * 4 + i) % 4)).toNatClampNeg]? = some (pt A i)
  rw [show (u * 4 + i) / 4 = u by omega, show (u * 4 + i) % 4 = i by omega, e]
  refine i4 (P := fun i => (bm_AI B ca (u * 11 + 6 + i)).toNatClampNeg < u ∧ T[(bm_AI B ca (u * 11 + 6 + i)).toNatClampNeg]? = some (pt (tn [bm_AI B ca (u * 11), bm_AI B ca (u * 11 + 1), bm_AI B ca (u * 11 + 2), bm_AI B ca (u * 11 + 3), bm_AI B ca (u * 11 + 4), bm_AI B ca (u * 11 + 5)] P0 P1 P2 P3) i)) ?_ ?_ ?_ ?_ i hi
  · rw [show bm_AI B ca (u * 11 + 6 + 0) = nI p0 from b0, nI_clamp (by omega)]; exact ⟨a0, c0⟩
  · rw [show bm_AI B ca (u * 11 + 6 + 1) = nI p1 from b1, nI_clamp (by omega)]; exact ⟨a1, c1⟩
  · rw [show bm_AI B ca (u * 11 + 6 + 2) = nI p2 from b2, nI_clamp (by omega)]; exact ⟨a2, c2⟩
  · rw [show bm_AI B ca (u * 11 + 6 + 3) = nI p3 from b3, nI_clamp (by omega)]; exact ⟨a3, c3⟩
/-- one more use is linked -/
theorem KK_link0 (h : KK B k a kc kl rk L sp ln e0 N fp) (hv : fp e0 = 0) : KK B k a kc kl rk L sp ln (e0 + 1) N fp := by
  obtain ⟨h1, h2, h3, h5, h6, h7, h8⟩ := h
  refine ⟨h1, h2, h3, h5, fun v v0 hv' => ?_, fun e he1 he2 he3 => ?_, h8⟩
  · rw [h6 v v0 hv']
    congr 1
    show _ = if 4 ≤ e0 ∧ fp e0 = v then e0 else ul fp v e0
    rw [if_neg (fun w => by omega)]
  · by_cases c : e = e0
    · subst c; exact absurd hv he3
    · exact h7 e he1 (by omega) he3
theorem KK_link1 (h : KK B k a kc kl rk L sp ln e0 N fp) {u i v : Nat} (he : e0 = u * 4 + i) (hi : i < 4) (u0 : 0 < u) (hu : u < rk) (hv : fp e0 = v) (v0 : 0 < v) (hvr : v < rk) : KK (kn_lnk B kc u i v) k a kc kl rk L sp ln (e0 + 1) N fp := by
  obtain ⟨h1, h2, h3, h5, h6, h7, h8⟩ := h
  have hne : kc ≠ kl := h1.2.2.2.2.2
  have eC : ∀ j, bm_AI (kn_lnk B kc u i v) kc j = if j = v * 6 + 1 then nI (u * 4 + i) else if j = u * 6 + (2 + i) then bm_AI B kc (v * 6 + 1) else bm_AI B kc j := fun j => by
    show (if kc = kc ∧ j = v * 6 + 1 then _ else if kc = kc ∧ j = u * 6 + (2 + i) then _ else _) = _
    simp
  have eL : ∀ j, bm_AI (kn_lnk B kc u i v) kl j = bm_AI B kl j := fun j => by
    show (if kl = kc ∧ j = v * 6 + 1 then _ else if kl = kc ∧ j = u * 6 + (2 + i) then _ else _) = _
    rw [if_neg (fun w => hne w.1.symm), if_neg (fun w => hne w.1.symm)]
  refine ⟨h1, fun j w hw => by rw [eL]; exact h2 j w hw, h3, fun w hw => ?_, fun w w0 hw => ?_, fun e he1 he2 he3 => ?_, h8⟩
  · rw [eC, if_neg (by omega), if_neg (by omega)]; exact h5 w hw
  · rw [eC]
    show _ = nI (if 4 ≤ e0 ∧ fp e0 = w then e0 else ul fp w e0)
    by_cases c : w = v
    · subst c
      rw [if_pos rfl, if_pos ⟨by omega, hv⟩, he]
    · rw [if_neg (by omega), if_neg (by omega), if_neg (fun q => c (q.2.symm.trans hv)), h6 w w0 hw]
  · rw [eC]
    by_cases c : e = e0
    · subst c
      rw [if_neg (by omega), show e / 4 = u by omega, show e % 4 = i by omega, if_pos rfl, h6 v v0 hvr, hv]
    · rw [if_neg (by omega), if_neg (by omega)]; exact h7 e he1 (by omega) he3
theorem kn_lnk_fz (B : bm_H) (k kc kl u i v : Nat) : fz (kx k kc kl) B (kn_lnk B kc u i v) := ⟨fr_trans (fr_mono (fun x h => Or.inr (Or.inl h)) (fr_setI B kc _ _)) (fr_mono (fun x h => Or.inr (Or.inl h)) (fr_setI _ kc _ _)), rfl, rfl⟩
theorem kk_link {u i : Nat} {A : Tm} {Q : bm_H → Prop} (hT : TI B a ca ba da rm dr T) (h : KK B k a kc kl rk L sp ln e0 T.length fp) (hp : pp_ok T fp) (he : e0 = u * 4 + i) (u0 : 0 < u) (hi : i < 4) (hA : T[u]? = some A) (kk : ∀ B', KK B' k a kc kl rk L sp ln (e0 + 1) T.length fp → fz (kx k kc kl) B B' → Q B') : bm_Gv sc (d + 1) 22 [.ref k, .int (nI u), .int (nI i)] B Q := by
  have hN := h.2.2.2.2.2.2.2
  have hlt := tv_lt hA
  obtain ⟨q1, q2⟩ := hp u A i u0 hA hi
  refine k_Kn_link hT.1 h.1 (by omega) hi (v := fp (u * 4 + i)) (TI_pp hT u0 hA hi hp) (by omega) (fun hv => ?_) (fun hv => ?_)
  · exact kk B (KK_link0 h (by rw [he]; exact hv)) (fz_rfl _ _)
  · exact kk _ (KK_link1 h he hi u0 (by omega) (by rw [he]) hv (by omega)) (kn_lnk_fz _ _ _ _ _ _ _)
end KS
