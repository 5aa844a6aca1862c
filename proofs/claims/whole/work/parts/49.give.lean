/-! Knowledge: give -/
/-- Knowledge at rest: ln terms are linked, and of them it knows what is DERIVED from G -/
def KI (B : bm_H) (k a kc kl rk ln : Nat) (T : List Tm) (G : Tm → Prop) : Prop := ∃ (L : List Nat) (fp : Nat → Nat), pp_ok T fp ∧ KK B k a kc kl rk L L.length ln (ln * 4) ln fp ∧ ln ≤ T.length ∧ snd T G L ∧ clP T L L ln ∧ ∀ x, G x → KL T L x
theorem take_pre {L L' : List Nat} {n : Nat} (h : L <+: L') (hn : n ≤ L.length) : L'.take n = L.take n := by
  obtain ⟨t, rfl⟩ := h
  rw [List.take_append_of_le_length hn]
set_option maxRecDepth 100000 in
theorem l_give {sc : tm_X} {d : Nat} {B0 : bm_H} {k a kc kl rk ca ba da rm dr : Nat} {L0 : List Nat} {fp : Nat → Nat} {T : List Tm} {G : Tm → Prop} {Q : bm_H → Prop} (hp : pp_ok T fp) (hd : kt_ap kc kl ca ba da) (kk : ∀ B' L', TI B' a ca ba da rm dr T → KK B' k a kc kl rk L' L'.length T.length (T.length * 4) T.length fp → L0 <+: L' → snd T G L' → fz (kx k kc kl) B0 B' → clP T L' L' T.length → Q B') : ∀ (m sp : Nat) (B : bm_H) (L : List Nat), T.length < sp + m → sp ≤ L.length → TI B a ca ba da rm dr T → KK B k a kc kl rk L sp T.length (T.length * 4) T.length fp → L0 <+: L → snd T G L → fz (kx k kc kl) B0 B → clP T (L.take sp) L T.length → ∀ lv : tm_L, lv.lookup 0 = some (.ref k) → bm_G sc (d + 3) 18 9 lv [] B (fun r B' => r = none ∧ Q B') := by
  intro m
  induction m with
  | zero => intro sp B L h1 h2 hT hK; have := KK_len hK; omega
  | succ m ih =>
    intro sp B L hm hsp hT hK hP hs hF hcl lv l0
    have hr := KK_rk hK
    have hN := hK.2.2.2.2.2.2
    have hlen := KK_len hK
    refine g_ald (pc' := 10) cd_Kn_give rfl (Or.inr ⟨_, rfl, rfl, rfl⟩) l0 rfl rfl ?_
    refine g_fI (c := 3) (k := 4) (x := (nI sp)) (pc' := 13) cd_Kn_give rfl rfl rfl rfl rfl (by decide) hK.1.1.1 hK.1.1.2 hK.1.2.2.2.1.2.1 ?_
    refine g_ald (pc' := 14) cd_Kn_give rfl (Or.inr ⟨_, rfl, rfl, rfl⟩) l0 rfl rfl ?_
    refine g_fI (c := 3) (k := 3) (x := (nI L.length)) (pc' := 17) cd_Kn_give rfl rfl rfl rfl rfl (by decide) hK.1.1.1 hK.1.1.2 hK.1.2.2.2.1.1 ?_
    refine g_if2 (t := 70) (pc' := 20) cd_Kn_give rfl rfl rfl (fun c17 => ?_) (fun c17 => ?_)
    · have c17 : (nI L.length) ≤ (nI sp) := c17
      exact g_retv cd_Kn_give rfl ⟨rfl, (kk _ _ hT (by have e : sp = L.length := (by have := (nI_leI (by omega) (by omega)).mp c17; omega); rw [e] at hK; exact hK) hP hs hF (by rw [List.take_of_length_le (by have := (nI_leI (by omega) (by omega)).mp c17; omega)] at hcl; exact hcl))⟩
    · have c17 : ¬ (nI L.length) ≤ (nI sp) := c17
      have hsp2 : sp < L.length := Nat.lt_of_not_le (fun q => c17 (nI_le q (by omega)))
      obtain ⟨t, ht⟩ : ∃ t, L[sp]? = some t := ⟨_, List.getElem?_eq_getElem hsp2⟩
      have htL : t ∈ L := List.mem_of_getElem? ht
      obtain ⟨t0, htl⟩ := hK.2.2.1.2 t htL
      obtain ⟨U, hU⟩ : ∃ U, T[t]? = some U := ⟨_, List.getElem?_eq_getElem htl⟩
      have hKt := hs t htL U hU
      refine g_ald (pc' := 21) cd_Kn_give rfl (Or.inr ⟨_, rfl, rfl, rfl⟩) l0 rfl rfl ?_
      refine g_fI (c := 3) (k := 4) (x := (nI sp)) (pc' := 24) cd_Kn_give rfl rfl rfl rfl rfl (by decide) hK.1.1.1 hK.1.1.2 hK.1.2.2.2.1.2.1 ?_
      refine g_ald (pc' := 25) cd_Kn_give rfl (Or.inr ⟨_, rfl, rfl, rfl⟩) l0 rfl rfl ?_
      refine g_fI (c := 3) (k := 5) (x := (nI T.length)) (pc' := 28) cd_Kn_give rfl rfl rfl rfl rfl (by decide) hK.1.1.1 hK.1.1.2 hK.1.2.2.2.1.2.2 ?_
      refine g_if2 (t := 70) (pc' := 31) cd_Kn_give rfl rfl rfl (fun c28 => ?_) (fun c28 => ?_)
      · have c28 : (nI T.length) ≤ (nI sp) := c28
        exact absurd c28 (nI_ge (by omega) (by omega))
      · have c28 : ¬ (nI T.length) ≤ (nI sp) := c28
        refine g_ald (pc' := 32) cd_Kn_give rfl (Or.inr ⟨_, rfl, rfl, rfl⟩) l0 rfl rfl ?_
        refine g_ald (pc' := 33) cd_Kn_give rfl (Or.inr ⟨_, rfl, rfl, rfl⟩) l0 rfl rfl ?_
        refine g_fR (c := 3) (k := 2) (x := kl) (pc' := 36) cd_Kn_give rfl rfl rfl rfl rfl (by decide) hK.1.1.1 hK.1.1.2 hK.1.2.1.2.2 ?_
        refine g_ald (pc' := 37) cd_Kn_give rfl (Or.inr ⟨_, rfl, rfl, rfl⟩) l0 rfl rfl ?_
        refine g_fI (c := 3) (k := 4) (x := (nI sp)) (pc' := 40) cd_Kn_give rfl rfl rfl rfl rfl (by decide) hK.1.1.1 hK.1.1.2 hK.1.2.2.2.1.2.1 ?_
        refine g_aI (x := (nI t)) (pc' := 41) cd_Kn_give rfl rfl hK.1.2.2.1.2.1 hK.1.2.2.1.2.2.1 (by show vp_in _ (bm_AL B kl); rw [show bm_AL B kl = rk from hK.1.2.2.1.2.2.2]; exact vp_in_nI (by omega) (by omega)) (by rw [nI_clamp (by omega)]; exact hK.2.1 sp t ht) ?_
        refine g_callv (pc' := 44) cd_Kn_give rfl rfl rfl rfl rfl (tm_invV rfl rfl cd_Kn_openUp rfl (Nat.le_of_ble_eq_true rfl) (by decide) hK.1.1.1 hK.1.1.2) (t_openUp hT hK hp hd (u := t) t0 htl hU hs hKt (fun B1 L1 hT1 hK1 hP1 hs1 hF1 o7 o6 o5 => ?_))
        have ht1 : L1[sp]? = some t := by obtain ⟨w, e⟩ := hP1; rw [← e, List.getElem?_append_left hsp2]; exact ht
        show bm_G _ _ _ 44 _ [] B1 _
        refine g_ald (pc' := 45) cd_Kn_give rfl (Or.inr ⟨_, rfl, rfl, rfl⟩) l0 rfl rfl ?_
        refine g_ald (pc' := 46) cd_Kn_give rfl (Or.inr ⟨_, rfl, rfl, rfl⟩) l0 rfl rfl ?_
        refine g_fR (c := 3) (k := 2) (x := kl) (pc' := 49) cd_Kn_give rfl rfl rfl rfl rfl (by decide) hK1.1.1.1 hK1.1.1.2 hK1.1.2.1.2.2 ?_
        refine g_ald (pc' := 50) cd_Kn_give rfl (Or.inr ⟨_, rfl, rfl, rfl⟩) l0 rfl rfl ?_
        refine g_fI (c := 3) (k := 4) (x := (nI sp)) (pc' := 53) cd_Kn_give rfl rfl rfl rfl rfl (by decide) hK1.1.1.1 hK1.1.1.2 hK1.1.2.2.2.1.2.1 ?_
        refine g_aI (x := (nI t)) (pc' := 54) cd_Kn_give rfl rfl hK1.1.2.2.1.2.1 hK1.1.2.2.1.2.2.1 (by show vp_in _ (bm_AL B1 kl); rw [show bm_AL B1 kl = rk from hK1.1.2.2.1.2.2.2]; exact vp_in_nI (by omega) (by omega)) (by rw [nI_clamp (by omega)]; exact hK1.2.1 sp t ht1) ?_
        refine g_callv (pc' := 57) cd_Kn_give rfl rfl rfl rfl rfl (tm_invV rfl rfl cd_Kn_tryUses rfl (Nat.le_of_ble_eq_true rfl) (by decide) hK1.1.1.1 hK1.1.1.2) (t_tryUses hT1 hK1 hp hd (u := t) t0 htl hU (Nat.le_refl _) hs1 hKt (fun B2 L2 hT2 hK2 hP2 hs2 hF2 hup => ?_))
        show bm_G _ _ _ 57 _ [] B2 _
        refine g_ald (pc' := 58) cd_Kn_give rfl (Or.inr ⟨_, rfl, rfl, rfl⟩) l0 rfl rfl ?_
        refine g_pure (pc' := 59) (st' := [.ref k, .ref k]) cd_Kn_give rfl rfl (fun _ _ => rfl) ?_
        refine g_fI (c := 3) (k := 4) (x := (nI sp)) (pc' := 62) cd_Kn_give rfl rfl rfl rfl rfl (by decide) hK2.1.1.1 hK2.1.1.2 hK2.1.2.2.2.1.2.1 ?_
        refine g_k1 (v := 1) (pc' := 63) cd_Kn_give rfl (by decide) rfl ?_
        refine g_pure (pc' := 64) (st' := [.int ((nI sp) + 1), .ref k]) cd_Kn_give rfl rfl (fun _ _ => rfl) ?_
        rw [nI_1 sp]
        refine g_putI (c := 3) (k := 4) (pc' := 67) cd_Kn_give rfl rfl rfl rfl (by simp [tm_okV, narrow, fits]) (Or.inl rfl) rfl (by decide) hK2.1.1.1 hK2.1.1.2 ?_
        refine g_pure (pc' := 9) (st' := []) cd_Kn_give rfl rfl (fun _ _ => rfl) ?_
        exact ih (sp + 1) _ L2 (by omega) (by have := hP1.length_le; have := hP2.length_le; omega) (kt_TI hT2 hK2 hd ⟨fr_mono (fun x h => Or.inl h) (fr_putI _ 3 4 k _), rfl, rfl⟩) (KK_spread hK2) (hP.trans (hP1.trans hP2)) hs2 (fz_trans hF (fz_trans hF1 (fz_trans hF2 ⟨fr_mono (fun x h => Or.inl h) (fr_putI _ 3 4 k _), rfl, rfl⟩))) (by rw [take_pre (hP1.trans hP2) (by omega), List.take_add_one, ht]; exact clP_step hT hp hcl hU t0 hP1 hP2 (fun x hx => (List.mem_append.mp hx).elim (fun q => List.mem_of_mem_take q) (fun q => by simp at q; rw [q]; exact htL)) o7 o6 o5 hup) lv l0
set_option maxRecDepth 100000 in
theorem t_give {sc : tm_X} {d : Nat} {B : bm_H} {k a kc kl rk ln ca ba da rm dr : Nat} {T : List Tm} {G : Tm → Prop} {x : Int32} {A : Tm} {Q : bm_H → Prop} (hT : TI B a ca ba da rm dr T) (hI : KI B k a kc kl rk ln T G) (hd : kt_ap kc kl ca ba da) (hrr : 2 * rk ≤ rm ∨ rk = rm) (hx : tv T x A) (kk : ∀ B' kc' kl' rk', TI B' a ca ba da rm dr T → KI B' k a kc' kl' rk' T.length T (fun y => G y ∨ y = A) → kt_ap kc' kl' ca ba da → fr (kx k kc kl) B B' → ((kc' = kc ∧ kl' = kl) ∨ (bm_n B ≤ kc' ∧ bm_n B ≤ kl')) → (rk' = rm ∧ bm_sl B' + 14 * (65536 - rk') ≤ bm_sl B + 14 * (65536 - rk) ∧ bm_n B' + 2 * (65536 - rk') ≤ bm_n B + 2 * (65536 - rk)) → Q B') : bm_Gv sc (d + 3) 18 [.ref k, .int x] B Q := by
  obtain ⟨L, fp, hp, hK, hln, hs, hcl, hGL⟩ := hI
  obtain ⟨u, rfl, hA⟩ := hx
  have hsG : snd T (fun y => G y ∨ y = A) L := fun v hv y hy => Kn_mono (fun _ q => Or.inl q) (hs v hv y hy)
  show bm_G sc (d + 3) 18 0 [(0, .ref k), (1, .int (nI u))] [] B _
  generalize elv : ([(0, .ref k), (1, .int (nI u))] : tm_L) = lv
  have l0 : lv.lookup 0 = some (.ref k) := by rw [← elv]; rfl
  have l1 : lv.lookup 1 = some (.int (nI u)) := by rw [← elv]; rfl
  clear elv
  refine g_ald (pc' := 1) cd_Kn_give rfl (Or.inr ⟨_, rfl, rfl, rfl⟩) l0 rfl rfl ?_
  refine g_callv (pc' := 4) cd_Kn_give rfl rfl rfl rfl rfl (tm_invV rfl rfl cd_Kn_linkNewTerms rfl (Nat.le_of_ble_eq_true rfl) (by decide) hK.1.1.1 hK.1.1.2) (t_linkNew hT hK hp hd hln hrr hsG (fun B1 kc1 kl1 rk1 L1 hT1 hK1 hd1 hP1 hs1 hnew hf1 hwh hpot => ?_))
  show bm_G _ _ _ 4 _ [] B1 _
  refine g_ald (pc' := 5) cd_Kn_give rfl (Or.inr ⟨_, rfl, rfl, rfl⟩) l0 rfl rfl ?_
  refine g_ild (pc' := 6) cd_Kn_give rfl (Or.inr ⟨_, rfl, rfl, rfl⟩) l1 rfl ?_
  refine g_callv (pc' := 9) cd_Kn_give rfl rfl rfl rfl rfl (tm_invV rfl rfl cd_Kn_learn rfl (Nat.le_of_ble_eq_true rfl) (by decide) hK1.1.1.1 hK1.1.1.2) (t_learn hT1.1 hK1 (tv_lt hA) (fun B2 L2 hK2 hf2 hL2 hm2 => ?_))
  have hT2 := kt_TI hT1 hK1 hd1 hf2
  have hs2 := snd_add hs1 hL2 (fun x hx => by rw [hA] at hx; cases hx; exact Kn_G (Or.inr rfl))
  have hP2 := hP1.trans (sub_add hL2)
  show bm_G _ _ _ 9 _ [] B2 _
  have hcl1 : clP T L L1 T.length := ⟨fun v C v0 hv hC c => (Nat.lt_or_ge v ln).elim (fun q => hP1.subset (hcl.1 v C v0 q hC c)) (fun q => hnew v C q hC c), (clP_mono hcl hP1).2⟩
  refine l_give hp hd1 (fun B3 L3 hT3 hK3 hP3 hs3 hF3 hcl3 => kk B3 kc1 kl1 rk1 hT3 ⟨L3, fp, hp, hK3, Nat.le_refl _, hs3, hcl3, fun x hx => ?_⟩ hd1 (fr_trans2 hf1 (fz_trans hf2 hF3).1 (fun x hx w => ?_)) hwh ⟨hpot.1, by rw [hF3.2.2, hf2.2.2]; exact hpot.2.1, by rw [hF3.2.1, hf2.2.1]; exact hpot.2.2⟩) (T.length + 1) L.length B2 L2 (by omega) hP2.length_le hT2 hK2 (List.prefix_refl L2) hs2 (fz_rfl _ B2) (by rw [take_pre hP2 (Nat.le_refl _), List.take_length]; exact clP_mono hcl1 (sub_add hL2)) lv l0
  · rcases hx with hx | rfl
    · exact KL_mono (hP2.trans hP3) (hGL x hx)
    · exact KL_mono hP3 (KL_of hT hA hm2)
  · rcases hwh with ⟨rfl, rfl⟩ | ⟨q1, q2⟩
    · exact w
    · exact w.elim Or.inl (fun w => by omega)
/-- of the linked terms those are known that are DERIVED -/
theorem KI_iff {B : bm_H} {k a kc kl rk ln ca ba da rm dr : Nat} {T : List Tm} {G : Tm → Prop} (hT : TI B a ca ba da rm dr T) (hI : KI B k a kc kl rk ln T G) {u : Nat} {A : Tm} (hu : u < ln) (hA : T[u]? = some A) : kn_is B kc ln (nI u) = true ↔ Kn G A := by
  obtain ⟨L, fp, hp, hK, hln, hs, hcl, hGL⟩ := hI
  rw [KL_is hT hK hA hu]
  constructor
  · exact fun h => snd_KL hs h
  · intro h
    have hin : ∀ v, v ∈ L → 0 < v ∧ v < ln := hK.2.2.1.2
    refine Kn_all (fun x => ∃ v, v ∈ L ∧ T[v]? = some x) (fun A u => T[u]? = some A ∧ u < ln) (fun C v hv => ?_) (fun x ⟨v, h1, h2⟩ => ⟨v, h2, (hin v h1).2⟩) hGL (fun C v hv hC c => ?_) (fun C i ⟨v, h1, h2⟩ e hi => hcl.2.1 v C h1 h2 e i hi) (fun C ⟨v, h1, h2⟩ e => hcl.2.2.1 v C h1 h2 e) (fun C ⟨v, h1, h2⟩ e => hcl.2.2.2.1 v C h1 h2 e) (fun C ⟨v, h1, h2⟩ e q => hcl.2.2.2.2 v C h1 h2 e q) ⟨hA, hu⟩ h
    · by_cases v0 : v = 0
      · subst v0
        have := hv.1
        rw [hT.2.2.1.1] at this
        exact Or.inl (Option.some.inj this).symm
      · exact Or.inr (fun i hi => ⟨fp (v * 4 + i), (hp v C i (by omega) hv.1 hi).1, (hp v C i (by omega) hv.1 hi).2, by have := (hp v C i (by omega) hv.1 hi).1; have := hv.2; omega⟩)
    · have v0 : 0 < v := Nat.pos_of_ne_zero (fun e => by subst e; have := hv.1; rw [hT.2.2.1.1] at this; exact hC (Option.some.inj this).symm)
      exact ⟨v, hcl.1 v C v0 hv.2 hv.1 c, hv.1⟩
