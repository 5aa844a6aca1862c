/-! Knowledge: linkNewTerms, give -/
/-- more room for what is known -/
def kn_gr1 (B : bm_H) (k kc rk rm : Nat) : bm_H := bm_putR (bm_grow B kc (rk * 6) (rm * 6)) 3 1 k (some (bm_n B))
def kn_gr2 (B : bm_H) (k kc kl rk rm : Nat) : bm_H := bm_putR (bm_grow (kn_gr1 B k kc rk rm) kl rk rm) 3 2 k (some (bm_n B + 1))
theorem KK_grow {B : bm_H} {k a kc kl rk sp ln e0 N rm : Nat} {L : List Nat} {fp : Nat → Nat} (h : KK B k a kc kl rk L sp ln e0 N fp) (hr : rk < rm) (hr2 : rm ≤ 65536) (hno : ∀ v, rk ≤ v → ul fp v e0 = 0) (he0 : e0 ≤ rk * 4) : KK (kn_gr2 B k kc kl rk rm) k a (bm_n B) (bm_n B + 1) rm L sp ln e0 N fp ∧ fr (kx k kc kl) B (kn_gr2 B k kc kl rk rm) ∧ bm_n (kn_gr2 B k kc kl rk rm) = bm_n B + 2 ∧ bm_sl (kn_gr2 B k kc kl rk rm) = bm_sl B + rm * 6 + rm := by
  obtain ⟨⟨⟨h1, h2⟩, ⟨h3, h4, h5⟩, ⟨⟨g1, g2, g3⟩, g4, g5, g6⟩, ⟨i1, i2, i3⟩, ⟨i4, i5, i6, i7⟩, i8⟩, j2, ⟨j3, j4⟩, j5, j6, j7, j8, j9⟩ := h
  generalize eB : kn_gr2 B k kc kl rk rm = B2
  have nk : k ≠ bm_n B ∧ k ≠ bm_n B + 1 := by omega
  have hK : ∀ x, x < bm_n B → bm_K B2 x = bm_K B x := fun x hx => by
    rw [← eB]
    show va_up (va_up (bm_K B) (bm_n B) 13) (bm_n B + 1) 13 x = _
    rw [va_up_ne _ _ (by omega), va_up_ne _ _ (by omega)]
  have hAL : ∀ x, x < bm_n B → bm_AL B2 x = bm_AL B x := fun x hx => by
    rw [← eB]
    show va_up (va_up (bm_AL B) (bm_n B) (rm * 6)) (bm_n B + 1) rm x = _
    rw [va_up_ne _ _ (by omega), va_up_ne _ _ (by omega)]
  have hAI : ∀ x, x < bm_n B → bm_AI B2 x = bm_AI B x := fun x hx => by
    rw [← eB]
    funext q
    show (if x = bm_n B + 1 then _ else if x = bm_n B + 1 then _ else if x = bm_n B then _ else if x = bm_n B then _ else bm_AI B x q) = _
    rw [if_neg (by omega), if_neg (by omega), if_neg (by omega), if_neg (by omega)]
  have hC : ∀ q, bm_AI B2 (bm_n B) q = if q < rk * 6 then bm_AI B kc q else 0 := fun q => by
    rw [← eB]
    show (if bm_n B = bm_n B + 1 then _ else if bm_n B = bm_n B + 1 then _ else if bm_n B = bm_n B then (if q < rk * 6 then bm_AI B kc q else 0) else _) = _
    rw [if_neg (by omega), if_neg (by omega), if_pos rfl]
  have hL : ∀ q, bm_AI B2 (bm_n B + 1) q = if q < rk then bm_AI B kl q else 0 := fun q => by
    rw [← eB]
    show (if bm_n B + 1 = bm_n B + 1 then (if q < rk then bm_AI (kn_gr1 B k kc rk rm) kl q else 0) else _) = _
    rw [if_pos rfl]
    by_cases c : q < rk
    · rw [if_pos c, if_pos c]
      show (if kl = bm_n B then _ else if kl = bm_n B then _ else bm_AI B kl q) = _
      rw [if_neg (by omega), if_neg (by omega)]
    · rw [if_neg c, if_neg c]
  have hFR : ∀ c j x, ¬ (c = 3 ∧ (j = 1 ∨ j = 2) ∧ x = k) → bm_FR B2 c j x = bm_FR B c j x := fun c j x q => by
    rw [← eB]
    show (if c = 3 ∧ j = 2 ∧ x = k then _ else if c = 3 ∧ j = 1 ∧ x = k then _ else bm_FR B c j x) = _
    rw [if_neg (fun w => q ⟨w.1, Or.inr w.2.1, w.2.2⟩), if_neg (fun w => q ⟨w.1, Or.inl w.2.1, w.2.2⟩)]
  have hn : bm_n B2 = bm_n B + 2 := by rw [← eB]; rfl
  have hFI : bm_FI B2 = bm_FI B := by rw [← eB]; rfl
  refine ⟨⟨⟨⟨by omega, (hK k h1).trans h2⟩, ⟨(hFR 3 0 k (by simp)).trans h3, by rw [← eB]; simp [kn_gr2, kn_gr1, bm_putR, bm_up3, bm_grow, bm_allI, bm_newA, bm_FR, bm_n], by rw [← eB]; exact if_pos ⟨rfl, rfl, rfl⟩⟩, ⟨⟨by omega, by rw [← eB]; exact (va_up_ne _ _ (by show bm_n B ≠ bm_n B + 1; omega)).trans (va_up_self _ _ _), by rw [← eB]; exact (va_up_ne _ _ (by show bm_n B ≠ bm_n B + 1; omega)).trans (va_up_self _ _ _)⟩, by omega, by rw [← eB]; exact va_up_self _ _ _, by rw [← eB]; exact va_up_self _ _ _⟩, ⟨by rw [hFI]; exact i1, by rw [hFI]; exact i2, by rw [hFI]; exact i3⟩, ⟨i4, by omega, hr2, by omega⟩, by omega⟩, fun j u hu => ?_, ⟨j3, j4⟩, fun u hu => ?_, fun v v0 hv => ?_, fun e he1 he2 he3 => ?_, j8, by omega⟩, ⟨by omega, fun x hx => ⟨hK x hx, hAL x hx, fun c j q => hFR c j x (fun w => by rcases w.2.1 with e | e <;> · rw [w.1, e] at q; exact absurd q (by decide)), fun q => ⟨fun c j => by rw [hFI], fun c j => hFR c j x (fun w => q (Or.inl w.2.2)), hAI x hx, ?_⟩⟩⟩, hn, by rw [← eB]; rfl⟩
  · have := (List.getElem?_eq_some_iff.mp hu).1
    rw [hL, if_pos (by omega)]; exact j2 j u hu
  · rw [hC]
    by_cases c : u < rk
    · rw [if_pos (by omega)]; exact j5 u c
    · rw [if_neg (by omega)]
      exact ⟨fun w => absurd rfl w, fun w => absurd (j4 u w).2 (by omega)⟩
  · rw [hC]
    by_cases c : v < rk
    · rw [if_pos (by omega)]; exact j6 v v0 c
    · rw [if_neg (by omega), hno v (by omega)]; rfl
  · rw [hC, if_pos (by omega)]; exact j7 e he1 he2 he3
  · rw [← eB]
    funext q
    show (if x = bm_n B + 1 then _ else if x = bm_n B then _ else bm_AR B x q) = _
    rw [if_neg (by omega), if_neg (by omega)]
theorem KK_next {B : bm_H} {k a kc kl rk sp ln e0 N : Nat} {L : List Nat} {fp : Nat → Nat} (h : KK B k a kc kl rk L sp ln e0 N fp) (hl : ln + 1 ≤ rk) : KK (bm_putI B 3 5 k (nI (ln + 1))) k a kc kl rk L sp (ln + 1) e0 N fp := by
  obtain ⟨⟨h1, h2, h3, ⟨h4, h5, h6⟩, ⟨h7, h8, h9, h10⟩, h11⟩, hr⟩ := h
  exact ⟨⟨h1, h2, h3, ⟨h4, h5, if_pos ⟨rfl, rfl, rfl⟩⟩, ⟨by omega, hl, h9, h10⟩, h11⟩, hr⟩
theorem KK_spread {B : bm_H} {k a kc kl rk sp ln e0 N : Nat} {L : List Nat} {fp : Nat → Nat} (h : KK B k a kc kl rk L sp ln e0 N fp) : KK (bm_putI B 3 4 k (nI (sp + 1))) k a kc kl rk L (sp + 1) ln e0 N fp := by
  obtain ⟨⟨h1, h2, h3, ⟨h4, h5, h6⟩, ⟨h7, h8, h9, h10⟩, h11⟩, hr⟩ := h
  exact ⟨⟨h1, h2, h3, ⟨h4, if_pos ⟨rfl, rfl, rfl⟩, h6⟩, ⟨h7, h8, h9, h10⟩, h11⟩, hr⟩
set_option maxRecDepth 100000 in
theorem l_linkNew {sc : tm_X} {d : Nat} {B0 : bm_H} {k a kc kl rk sp n1 ca ba da rm dr : Nat} {L0 : List Nat} {fp : Nat → Nat} {T : List Tm} {G : Tm → Prop} {Q : bm_H → Prop} (hp : pp_ok T fp) (hd : kt_ap kc kl ca ba da) (n10 : 1 ≤ n1) (kk : ∀ B' L', TI B' a ca ba da rm dr T → KK B' k a kc kl rk L' sp T.length (T.length * 4) T.length fp → L0 <+: L' → snd T G L' → fz (kx k kc kl) B0 B' → (∀ u A, n1 ≤ u → T[u]? = some A → can (KL T L0) A → u ∈ L') → Q B') : ∀ (m ln : Nat) (B : bm_H) (L : List Nat), ln + m = T.length → n1 ≤ ln → TI B a ca ba da rm dr T → KK B k a kc kl rk L sp ln (ln * 4) T.length fp → L0 <+: L → snd T G L → fz (kx k kc kl) B0 B → (∀ u A, n1 ≤ u → u < ln → T[u]? = some A → can (KL T L0) A → u ∈ L) → ∀ lv : tm_L, lv.lookup 0 = some (.ref k) → bm_G sc (d + 2) 19 54 lv [] B (fun r B' => r = none ∧ Q B') := by
  intro m
  induction m with
  | zero =>
    intro ln B L hm hl1 hT hK hP hs hF hdone lv l0
    have hr := KK_rk hK
    have hN := hK.2.2.2.2.2.2
    refine g_ald (pc' := 55) cd_Kn_linkNewTerms rfl (Or.inr ⟨_, rfl, rfl, rfl⟩) l0 rfl rfl ?_
    refine g_fI (c := 3) (k := 5) (x := (nI ln)) (pc' := 58) cd_Kn_linkNewTerms rfl rfl rfl rfl rfl (by decide) hK.1.1.1 hK.1.1.2 hK.1.2.2.2.1.2.2 ?_
    refine g_ald (pc' := 59) cd_Kn_linkNewTerms rfl (Or.inr ⟨_, rfl, rfl, rfl⟩) l0 rfl rfl ?_
    refine g_fR (c := 3) (k := 0) (x := a) (pc' := 62) cd_Kn_linkNewTerms rfl rfl rfl rfl rfl (by decide) hK.1.1.1 hK.1.1.2 hK.1.2.1.1 ?_
    refine g_fI (c := 9) (k := 4) (x := (nI T.length)) (pc' := 65) cd_Kn_linkNewTerms rfl rfl rfl rfl rfl (by decide) hT.1.1.1 hT.1.1.2 hT.1.2.2.2.1.2.1 ?_
    refine g_if2 (t := 122) (pc' := 68) cd_Kn_linkNewTerms rfl rfl rfl (fun c65 => ?_) (fun c65 => ?_)
    · have c65 : (nI T.length) ≤ (nI ln) := c65
      exact g_retv cd_Kn_linkNewTerms rfl ⟨rfl, (by have e : ln = T.length := (by have := (nI_leI (by omega) (by omega)).mp c65; omega); subst e; exact kk _ _ hT hK hP hs hF (fun u A h1 hA c => hdone u A h1 (tv_lt hA) hA c))⟩
    · have c65 : ¬ (nI T.length) ≤ (nI ln) := c65
      exact absurd (nI_le (by omega) (by omega)) c65
  | succ m ih =>
    intro ln B L hm hl1 hT hK hP hs hF hdone lv l0
    have hr := KK_rk hK
    have hN := hK.2.2.2.2.2.2
    obtain ⟨A, hA⟩ : ∃ A, T[ln]? = some A := ⟨_, List.getElem?_eq_getElem (show ln < T.length by omega)⟩
    refine g_ald (pc' := 55) cd_Kn_linkNewTerms rfl (Or.inr ⟨_, rfl, rfl, rfl⟩) l0 rfl rfl ?_
    refine g_fI (c := 3) (k := 5) (x := (nI ln)) (pc' := 58) cd_Kn_linkNewTerms rfl rfl rfl rfl rfl (by decide) hK.1.1.1 hK.1.1.2 hK.1.2.2.2.1.2.2 ?_
    refine g_ald (pc' := 59) cd_Kn_linkNewTerms rfl (Or.inr ⟨_, rfl, rfl, rfl⟩) l0 rfl rfl ?_
    refine g_fR (c := 3) (k := 0) (x := a) (pc' := 62) cd_Kn_linkNewTerms rfl rfl rfl rfl rfl (by decide) hK.1.1.1 hK.1.1.2 hK.1.2.1.1 ?_
    refine g_fI (c := 9) (k := 4) (x := (nI T.length)) (pc' := 65) cd_Kn_linkNewTerms rfl rfl rfl rfl rfl (by decide) hT.1.1.1 hT.1.1.2 hT.1.2.2.2.1.2.1 ?_
    refine g_if2 (t := 122) (pc' := 68) cd_Kn_linkNewTerms rfl rfl rfl (fun c65 => ?_) (fun c65 => ?_)
    · have c65 : (nI T.length) ≤ (nI ln) := c65
      exact absurd c65 (nI_ge (by omega) (by omega))
    · have c65 : ¬ (nI T.length) ≤ (nI ln) := c65
      refine g_k1 (v := 0) (pc' := 69) cd_Kn_linkNewTerms rfl (by decide) rfl ?_
      refine g_ist (pc' := 70) cd_Kn_linkNewTerms rfl (Or.inr ⟨_, rfl, rfl, rfl⟩) (by decide) rfl (fun lv el => ?_)
      have l0 := tm_lk el l0 rfl (by decide)
      have l1 : lv.lookup 1 = some (.int 0) := tm_lks el
      clear el
      refine g_ild (pc' := 71) cd_Kn_linkNewTerms rfl (Or.inr ⟨_, rfl, rfl, rfl⟩) l1 rfl ?_
      refine g_k1 (v := 4) (pc' := 72) cd_Kn_linkNewTerms rfl (by decide) rfl ?_
      refine g_if2 (t := 90) (pc' := 75) cd_Kn_linkNewTerms rfl rfl rfl (fun c72 => ?_) (fun c72 => ?_)
      · exact absurd (show (4 : Int32) ≤ 0 from c72) (by decide)
      · have c72 : ¬ (4 : Int32) ≤ 0 := c72
        refine g_ald (pc' := 76) cd_Kn_linkNewTerms rfl (Or.inr ⟨_, rfl, rfl, rfl⟩) l0 rfl rfl ?_
        refine g_ald (pc' := 77) cd_Kn_linkNewTerms rfl (Or.inr ⟨_, rfl, rfl, rfl⟩) l0 rfl rfl ?_
        refine g_fI (c := 3) (k := 5) (x := (nI ln)) (pc' := 80) cd_Kn_linkNewTerms rfl rfl rfl rfl rfl (by decide) hK.1.1.1 hK.1.1.2 hK.1.2.2.2.1.2.2 ?_
        refine g_ild (pc' := 81) cd_Kn_linkNewTerms rfl (Or.inr ⟨_, rfl, rfl, rfl⟩) l1 rfl ?_
        refine g_callv (pc' := 84) cd_Kn_linkNewTerms rfl rfl rfl rfl rfl (tm_invV rfl rfl cd_Kn_link rfl (Nat.le_of_ble_eq_true rfl) (by decide) hK.1.1.1 hK.1.1.2) (kk_link hT hK hp (u := ln) (i := 0) (by omega) (by omega) (by decide) hA (fun Bk1 hKk1 hfk1 => ?_))
        have hTk1 := kt_TI hT hK hd hfk1
        have hFk1 := fz_trans hF hfk1
        show bm_G _ _ _ 84 _ [] Bk1 _
        refine g_inc (y := 1) (pc' := 87) cd_Kn_linkNewTerms rfl l1 (by decide) (by decide) rfl (fun lv el => ?_)
        have l0 := tm_lk el l0 rfl (by decide)
        have l1 : lv.lookup 1 = some (.int 1) := tm_lks el
        clear el
        refine g_pure (pc' := 70) (st' := []) cd_Kn_linkNewTerms rfl rfl (fun _ _ => rfl) ?_
        refine g_ild (pc' := 71) cd_Kn_linkNewTerms rfl (Or.inr ⟨_, rfl, rfl, rfl⟩) l1 rfl ?_
        refine g_k1 (v := 4) (pc' := 72) cd_Kn_linkNewTerms rfl (by decide) rfl ?_
        refine g_if2 (t := 90) (pc' := 75) cd_Kn_linkNewTerms rfl rfl rfl (fun c72 => ?_) (fun c72 => ?_)
        · exact absurd (show (4 : Int32) ≤ 1 from c72) (by decide)
        · have c72 : ¬ (4 : Int32) ≤ 1 := c72
          refine g_ald (pc' := 76) cd_Kn_linkNewTerms rfl (Or.inr ⟨_, rfl, rfl, rfl⟩) l0 rfl rfl ?_
          refine g_ald (pc' := 77) cd_Kn_linkNewTerms rfl (Or.inr ⟨_, rfl, rfl, rfl⟩) l0 rfl rfl ?_
          refine g_fI (c := 3) (k := 5) (x := (nI ln)) (pc' := 80) cd_Kn_linkNewTerms rfl rfl rfl rfl rfl (by decide) hKk1.1.1.1 hKk1.1.1.2 hKk1.1.2.2.2.1.2.2 ?_
          refine g_ild (pc' := 81) cd_Kn_linkNewTerms rfl (Or.inr ⟨_, rfl, rfl, rfl⟩) l1 rfl ?_
          refine g_callv (pc' := 84) cd_Kn_linkNewTerms rfl rfl rfl rfl rfl (tm_invV rfl rfl cd_Kn_link rfl (Nat.le_of_ble_eq_true rfl) (by decide) hKk1.1.1.1 hKk1.1.1.2) (kk_link hTk1 hKk1 hp (u := ln) (i := 1) (by omega) (by omega) (by decide) hA (fun Bk2 hKk2 hfk2 => ?_))
          have hTk2 := kt_TI hTk1 hKk1 hd hfk2
          have hFk2 := fz_trans hFk1 hfk2
          show bm_G _ _ _ 84 _ [] Bk2 _
          refine g_inc (y := 2) (pc' := 87) cd_Kn_linkNewTerms rfl l1 (by decide) (by decide) rfl (fun lv el => ?_)
          have l0 := tm_lk el l0 rfl (by decide)
          have l1 : lv.lookup 1 = some (.int 2) := tm_lks el
          clear el
          refine g_pure (pc' := 70) (st' := []) cd_Kn_linkNewTerms rfl rfl (fun _ _ => rfl) ?_
          refine g_ild (pc' := 71) cd_Kn_linkNewTerms rfl (Or.inr ⟨_, rfl, rfl, rfl⟩) l1 rfl ?_
          refine g_k1 (v := 4) (pc' := 72) cd_Kn_linkNewTerms rfl (by decide) rfl ?_
          refine g_if2 (t := 90) (pc' := 75) cd_Kn_linkNewTerms rfl rfl rfl (fun c72 => ?_) (fun c72 => ?_)
          · exact absurd (show (4 : Int32) ≤ 2 from c72) (by decide)
          · have c72 : ¬ (4 : Int32) ≤ 2 := c72
            refine g_ald (pc' := 76) cd_Kn_linkNewTerms rfl (Or.inr ⟨_, rfl, rfl, rfl⟩) l0 rfl rfl ?_
            refine g_ald (pc' := 77) cd_Kn_linkNewTerms rfl (Or.inr ⟨_, rfl, rfl, rfl⟩) l0 rfl rfl ?_
            refine g_fI (c := 3) (k := 5) (x := (nI ln)) (pc' := 80) cd_Kn_linkNewTerms rfl rfl rfl rfl rfl (by decide) hKk2.1.1.1 hKk2.1.1.2 hKk2.1.2.2.2.1.2.2 ?_
            refine g_ild (pc' := 81) cd_Kn_linkNewTerms rfl (Or.inr ⟨_, rfl, rfl, rfl⟩) l1 rfl ?_
            refine g_callv (pc' := 84) cd_Kn_linkNewTerms rfl rfl rfl rfl rfl (tm_invV rfl rfl cd_Kn_link rfl (Nat.le_of_ble_eq_true rfl) (by decide) hKk2.1.1.1 hKk2.1.1.2) (kk_link hTk2 hKk2 hp (u := ln) (i := 2) (by omega) (by omega) (by decide) hA (fun Bk3 hKk3 hfk3 => ?_))
            have hTk3 := kt_TI hTk2 hKk2 hd hfk3
            have hFk3 := fz_trans hFk2 hfk3
            show bm_G _ _ _ 84 _ [] Bk3 _
            refine g_inc (y := 3) (pc' := 87) cd_Kn_linkNewTerms rfl l1 (by decide) (by decide) rfl (fun lv el => ?_)
            have l0 := tm_lk el l0 rfl (by decide)
            have l1 : lv.lookup 1 = some (.int 3) := tm_lks el
            clear el
            refine g_pure (pc' := 70) (st' := []) cd_Kn_linkNewTerms rfl rfl (fun _ _ => rfl) ?_
            refine g_ild (pc' := 71) cd_Kn_linkNewTerms rfl (Or.inr ⟨_, rfl, rfl, rfl⟩) l1 rfl ?_
            refine g_k1 (v := 4) (pc' := 72) cd_Kn_linkNewTerms rfl (by decide) rfl ?_
            refine g_if2 (t := 90) (pc' := 75) cd_Kn_linkNewTerms rfl rfl rfl (fun c72 => ?_) (fun c72 => ?_)
            · exact absurd (show (4 : Int32) ≤ 3 from c72) (by decide)
            · have c72 : ¬ (4 : Int32) ≤ 3 := c72
              refine g_ald (pc' := 76) cd_Kn_linkNewTerms rfl (Or.inr ⟨_, rfl, rfl, rfl⟩) l0 rfl rfl ?_
              refine g_ald (pc' := 77) cd_Kn_linkNewTerms rfl (Or.inr ⟨_, rfl, rfl, rfl⟩) l0 rfl rfl ?_
              refine g_fI (c := 3) (k := 5) (x := (nI ln)) (pc' := 80) cd_Kn_linkNewTerms rfl rfl rfl rfl rfl (by decide) hKk3.1.1.1 hKk3.1.1.2 hKk3.1.2.2.2.1.2.2 ?_
              refine g_ild (pc' := 81) cd_Kn_linkNewTerms rfl (Or.inr ⟨_, rfl, rfl, rfl⟩) l1 rfl ?_
              refine g_callv (pc' := 84) cd_Kn_linkNewTerms rfl rfl rfl rfl rfl (tm_invV rfl rfl cd_Kn_link rfl (Nat.le_of_ble_eq_true rfl) (by decide) hKk3.1.1.1 hKk3.1.1.2) (kk_link hTk3 hKk3 hp (u := ln) (i := 3) (by omega) (by omega) (by decide) hA (fun Bk4 hKk4 hfk4 => ?_))
              have hTk4 := kt_TI hTk3 hKk3 hd hfk4
              have hFk4 := fz_trans hFk3 hfk4
              show bm_G _ _ _ 84 _ [] Bk4 _
              refine g_inc (y := 4) (pc' := 87) cd_Kn_linkNewTerms rfl l1 (by decide) (by decide) rfl (fun lv el => ?_)
              have l0 := tm_lk el l0 rfl (by decide)
              have l1 : lv.lookup 1 = some (.int 4) := tm_lks el
              clear el
              refine g_pure (pc' := 70) (st' := []) cd_Kn_linkNewTerms rfl rfl (fun _ _ => rfl) ?_
              refine g_ild (pc' := 71) cd_Kn_linkNewTerms rfl (Or.inr ⟨_, rfl, rfl, rfl⟩) l1 rfl ?_
              refine g_k1 (v := 4) (pc' := 72) cd_Kn_linkNewTerms rfl (by decide) rfl ?_
              refine g_if2 (t := 90) (pc' := 75) cd_Kn_linkNewTerms rfl rfl rfl (fun c72 => ?_) (fun c72 => ?_)
              · have c72 : (4 : Int32) ≤ 4 := c72
                refine g_ald (pc' := 91) cd_Kn_linkNewTerms rfl (Or.inr ⟨_, rfl, rfl, rfl⟩) l0 rfl rfl ?_
                refine g_ald (pc' := 92) cd_Kn_linkNewTerms rfl (Or.inr ⟨_, rfl, rfl, rfl⟩) l0 rfl rfl ?_
                refine g_fI (c := 3) (k := 5) (x := (nI ln)) (pc' := 95) cd_Kn_linkNewTerms rfl rfl rfl rfl rfl (by decide) hKk4.1.1.1 hKk4.1.1.2 hKk4.1.2.2.2.1.2.2 ?_
                refine g_calli (pc' := 98) cd_Kn_linkNewTerms rfl rfl rfl rfl rfl (tm_invV rfl rfl cd_Kn_canBeMade rfl (Nat.le_of_ble_eq_true rfl) (by decide) hKk4.1.1.1 hKk4.1.1.2) (kk_canBeMade hTk4 hKk4 hp (u := ln) (by omega) (by omega) hA (fun hc => ?_) (fun hc => ?_))
                · skip
                  show bm_G _ _ _ 98 _ [.int 1] Bk4 _
                  refine g_if1 (t := 109) (pc' := 101) cd_Kn_linkNewTerms rfl rfl rfl (fun c98 => ?_) (fun c98 => ?_)
                  · exact absurd (show (1 : Int32) = 0 from c98) (by decide)
                  · have c98 : ¬ (1 : Int32) = 0 := c98
                    refine g_ald (pc' := 102) cd_Kn_linkNewTerms rfl (Or.inr ⟨_, rfl, rfl, rfl⟩) l0 rfl rfl ?_
                    refine g_ald (pc' := 103) cd_Kn_linkNewTerms rfl (Or.inr ⟨_, rfl, rfl, rfl⟩) l0 rfl rfl ?_
                    refine g_fI (c := 3) (k := 5) (x := (nI ln)) (pc' := 106) cd_Kn_linkNewTerms rfl rfl rfl rfl rfl (by decide) hKk4.1.1.1 hKk4.1.1.2 hKk4.1.2.2.2.1.2.2 ?_
                    refine g_callv (pc' := 109) cd_Kn_linkNewTerms rfl rfl rfl rfl rfl (tm_invV rfl rfl cd_Kn_learn rfl (Nat.le_of_ble_eq_true rfl) (by decide) hKk4.1.1.1 hKk4.1.1.2) (t_learn hTk4.1 hKk4 (tv_lt hA) (fun B1 L1 hK1 hf1 hL1 hm1 => ?_))
                    have hT1 := kt_TI hTk4 hKk4 hd hf1
                    have hs1 := snd_add hs hL1 (fun x hx => by rw [hA] at hx; cases hx; exact (Kn_clo G).2.1 _ (can_mono (fun y hy => snd_KL hs hy) hc))
                    have hP1 := (hP).trans (sub_add hL1)
                    have hF1 := fz_trans hFk4 hf1
                    show bm_G _ _ _ 109 _ [] B1 _
                    refine g_ald (pc' := 110) cd_Kn_linkNewTerms rfl (Or.inr ⟨_, rfl, rfl, rfl⟩) l0 rfl rfl ?_
                    refine g_pure (pc' := 111) (st' := [.ref k, .ref k]) cd_Kn_linkNewTerms rfl rfl (fun _ _ => rfl) ?_
                    refine g_fI (c := 3) (k := 5) (x := (nI ln)) (pc' := 114) cd_Kn_linkNewTerms rfl rfl rfl rfl rfl (by decide) hK1.1.1.1 hK1.1.1.2 hK1.1.2.2.2.1.2.2 ?_
                    refine g_k1 (v := 1) (pc' := 115) cd_Kn_linkNewTerms rfl (by decide) rfl ?_
                    refine g_pure (pc' := 116) (st' := [.int ((nI ln) + 1), .ref k]) cd_Kn_linkNewTerms rfl rfl (fun _ _ => rfl) ?_
                    rw [nI_1 ln]
                    refine g_putI (c := 3) (k := 5) (pc' := 119) cd_Kn_linkNewTerms rfl rfl rfl rfl (by simp [tm_okV, narrow, fits]) (Or.inl rfl) rfl (by decide) hK1.1.1.1 hK1.1.1.2 ?_
                    refine g_pure (pc' := 54) (st' := []) cd_Kn_linkNewTerms rfl rfl (fun _ _ => rfl) ?_
                    exact ih (ln + 1) _ L1 (by omega) (by omega) (kt_TI hT1 hK1 hd ⟨fr_mono (fun x h => Or.inl h) (fr_putI _ 3 5 k _), rfl, rfl⟩) (KK_next (by rw [show (ln + 1) * 4 = ln * 4 + 1 + 1 + 1 + 1 by omega]; exact hK1) (by omega)) hP1 hs1 (fz_trans hF1 ⟨fr_mono (fun x h => Or.inl h) (fr_putI _ 3 5 k _), rfl, rfl⟩) (fun u A2 h1 h2 hA2 c2 => (Nat.lt_or_ge u ln).elim (fun q => (sub_add hL1).subset (hdone u A2 h1 q hA2 c2)) (fun q => by have e : u = ln := (by omega); subst e; exact hm1.elim (fun q => absurd q (by omega)) id)) lv l0
                · skip
                  show bm_G _ _ _ 98 _ [.int 0] Bk4 _
                  refine g_if1 (t := 109) (pc' := 101) cd_Kn_linkNewTerms rfl rfl rfl (fun c98 => ?_) (fun c98 => ?_)
                  · have c98 : (0 : Int32) = 0 := c98
                    refine g_ald (pc' := 110) cd_Kn_linkNewTerms rfl (Or.inr ⟨_, rfl, rfl, rfl⟩) l0 rfl rfl ?_
                    refine g_pure (pc' := 111) (st' := [.ref k, .ref k]) cd_Kn_linkNewTerms rfl rfl (fun _ _ => rfl) ?_
                    refine g_fI (c := 3) (k := 5) (x := (nI ln)) (pc' := 114) cd_Kn_linkNewTerms rfl rfl rfl rfl rfl (by decide) hKk4.1.1.1 hKk4.1.1.2 hKk4.1.2.2.2.1.2.2 ?_
                    refine g_k1 (v := 1) (pc' := 115) cd_Kn_linkNewTerms rfl (by decide) rfl ?_
                    refine g_pure (pc' := 116) (st' := [.int ((nI ln) + 1), .ref k]) cd_Kn_linkNewTerms rfl rfl (fun _ _ => rfl) ?_
                    rw [nI_1 ln]
                    refine g_putI (c := 3) (k := 5) (pc' := 119) cd_Kn_linkNewTerms rfl rfl rfl rfl (by simp [tm_okV, narrow, fits]) (Or.inl rfl) rfl (by decide) hKk4.1.1.1 hKk4.1.1.2 ?_
                    refine g_pure (pc' := 54) (st' := []) cd_Kn_linkNewTerms rfl rfl (fun _ _ => rfl) ?_
                    exact ih (ln + 1) _ L (by omega) (by omega) (kt_TI hTk4 hKk4 hd ⟨fr_mono (fun x h => Or.inl h) (fr_putI _ 3 5 k _), rfl, rfl⟩) (KK_next (by rw [show (ln + 1) * 4 = ln * 4 + 1 + 1 + 1 + 1 by omega]; exact hKk4) (by omega)) hP hs (fz_trans hFk4 ⟨fr_mono (fun x h => Or.inl h) (fr_putI _ 3 5 k _), rfl, rfl⟩) (fun u A2 h1 h2 hA2 c2 => (Nat.lt_or_ge u ln).elim (fun q => hdone u A2 h1 q hA2 c2) (fun q => by have e : u = ln := (by omega); subst e; rw [hA] at hA2; cases hA2; exact absurd (can_mono (fun y hy => KL_mono hP hy) c2) hc)) lv l0
                  · exact absurd (show ¬ (0 : Int32) = 0 from c98) (by decide)
              · exact absurd (show ¬ (4 : Int32) ≤ 4 from c72) (by decide)
theorem fr_trans2 {X Y : Nat → Prop} {B B1 B2 : bm_H} (h : fr X B B1) (g : fr Y B1 B2) (hXY : ∀ x, x < bm_n B → Y x → X x) : fr X B B2 := by
  refine ⟨Nat.le_trans h.1 g.1, fun x hx => ?_⟩
  obtain ⟨h1, h2, h0, h3⟩ := h.2 x hx
  obtain ⟨g1, g2, g0, g3⟩ := g.2 x (Nat.lt_of_lt_of_le hx h.1)
  refine ⟨g1.trans h1, g2.trans h2, fun c k q => (g0 c k q).trans (h0 c k q), fun q => ?_⟩
  obtain ⟨h4, h5, h6, h7⟩ := h3 q
  obtain ⟨g4, g5, g6, g7⟩ := g3 (fun w => q (hXY x hx w))
  exact ⟨fun c k => (g4 c k).trans (h4 c k), fun c k => (g5 c k).trans (h5 c k), g6.trans h6, g7.trans h7⟩
set_option maxRecDepth 100000 in
theorem t_linkNew {sc : tm_X} {d : Nat} {B : bm_H} {k a kc kl rk sp ln ca ba da rm dr : Nat} {L : List Nat} {fp : Nat → Nat} {T : List Tm} {G : Tm → Prop} {Q : bm_H → Prop} (hT : TI B a ca ba da rm dr T) (hK : KK B k a kc kl rk L sp ln (ln * 4) ln fp) (hp : pp_ok T fp) (hd : kt_ap kc kl ca ba da) (hln : ln ≤ T.length) (hrr : 2 * rk ≤ rm ∨ rk = rm) (hs : snd T G L) (kk : ∀ B' kc' kl' rk' L', TI B' a ca ba da rm dr T → KK B' k a kc' kl' rk' L' sp T.length (T.length * 4) T.length fp → kt_ap kc' kl' ca ba da → L <+: L' → snd T G L' → (∀ u A, ln ≤ u → T[u]? = some A → can (KL T L) A → u ∈ L') → fr (kx k kc kl) B B' → ((kc' = kc ∧ kl' = kl) ∨ (bm_n B ≤ kc' ∧ bm_n B ≤ kl')) → (rk' = rm ∧ bm_sl B' + 14 * (65536 - rk') ≤ bm_sl B + 14 * (65536 - rk) ∧ bm_n B' + 2 * (65536 - rk') ≤ bm_n B + 2 * (65536 - rk)) → Q B') : bm_Gv sc (d + 2) 19 [.ref k] B Q := by
  have hr := KK_rk hK
  have hl := TI_len hT
  show bm_G sc (d + 2) 19 0 [(0, .ref k)] [] B _
  generalize elv : ([(0, .ref k)] : tm_L) = lv
  have l0 : lv.lookup 0 = some (.ref k) := by rw [← elv]; rfl
  clear elv
  refine g_ald (pc' := 1) cd_Kn_linkNewTerms rfl (Or.inr ⟨_, rfl, rfl, rfl⟩) l0 rfl rfl ?_
  refine g_fR (c := 3) (k := 2) (x := kl) (pc' := 4) cd_Kn_linkNewTerms rfl rfl rfl rfl rfl (by decide) hK.1.1.1 hK.1.1.2 hK.1.2.1.2.2 ?_
  refine g_al (x := (nI rk)) (pc' := 5) cd_Kn_linkNewTerms rfl rfl hK.1.2.2.1.2.1 (Nat.le_of_eq (Eq.symm hK.1.2.2.1.2.2.1)) (by rw [show bm_K B kl = 13 from hK.1.2.2.1.2.2.1]; decide) (by rw [show bm_AL B kl = rk from hK.1.2.2.1.2.2.2]; rfl) ?_
  refine g_ald (pc' := 6) cd_Kn_linkNewTerms rfl (Or.inr ⟨_, rfl, rfl, rfl⟩) l0 rfl rfl ?_
  refine g_fR (c := 3) (k := 0) (x := a) (pc' := 9) cd_Kn_linkNewTerms rfl rfl rfl rfl rfl (by decide) hK.1.1.1 hK.1.1.2 hK.1.2.1.1 ?_
  refine g_fI (c := 9) (k := 3) (x := (nI rm)) (pc' := 12) cd_Kn_linkNewTerms rfl rfl rfl rfl rfl (by decide) hT.1.1.1 hT.1.1.2 hT.1.2.2.2.1.1 ?_
  refine g_if2 (t := 54) (pc' := 15) cd_Kn_linkNewTerms rfl rfl rfl (fun c12 => ?_) (fun c12 => ?_)
  · have c12 : (nI rm) ≤ (nI rk) := c12
    have hrk : rm ≤ rk := (nI_leI (by omega) (by omega)).mp c12
    exact l_linkNew hp hd hr.2.2 (fun B1 L1 hT1 hK1 hP1 hs1 hF1 hd1 => kk B1 kc kl rk L1 hT1 hK1 hd hP1 hs1 hd1 hF1.1 (Or.inl ⟨rfl, rfl⟩) ⟨by omega, by rw [hF1.2.2]; exact Nat.le_refl _, by rw [hF1.2.1]; exact Nat.le_refl _⟩) (T.length - ln) ln B L (by omega) (Nat.le_refl _) hT (KK_N hK hln (by omega)) (List.prefix_refl L) hs (fz_rfl _ B) (fun u A h1 h2 => by omega) lv l0
  · have c12 : ¬ (nI rm) ≤ (nI rk) := c12
    have hlt : rk < rm := Nat.lt_of_not_le (fun q => c12 (nI_le q (by omega)))
    have hno : ∀ v, rk ≤ v → ul fp v (ln * 4) = 0 := fun v hv => ul_none (fun e h4 he => by obtain ⟨A, hA⟩ : ∃ A, T[e / 4]? = some A := ⟨_, List.getElem?_eq_getElem (show e / 4 < T.length by omega)⟩; have := (hp (e / 4) A (e % 4) (by omega) hA (by omega)).1; rw [show e / 4 * 4 + e % 4 = e by omega] at this; omega)
    refine g_ald (pc' := 16) cd_Kn_linkNewTerms rfl (Or.inr ⟨_, rfl, rfl, rfl⟩) l0 rfl rfl ?_
    refine g_ald (pc' := 17) cd_Kn_linkNewTerms rfl (Or.inr ⟨_, rfl, rfl, rfl⟩) l0 rfl rfl ?_
    refine g_fR (c := 3) (k := 1) (x := kc) (pc' := 20) cd_Kn_linkNewTerms rfl rfl rfl rfl rfl (by decide) hK.1.1.1 hK.1.1.2 hK.1.2.1.2.1 ?_
    refine g_ald (pc' := 21) cd_Kn_linkNewTerms rfl (Or.inr ⟨_, rfl, rfl, rfl⟩) l0 rfl rfl ?_
    refine g_fR (c := 3) (k := 0) (x := a) (pc' := 24) cd_Kn_linkNewTerms rfl rfl rfl rfl rfl (by decide) hK.1.1.1 hK.1.1.2 hK.1.2.1.1 ?_
    refine g_fI (c := 9) (k := 3) (x := (nI rm)) (pc' := 27) cd_Kn_linkNewTerms rfl rfl rfl rfl rfl (by decide) hT.1.1.1 hT.1.1.2 hT.1.2.2.2.1.1 ?_
    refine g_k2 (v := 6) (pc' := 29) cd_Kn_linkNewTerms rfl (by decide) rfl ?_
    refine g_pure (pc' := 30) (st' := [.int ((nI rm) * 6), .ref kc, .ref k]) cd_Kn_linkNewTerms rfl rfl (fun _ _ => rfl) ?_
    rw [show nI rm * 6 = nI (rm * 6) from pk_mul rm 6]
    refine g_callr (pc' := 33) cd_Kn_linkNewTerms rfl rfl rfl rfl rfl (tm_invS rfl rfl cd_Ar_copyOf rfl (Nat.le_of_ble_eq_true rfl)) (k_Ar_copyOf hK.1.2.2.1.1.1 hK.1.2.2.1.1.2.1 hK.1.2.2.1.1.2.2 (N := rm * 6) (by omega) (by omega) ?_)
    show bm_G _ _ _ 33 _ [.ref ((bm_n B)), .ref k] (bm_grow B kc (rk * 6) (rm * 6)) _
    refine g_putR (v := some (bm_n B)) (c := 3) (k := 1) (pc' := 36) rfl cd_Kn_linkNewTerms rfl rfl rfl rfl (by simp [tm_okV, narrow, fits]) (Or.inl rfl) rfl (by decide) (Nat.lt_succ_of_lt hK.1.1.1) ((bm_newA_K (t := 13) (N := rm * 6) hK.1.1.1).trans hK.1.1.2) ?_
    refine g_ald (pc' := 37) cd_Kn_linkNewTerms rfl (Or.inr ⟨_, rfl, rfl, rfl⟩) l0 rfl rfl ?_
    refine g_ald (pc' := 38) cd_Kn_linkNewTerms rfl (Or.inr ⟨_, rfl, rfl, rfl⟩) l0 rfl rfl ?_
    refine g_fR (c := 3) (k := 2) (x := kl) (pc' := 41) cd_Kn_linkNewTerms rfl rfl rfl rfl rfl (by decide) (Nat.lt_succ_of_lt hK.1.1.1) ((bm_newA_K (t := 13) (N := rm * 6) hK.1.1.1).trans hK.1.1.2) hK.1.2.1.2.2 ?_
    refine g_ald (pc' := 42) cd_Kn_linkNewTerms rfl (Or.inr ⟨_, rfl, rfl, rfl⟩) l0 rfl rfl ?_
    refine g_fR (c := 3) (k := 0) (x := a) (pc' := 45) cd_Kn_linkNewTerms rfl rfl rfl rfl rfl (by decide) (Nat.lt_succ_of_lt hK.1.1.1) ((bm_newA_K (t := 13) (N := rm * 6) hK.1.1.1).trans hK.1.1.2) hK.1.2.1.1 ?_
    refine g_fI (c := 9) (k := 3) (x := (nI rm)) (pc' := 48) cd_Kn_linkNewTerms rfl rfl rfl rfl rfl (by decide) (Nat.lt_succ_of_lt hT.1.1.1) ((bm_newA_K (t := 13) (N := rm * 6) hT.1.1.1).trans hT.1.1.2) hT.1.2.2.2.1.1 ?_
    refine g_callr (pc' := 51) cd_Kn_linkNewTerms rfl rfl rfl rfl rfl (tm_invS rfl rfl cd_Ar_copyOf rfl (Nat.le_of_ble_eq_true rfl)) (k_Ar_copyOf (B := kn_gr1 B k kc rk rm) (c := kl) (L := rk) (N := rm) (Nat.lt_succ_of_lt hK.1.2.2.1.2.1) ((bm_newA_K (t := 13) (N := rm * 6) hK.1.2.2.1.2.1).trans hK.1.2.2.1.2.2.1) ((bm_newA_AL (t := 13) (N := rm * 6) hK.1.2.2.1.2.1).trans hK.1.2.2.1.2.2.2) (by omega) (by omega) ?_)
    show bm_G _ _ _ 51 _ [.ref ((bm_n B + 1)), .ref k] (bm_grow (kn_gr1 B k kc rk rm) kl rk rm) _
    refine g_putR (v := some (bm_n B + 1)) (c := 3) (k := 2) (pc' := 54) rfl cd_Kn_linkNewTerms rfl rfl rfl rfl (by simp [tm_okV, narrow, fits]) (Or.inl rfl) rfl (by decide) (show k < bm_n B + 1 + 1 by have := hK.1.1.1; omega) (((va_up_ne _ _ (by show k ≠ bm_n B + 1; have := hK.1.1.1; omega)).trans (bm_newA_K (t := 13) (N := rm * 6) hK.1.1.1)).trans hK.1.1.2) ?_
    obtain ⟨gK, gf, gn, gs⟩ := KK_grow hK hlt (by omega) hno (by omega)
    have hd2 : kt_ap (bm_n B) (bm_n B + 1) ca ba da := by have q1 := hT.1.2.2.1.1.1; have q2 := hT.1.2.2.1.2.1.1; have q3 := hT.1.2.2.1.2.2.1; exact ⟨⟨by omega, by omega, by omega⟩, by omega, by omega, by omega⟩
    have hT2 := TI_fr hT gf (kt_n hT hK hd).1 (kt_n hT hK hd).2.1 (kt_n hT hK hd).2.2.1
    exact l_linkNew hp hd2 hr.2.2 (fun B1 L1 hT1 hK1 hP1 hs1 hF1 hd1 => kk B1 (bm_n B) (bm_n B + 1) rm L1 hT1 hK1 hd2 hP1 hs1 hd1 (fr_trans2 gf hF1.1 (fun x hx w => w.elim Or.inl (fun w => by omega))) (Or.inr ⟨by omega, by omega⟩) ⟨rfl, by rw [hF1.2.2, gs]; omega, by rw [hF1.2.1, gn]; omega⟩) (T.length - ln) ln _ L (by omega) (Nat.le_refl _) hT2 (KK_N gK hln (by omega)) (List.prefix_refl L) hs (fz_rfl _ _) (fun u A h1 h2 => by omega) lv l0
