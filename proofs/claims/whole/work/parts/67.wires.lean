/-! Wires.tell -/
def xw (F : Nat → Prop) (y : Nat) : Prop := xc F y ∨ (8 ≤ y ∧ y ≤ 10)
theorem xc_8 {F : Nat → Prop} {y : Nat} (h : 8 ≤ y) (h2 : y < 1482) : ¬ xc F y := by unfold xc; omega
theorem RWi_next {B B' : bm_H} {T : List Tm} {q : Nat} {ws : List (Tm × Int32)} {A : Tm} {wt : List Tm} (h : RWi B T q ws (A :: wt)) (hf : fr (fun y => y = q) B B') (e2 : bm_FI B' 10 2 q = nI (ws.length + 1)) (e3 : bm_FI B' 10 3 q = nI wt.length) : RWi B' T q (ws ++ [(A, -1)]) wt := by
  obtain ⟨h1, ⟨h2, h3, h4⟩, h5, h6⟩ := h
  have a1 := fr_AI hf h1.2.2.1.1 (by omega)
  have a2 := fr_AI hf h1.2.2.2.1 (by omega)
  simp at h4
  refine ⟨WiS_fr h1 hf, ⟨by rw [e2]; simp, e3, by simp; omega⟩, fun i e he => ?_, fun i C hC => ?_⟩
  · rw [a1, a2]
    have hi := (List.getElem?_eq_some_iff.mp he).1
    simp at hi
    by_cases c : i = ws.length
    · subst c
      simp at he
      subst he
      exact h6 0 A rfl
    · rw [List.getElem?_append_left (by omega)] at he
      exact h5 i e he
  · rw [a1, a2]
    have := h6 (i + 1) C (by simpa using hC)
    rw [show (ws ++ [(A, (-1 : Int32))]).length + i = ws.length + (i + 1) by simp; omega]
    exact this
theorem RWi_last {B B' : bm_H} {T : List Tm} {q : Nat} {ws : List (Tm × Int32)} {A : Tm} {l0 l : Int32} (h : RWi B T q (ws ++ [(A, l0)]) []) (hf : fr (fun y => y = q + 2) B B') (e : bm_AI B' (q + 2) = upd (bm_AI B (q + 2)) ws.length l) : RWi B' T q (ws ++ [(A, l)]) [] := by
  obtain ⟨h1, ⟨h2, h3, h4⟩, h5, h6⟩ := h
  have a1 := fr_AI hf h1.2.2.1.1 (by omega)
  refine ⟨WiS_fr h1 hf, ⟨(fr_FI hf h1.1.1 (by omega) 10 2).trans (by rw [h2]; simp), (fr_FI hf h1.1.1 (by omega) 10 3).trans h3, by simp at h4 ⊢; exact h4⟩, fun i e' he => ?_, fun i C hC => by simp at hC⟩
  rw [a1, e]
  have hi := (List.getElem?_eq_some_iff.mp he).1
  simp at hi
  by_cases c : i = ws.length
  · subst c
    simp at he
    subst he
    exact ⟨(h5 ws.length (A, l0) (by simp)).1, if_pos rfl⟩
  · rw [pk_un c]
    rw [List.getElem?_append_left (by omega)] at he
    exact h5 i e' (by rw [List.getElem?_append_left (by omega)]; exact he)
theorem l_tell {sc : tm_X} {d : Nat} {F : Nat → Prop} {N S M : Nat} {T : List Tm} {dr ca rm : Nat} {l : Int32} {Q : Option Value → bm_H → Prop} : ∀ (wt : List Tm) (ws : List (Tm × Int32)) (B : bm_H) (G : Tm → Prop) (ln kc kl rk : Nat), CK B F N S M ln T dr G ca rm kc kl rk → RWi B T 8 ws wt → (∀ B' kc' kl' rk' ln' (lv2 : tm_L), CK B' F N S M ln' T dr (fun y => G y ∨ y ∈ wt) ca rm kc' kl' rk' → RWi B' T 8 (ws ++ wt.map (fun A => (A, -1))) [] → (wt ≠ [] → ln' = T.length) ∧ (wt = [] → ln' = ln) → fr (xw F) B B' → lv2.lookup 0 = some (.ref 8) → lv2.lookup 2 = some (.int l) → bm_G sc (d + 4) 93 43 lv2 [] B' Q) → ∀ lv : tm_L, lv.lookup 0 = some (.ref 8) → lv.lookup 1 = some (.ref 5) → lv.lookup 2 = some (.int l) → bm_G sc (d + 4) 93 0 lv [] B Q := by
  intro wt
  induction wt with
  | nil =>
    intro ws B G ln kc kl rk hC hR kk lv l0 l1 l2
    refine g_ald (pc' := 1) cd_Wi_tell rfl (Or.inr ⟨_, rfl, rfl, rfl⟩) l0 rfl rfl ?_
    refine g_fI (c := 10) (k := 3) (x := nI (0)) (pc' := 4) cd_Wi_tell rfl rfl rfl rfl rfl (by decide) hR.1.1.1 hR.1.1.2 hR.2.1.2.1 ?_
    refine g_if1 (t := 43) (pc' := 7) cd_Wi_tell rfl rfl rfl (fun c4 => ?_) (fun c4 => ?_)
    · have c4 : (nI (0)) ≤ 0 := c4
      exact kk B kc kl rk ln lv (by have e : (fun y => G y ∨ y ∈ ([] : List Tm)) = G := (by funext y; simp); rw [e]; exact hC) (by simpa using hR) ⟨fun q => absurd rfl q, fun _ => rfl⟩ (fr_rfl _ B) l0 l2
    · have c4 : ¬ (nI (0)) ≤ 0 := c4
      exact absurd (show nI 0 ≤ 0 by decide) c4
  | cons A wt ih =>
    intro ws B G ln kc kl rk hC hR kk lv l0 l1 l2
    have h7 := hR.2.1.2.2
    simp at h7
    have hk5 : 5 < bm_n B ∧ bm_K B 5 = 3 := by obtain ⟨L, fp, -, hK, -⟩ := hC.2.1; exact hK.1.1
    refine g_ald (pc' := 1) cd_Wi_tell rfl (Or.inr ⟨_, rfl, rfl, rfl⟩) l0 rfl rfl ?_
    refine g_fI (c := 10) (k := 3) (x := nI (wt.length + 1)) (pc' := 4) cd_Wi_tell rfl rfl rfl rfl rfl (by decide) hR.1.1.1 hR.1.1.2 hR.2.1.2.1 ?_
    refine g_if1 (t := 43) (pc' := 7) cd_Wi_tell rfl rfl rfl (fun c4 => ?_) (fun c4 => ?_)
    · have c4 : (nI (wt.length + 1)) ≤ 0 := c4
      exact absurd c4 (nI_nle (by omega) (by omega))
    · have c4 : ¬ (nI (wt.length + 1)) ≤ 0 := c4
      refine g_ald (pc' := 8) cd_Wi_tell rfl (Or.inr ⟨_, rfl, rfl, rfl⟩) l1 rfl rfl ?_
      refine g_ald (pc' := 9) cd_Wi_tell rfl (Or.inr ⟨_, rfl, rfl, rfl⟩) l0 rfl rfl ?_
      refine g_fR (c := 10) (k := 0) (x := 9) (pc' := 12) cd_Wi_tell rfl rfl rfl rfl rfl (by decide) hR.1.1.1 hR.1.1.2 hR.1.2.1.1 ?_
      refine g_ald (pc' := 13) cd_Wi_tell rfl (Or.inr ⟨_, rfl, rfl, rfl⟩) l0 rfl rfl ?_
      refine g_fI (c := 10) (k := 2) (x := nI (ws.length)) (pc' := 16) cd_Wi_tell rfl rfl rfl rfl rfl (by decide) hR.1.1.1 hR.1.1.2 hR.2.1.1 ?_
      refine g_aI (x := (bm_AI B 9 ws.length)) (pc' := 17) cd_Wi_tell rfl rfl hR.1.2.2.1.1 hR.1.2.2.1.2.1 (by rw [show bm_AL B 9 = 700 from hR.1.2.2.1.2.2]; exact vp_in_nI (by omega) (by decide)) (congrArg (bm_AI B 9) (nI_clamp (by omega))) ?_
      refine g_callv (pc' := 20) cd_Wi_tell rfl rfl rfl rfl rfl (tm_invV rfl rfl cd_Kn_give rfl (Nat.le_of_ble_eq_true rfl) (by decide) hk5.1 hk5.2) (t_giveC hC (hR.2.2.2 0 A rfl).1 (fun B1 kc1 kl1 rk1 hC1 hf1 => ?_))
      have hR1 := RWi_fr hR hf1 (xc_8 (by decide) (by decide)) (xc_8 (by decide) (by decide)) (xc_8 (by decide) (by decide)) (List.prefix_refl T)
      show bm_G _ _ _ 20 _ [] B1 _
      refine g_ald (pc' := 21) cd_Wi_tell rfl (Or.inr ⟨_, rfl, rfl, rfl⟩) l0 rfl rfl ?_
      refine g_pure (pc' := 22) (st' := [.ref 8, .ref 8]) cd_Wi_tell rfl rfl (fun _ _ => rfl) ?_
      refine g_fI (c := 10) (k := 2) (x := nI (ws.length)) (pc' := 25) cd_Wi_tell rfl rfl rfl rfl rfl (by decide) hR1.1.1.1 hR1.1.1.2 hR1.2.1.1 ?_
      refine g_k1 (v := 1) (pc' := 26) cd_Wi_tell rfl (by decide) rfl ?_
      refine g_pure (pc' := 27) (st' := [.int ((nI (ws.length)) + 1), .ref 8]) cd_Wi_tell rfl rfl (fun _ _ => rfl) ?_
      rw [show ((nI (ws.length)) + 1 : Int32) = nI ((ws.length) + 1) from nI_add (ws.length) 1]
      refine g_putI (c := 10) (k := 2) (pc' := 30) cd_Wi_tell rfl rfl rfl rfl (by simp [tm_okV, narrow, fits]) (Or.inl rfl) rfl (by decide) hR1.1.1.1 hR1.1.1.2 ?_
      have P1 : bm_FI (bm_putI B1 10 2 8 (nI ((ws.length) + 1))) 10 2 8 = nI ((ws.length) + 1) := rfl
      have Z2 : fz (fun y => y = 8) B1 (bm_putI B1 10 2 8 (nI ((ws.length) + 1))) := fz_trans (fz_rfl _ B1) ⟨fr_mono (fun _ q => q) (fr_putI _ 10 2 8 _), rfl, rfl⟩
      refine g_ald (pc' := 31) cd_Wi_tell rfl (Or.inr ⟨_, rfl, rfl, rfl⟩) l0 rfl rfl ?_
      refine g_pure (pc' := 32) (st' := [.ref 8, .ref 8]) cd_Wi_tell rfl rfl (fun _ _ => rfl) ?_
      refine g_fI (c := 10) (k := 3) (x := nI (wt.length + 1)) (pc' := 35) cd_Wi_tell rfl rfl rfl rfl rfl (by decide) hR1.1.1.1 hR1.1.1.2 hR1.2.1.2.1 ?_
      refine g_k1 (v := 1) (pc' := 36) cd_Wi_tell rfl (by decide) rfl ?_
      refine g_pure (pc' := 37) (st' := [.int ((nI (wt.length + 1)) - 1), .ref 8]) cd_Wi_tell rfl rfl (fun _ _ => rfl) ?_
      rw [show ((nI (wt.length + 1)) - 1 : Int32) = nI ((wt.length + 1) - 1) from pk_sub (a := (wt.length + 1)) (b := 1) (by omega)]
      refine g_putI (c := 10) (k := 3) (pc' := 40) cd_Wi_tell rfl rfl rfl rfl (by simp [tm_okV, narrow, fits]) (Or.inl rfl) rfl (by decide) hR1.1.1.1 hR1.1.1.2 ?_
      have P3 : bm_FI (bm_putI (bm_putI B1 10 2 8 (nI ((ws.length) + 1))) 10 3 8 (nI ((wt.length + 1) - 1))) 10 3 8 = nI ((wt.length + 1) - 1) := rfl
      have Z4 : fz (fun y => y = 8) B1 (bm_putI (bm_putI B1 10 2 8 (nI ((ws.length) + 1))) 10 3 8 (nI ((wt.length + 1) - 1))) := fz_trans Z2 ⟨fr_mono (fun _ q => q) (fr_putI _ 10 3 8 _), rfl, rfl⟩
      refine g_pure (pc' := 0) (st' := []) cd_Wi_tell rfl rfl (fun _ _ => rfl) ?_
      have hR2 := RWi_next hR1 Z4.1 P1 P3
      have hC2 := CK_made hC1 (TI_fr hC1.1 Z4.1 (by decide) (by have := hC1.2.2.2.2.2.1; omega) (by decide)) (List.prefix_refl T) Z4 (fun y q => Or.inr (by omega))
      exact ih _ _ _ _ _ _ _ hC2 hR2 (fun B' kc' kl' rk' ln' lv2 q1 q2 q3 q4 => kk B' kc' kl' rk' ln' lv2 (by have e : (fun y => G y ∨ y ∈ A :: wt) = (fun y => (G y ∨ y = A) ∨ y ∈ wt) := (by funext y; simp [or_assoc]); rw [e]; exact q1) (by simpa using q2) ⟨fun _ => by by_cases cw : wt = []; (exact q3.2 cw); exact q3.1 cw, fun q => by cases q⟩ (fr_trans (fr_trans (fr_mono (fun _ q => Or.inl q) hf1) (fr_mono (fun _ q => Or.inr (by omega)) Z4.1)) q4)) lv l0 l1 l2
theorem t_Wtell {sc : tm_X} {d : Nat} {B : bm_H} {G : Tm → Prop} {ln kc kl rk : Nat} {F : Nat → Prop} {N S M : Nat} {T : List Tm} {dr ca rm : Nat} {l : Int32} {ws : List (Tm × Int32)} {wt : List Tm} {A : Tm} {Q : Int32 → bm_H → Prop} (hC : CK B F N S M ln T dr G ca rm kc kl rk) (hR : RWi B T 8 ws (wt ++ [A])) (kk : ∀ B' kc' kl' rk', CK B' F N S M T.length T dr (fun y => G y ∨ y ∈ wt ++ [A]) ca rm kc' kl' rk' → RWi B' T 8 (ws ++ wt.map (fun A => (A, -1)) ++ [(A, l)]) [] → fr (xw F) B B' → Q (nI (ws.length + wt.length)) B') : bm_Gi sc (d + 4) 93 [.ref 8, .ref 5, .int l] B Q := by
  have h7 := hR.2.1.2.2
  simp at h7
  show bm_G sc (d + 4) 93 0 [(0, .ref 8), (1, .ref 5), (2, .int l)] [] B _
  generalize elv : ([(0, .ref 8), (1, .ref 5), (2, .int l)] : tm_L) = lv
  have l0 : lv.lookup 0 = some (.ref 8) := by rw [← elv]; rfl
  have l1 : lv.lookup 1 = some (.ref 5) := by rw [← elv]; rfl
  have l2 : lv.lookup 2 = some (.int l) := by rw [← elv]; rfl
  clear elv
  refine l_tell _ _ _ _ _ _ _ _ hC hR (fun B1 kc1 kl1 rk1 ln1 lv hC1 hR1 hl1 hf1 l0 l2 => ?_) lv l0 l1 l2
  have hln := hl1.1 (by simp)
  subst hln
  have hR2 : RWi B1 T 8 ((ws ++ wt.map (fun A => (A, (-1 : Int32)))) ++ [(A, (-1 : Int32))]) [] := by simpa using hR1
  have hlen : ((ws ++ wt.map (fun A => (A, (-1 : Int32)))) ++ [(A, (-1 : Int32))]).length = ws.length + wt.length + 1 := by simp; omega
  have hfi := hR2.2.1.1
  rw [hlen] at hfi
  refine g_ald (pc' := 44) cd_Wi_tell rfl (Or.inr ⟨_, rfl, rfl, rfl⟩) l0 rfl rfl ?_
  refine g_fI (c := 10) (k := 2) (x := nI (ws.length + wt.length + 1)) (pc' := 47) cd_Wi_tell rfl rfl rfl rfl rfl (by decide) hR2.1.1.1 hR2.1.1.2 hfi ?_
  refine g_if1 (t := 62) (pc' := 50) cd_Wi_tell rfl rfl rfl (fun c47 => ?_) (fun c47 => ?_)
  · have c47 : (nI (ws.length + wt.length + 1)) ≤ 0 := c47
    exact absurd c47 (nI_nle (by omega) (by omega))
  · have c47 : ¬ (nI (ws.length + wt.length + 1)) ≤ 0 := c47
    refine g_ald (pc' := 51) cd_Wi_tell rfl (Or.inr ⟨_, rfl, rfl, rfl⟩) l0 rfl rfl ?_
    refine g_fR (c := 10) (k := 1) (x := 10) (pc' := 54) cd_Wi_tell rfl rfl rfl rfl rfl (by decide) hR2.1.1.1 hR2.1.1.2 hR2.1.2.1.2 ?_
    refine g_ald (pc' := 55) cd_Wi_tell rfl (Or.inr ⟨_, rfl, rfl, rfl⟩) l0 rfl rfl ?_
    refine g_fI (c := 10) (k := 2) (x := nI (ws.length + wt.length + 1)) (pc' := 58) cd_Wi_tell rfl rfl rfl rfl rfl (by decide) hR2.1.1.1 hR2.1.1.2 hfi ?_
    refine g_k1 (v := 1) (pc' := 59) cd_Wi_tell rfl (by decide) rfl ?_
    refine g_pure (pc' := 60) (st' := [.int ((nI (ws.length + wt.length + 1)) - 1), .ref 10]) cd_Wi_tell rfl rfl (fun _ _ => rfl) ?_
    rw [show ((nI (ws.length + wt.length + 1)) - 1 : Int32) = nI ((ws.length + wt.length + 1) - 1) from pk_sub (a := (ws.length + wt.length + 1)) (b := 1) (by omega)]
    refine g_ild (pc' := 61) cd_Wi_tell rfl (Or.inr ⟨_, rfl, rfl, rfl⟩) l2 rfl ?_
    refine g_iast (pc' := 62) cd_Wi_tell rfl rfl hR2.1.2.2.2.1 hR2.1.2.2.2.2.1 (by rw [show bm_AL B1 10 = 700 from hR2.1.2.2.2.2.2]; exact vp_in_nI (by omega) (by decide)) ?_
    rw [show (nI ((ws.length + wt.length + 1) - 1) : Int32).toNatClampNeg = ((ws.length + wt.length + 1) - 1) from nI_clamp (by omega)]
    have A5 : bm_AI (bm_setI B1 10 ((ws.length + wt.length + 1) - 1) l) 10 = (upd (bm_AI B1 10) ((ws.length + wt.length + 1) - 1) l) := ((AI_set B1 10 ((ws.length + wt.length + 1) - 1) l).trans (congrArg (fun f => upd f ((ws.length + wt.length + 1) - 1) l) (show bm_AI B1 10 = (bm_AI B1 10) from rfl)))
    have Z6 : fz (fun y => y = 10) B1 (bm_setI B1 10 ((ws.length + wt.length + 1) - 1) l) := fz_trans (fz_rfl _ B1) ⟨fr_mono (fun _ q => q) (fr_setI _ 10 _ _), rfl, rfl⟩
    refine g_ald (pc' := 63) cd_Wi_tell rfl (Or.inr ⟨_, rfl, rfl, rfl⟩) l0 rfl rfl ?_
    refine g_fI (c := 10) (k := 2) (x := nI (ws.length + wt.length + 1)) (pc' := 66) cd_Wi_tell rfl rfl rfl rfl rfl (by decide) hR2.1.1.1 hR2.1.1.2 hfi ?_
    refine g_k1 (v := 1) (pc' := 67) cd_Wi_tell rfl (by decide) rfl ?_
    refine g_pure (pc' := 68) (st' := [.int ((nI (ws.length + wt.length + 1)) - 1)]) cd_Wi_tell rfl rfl (fun _ _ => rfl) ?_
    rw [show ((nI (ws.length + wt.length + 1)) - 1 : Int32) = nI ((ws.length + wt.length + 1) - 1) from pk_sub (a := (ws.length + wt.length + 1)) (b := 1) (by omega)]
    have hA : bm_AI (bm_setI B1 10 ((ws.length + wt.length + 1) - 1) l) 10 = upd (bm_AI B1 10) (ws ++ wt.map (fun A => (A, (-1 : Int32)))).length l := by rw [show (ws ++ wt.map (fun A => (A, (-1 : Int32)))).length = ws.length + wt.length + 1 - 1 by simp]; exact A5
    have hC2 := CK_made hC1 (TI_fr hC1.1 Z6.1 (by decide) (by have := hC1.2.2.2.2.2.1; omega) (by decide)) (List.prefix_refl T) Z6 (fun y q => Or.inr (by omega))
    exact g_reti cd_Wi_tell rfl ⟨_, rfl, (bm_eq (kk _ kc1 kl1 rk1 hC2 (RWi_last hR2 Z6.1 hA) (fr_trans hf1 (fr_mono (fun _ q => Or.inr (by omega)) Z6.1))) (congrArg nI (by omega)))⟩
