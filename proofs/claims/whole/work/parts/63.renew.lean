/-! Device.renewKeys -/
def on_fill (v : Int32) : Nat → Nat → Int32 → List (Tm × Int32) → List (Tm × Int32) × Int32
  | 0, _, ln, on => (on, ln)
  | n + 1, dr, ln, on => on_fill v n (dr + 1) (ln + 1) (on ++ [(Tsec (nI dr) v 0, ln + 1)])
def dxs (a ca ba da x y : Nat) : Prop := tcs a ca ba da y ∨ (x ≤ y ∧ y < x + 203)
theorem pA_flip (x : Nat) (b : Bool) {k : Nat} (hk : k < 2) : pA x (!b) k = pA x b (1 - k) := by
  unfold pA
  rw [sJ_not b hk]
theorem ROn_push {B B' : bm_H} {T T' : List Tm} {x : Nat} {on : List (Tm × Int32)} {s n : Int32} {A : Tm} (h : ROn B T x on) (h4 : on.length < 4) (hT : T <+: T') (e7 : bm_FI B' 0 7 x = nI (on.length + 1)) (a6 : bm_AI B' (x + 6) = upd (bm_AI B (x + 6)) on.length s) (a7 : bm_AI B' (x + 7) = upd (bm_AI B (x + 7)) on.length n) (hs : tv T' s A) : ROn B' T' x (on ++ [(A, n)]) := by
  refine ⟨⟨by rw [e7]; simp, by simp; omega⟩, fun i e he => ?_⟩
  have hi := (List.getElem?_eq_some_iff.mp he).1
  simp at hi
  rw [a6, a7]
  by_cases c : i = on.length
  · subst c
    simp at he
    subst he
    simp [upd]
    exact hs
  · rw [List.getElem?_append_left (by omega)] at he
    rw [pk_un c, pk_un c]
    exact ⟨tv_mono hT (h.2 i e he).1, (h.2 i e he).2⟩
set_option maxRecDepth 100000 in
theorem l_renew {sc : tm_X} {d a ca ba da rm : Nat} {v : Int32} {x : Nat} {w : SW} {id : Tm} {K0 K1 : PK} {se : Nat → List SS} {me : Nat → MM} {Q : bm_H → Prop} (hn : ∀ y, x ≤ y → y < x + 203 → ¬ tcs a ca ba da y) : ∀ (n dr : Nat) (on : List (Tm × Int32)) (ln : Int32) (B : bm_H) (T : List Tm), on.length + n = 4 → TI B a ca ba da rm dr T → RDe B T x w (id, K0, K1, on, ln, se, me) → T.length + 2 * n < rm → dr + n < 100000 → (∀ B' T', T <+: T' → T'.length ≤ T.length + 2 * n → TI B' a ca ba da rm (dr + n) T' → RDe B' T' x w (id, K0, K1, (on_fill v n dr ln on).1, (on_fill v n dr ln on).2, se, me) → fz (dxs a ca ba da x) B B' → Q B') → ∀ lv : tm_L, lv.lookup 0 = some (.ref x) → lv.lookup 1 = some (.ref a) → lv.lookup 2 = some (.int v) → bm_G sc (d + 3) 43 50 lv [] B (fun r B' => r = none ∧ Q B') := by
  intro n
  induction n with
  | zero =>
    intro dr on ln B T hm hT hR hrm hdr kk lv l0 l1 l2
    refine g_ald (pc' := 51) cd_De_renewKeys rfl (Or.inr ⟨_, rfl, rfl, rfl⟩) l0 rfl rfl ?_
    refine g_fI (c := 0) (k := 7) (x := nI (on.length)) (pc' := 54) cd_De_renewKeys rfl rfl rfl rfl rfl (by decide) hR.1.1.1 hR.1.1.2 hR.2.2.2.1.1.1 ?_
    refine g_k1 (v := 4) (pc' := 55) cd_De_renewKeys rfl (by decide) rfl ?_
    refine g_if2 (t := 109) (pc' := 58) cd_De_renewKeys rfl rfl rfl (fun c55 => ?_) (fun c55 => ?_)
    · have c55 : (4 : Int32) ≤ (nI (on.length)) := c55
      exact g_retv cd_De_renewKeys rfl ⟨rfl, (kk B T (List.prefix_refl T) (by omega) hT hR (fz_rfl _ B))⟩
    · have c55 : ¬ (4 : Int32) ≤ (nI (on.length)) := c55
      exact absurd (nI_le (a := 4) (b := on.length) (by omega) (by omega)) c55
  | succ n ih =>
    intro dr on ln B T hm hT hR hrm hdr kk lv l0 l1 l2
    refine g_ald (pc' := 51) cd_De_renewKeys rfl (Or.inr ⟨_, rfl, rfl, rfl⟩) l0 rfl rfl ?_
    refine g_fI (c := 0) (k := 7) (x := nI (on.length)) (pc' := 54) cd_De_renewKeys rfl rfl rfl rfl rfl (by decide) hR.1.1.1 hR.1.1.2 hR.2.2.2.1.1.1 ?_
    refine g_k1 (v := 4) (pc' := 55) cd_De_renewKeys rfl (by decide) rfl ?_
    refine g_if2 (t := 109) (pc' := 58) cd_De_renewKeys rfl rfl rfl (fun c55 => ?_) (fun c55 => ?_)
    · have c55 : (4 : Int32) ≤ (nI (on.length)) := c55
      exact absurd c55 (nI_ge (b := 4) (by omega) (by decide))
    · have c55 : ¬ (4 : Int32) ≤ (nI (on.length)) := c55
      refine g_ald (pc' := 59) cd_De_renewKeys rfl (Or.inr ⟨_, rfl, rfl, rfl⟩) l0 rfl rfl ?_
      refine g_pure (pc' := 60) (st' := [.ref x, .ref x]) cd_De_renewKeys rfl rfl (fun _ _ => rfl) ?_
      refine g_fI (c := 0) (k := 8) (x := ln) (pc' := 63) cd_De_renewKeys rfl rfl rfl rfl rfl (by decide) hR.1.1.1 hR.1.1.2 hR.2.1.2 ?_
      refine g_k1 (v := 1) (pc' := 64) cd_De_renewKeys rfl (by decide) rfl ?_
      refine g_pure (pc' := 65) (st' := [.int (ln + 1), .ref x]) cd_De_renewKeys rfl rfl (fun _ _ => rfl) ?_
      refine g_putI (c := 0) (k := 8) (pc' := 68) cd_De_renewKeys rfl rfl rfl rfl (by simp [tm_okV, narrow, fits]) (Or.inl rfl) rfl (by decide) hR.1.1.1 hR.1.1.2 ?_
      have P1 : bm_FI (bm_putI B 0 8 x (ln + 1)) 0 8 x = ln + 1 := if_pos ⟨rfl, rfl, rfl⟩
      have Z2 : fz (fun y => tcs a ca ba da y ∨ y = x ∨ y = x + 6 ∨ y = x + 7) B (bm_putI B 0 8 x (ln + 1)) := fz_trans (fz_rfl _ B) ⟨fr_mono (fun _ q => Or.inr (Or.inl q)) (fr_putI _ 0 8 x _), rfl, rfl⟩
      refine g_ald (pc' := 69) cd_De_renewKeys rfl (Or.inr ⟨_, rfl, rfl, rfl⟩) l0 rfl rfl ?_
      refine g_fR (c := 0) (k := 1) (x := (x + 6)) (pc' := 72) cd_De_renewKeys rfl rfl rfl rfl rfl (by decide) hR.1.1.1 hR.1.1.2 hR.1.2.1.2.1 ?_
      refine g_ald (pc' := 73) cd_De_renewKeys rfl (Or.inr ⟨_, rfl, rfl, rfl⟩) l0 rfl rfl ?_
      refine g_fI (c := 0) (k := 7) (x := nI (on.length)) (pc' := 76) cd_De_renewKeys rfl rfl rfl rfl rfl (by decide) hR.1.1.1 hR.1.1.2 hR.2.2.2.1.1.1 ?_
      refine g_ald (pc' := 77) cd_De_renewKeys rfl (Or.inr ⟨_, rfl, rfl, rfl⟩) l1 rfl rfl ?_
      refine g_ild (pc' := 78) cd_De_renewKeys rfl (Or.inr ⟨_, rfl, rfl, rfl⟩) l2 rfl ?_
      refine g_k1 (v := 0) (pc' := 79) cd_De_renewKeys rfl (by decide) rfl ?_
      have hT3 : TI (bm_putI B 0 8 x (ln + 1)) a ca ba da rm dr T := TI_fr (X := fun y => x ≤ y ∧ y < x + 203) hT (fr_mono (fun y (q : y = x) => by omega) (fr_putI B 0 8 x (ln + 1))) (fun q => hn _ q.1 q.2 (Or.inl rfl)) (fun q => hn _ q.1 q.2 (Or.inr (Or.inl rfl))) (fun q => hn _ q.1 q.2 (Or.inr (Or.inr (Or.inl rfl))))
      refine g_calli (pc' := 82) cd_De_renewKeys rfl rfl rfl rfl rfl (tm_invV rfl rfl cd_Te_secret rfl (Nat.le_of_ble_eq_true rfl) (by decide) hT.1.1.1 hT.1.1.2) (t_secret (xd := v) (xp := 0) hT3 (by omega) (by omega) (fun B4 r4 hx4 ht4 => ?_))
      have hT4 := hx4.2.2.1
      have hl4 := hx4.2.1
      have hf4 := (fz_te hx4.2.2.2).1
      have hz4 := fz_te hx4.2.2.2
      have f5_0 := fr_lt hf4 hR.1.1.1
      have g5_0 := (fr_K hf4 hR.1.1.1).trans hR.1.1.2
      have f5_1 := fr_lt hf4 hR.1.2.2.1.1
      have g5_1 := (fr_K hf4 hR.1.2.2.1.1).trans hR.1.2.2.1.2.1
      have f5_2 := fr_lt hf4 hR.1.2.2.2.1.1
      have g5_2 := (fr_K hf4 hR.1.2.2.2.1.1).trans hR.1.2.2.2.1.2.1
      have f5_3 := fr_lt hf4 hR.1.2.2.2.2.1.1
      have g5_3 := (fr_K hf4 hR.1.2.2.2.2.1.1).trans hR.1.2.2.2.2.1.2.1
      have f5_4 := fr_lt hf4 hR.1.2.2.2.2.2.1.1
      have g5_4 := (fr_K hf4 hR.1.2.2.2.2.2.1.1).trans hR.1.2.2.2.2.2.1.2.1
      have f5_5 := fr_lt hf4 hR.1.2.2.2.2.2.2.1.1
      have g5_5 := (fr_K hf4 hR.1.2.2.2.2.2.2.1.1).trans hR.1.2.2.2.2.2.2.1.2.1
      have f5_6 := fr_lt hf4 hR.1.2.2.2.2.2.2.2.1
      have g5_6 := (fr_K hf4 hR.1.2.2.2.2.2.2.2.1).trans hR.1.2.2.2.2.2.2.2.2.1
      have f5_7 := fr_lt hf4 hT.1.1.1
      have g5_7 := (fr_K hf4 hT.1.1.1).trans hT.1.1.2
      have q5_0 : bm_FI B4 0 7 x = nI (on.length) := (fr_FI hf4 hR.1.1.1 (hn _ (by omega) (by omega)) 0 7).trans hR.2.2.2.1.1.1
      have q5_1 : bm_FI B4 0 8 x = ln + 1 := (fr_FI hf4 hR.1.1.1 (hn _ (by omega) (by omega)) 0 8).trans P1
      have r5_0 : bm_FR B4 0 0 x = some (x + 1) := (fr_FR hf4 hR.1.1.1 (hn _ (by omega) (by omega)) 0 0).trans hR.1.2.1.1
      have r5_1 : bm_FR B4 0 1 x = some (x + 6) := (fr_FR hf4 hR.1.1.1 (hn _ (by omega) (by omega)) 0 1).trans hR.1.2.1.2.1
      have r5_2 : bm_FR B4 0 2 x = some (x + 7) := (fr_FR hf4 hR.1.1.1 (hn _ (by omega) (by omega)) 0 2).trans hR.1.2.1.2.2.1
      have r5_3 : bm_FR B4 0 3 x = some (x + 8) := (fr_FR hf4 hR.1.1.1 (hn _ (by omega) (by omega)) 0 3).trans hR.1.2.1.2.2.2.1
      have r5_4 : bm_FR B4 0 4 x = some (x + 9) := (fr_FR hf4 hR.1.1.1 (hn _ (by omega) (by omega)) 0 4).trans hR.1.2.1.2.2.2.2.1
      have r5_5 : bm_FR B4 0 5 x = some (x + 10) := (fr_FR hf4 hR.1.1.1 (hn _ (by omega) (by omega)) 0 5).trans hR.1.2.1.2.2.2.2.2
      have u5_0 : bm_AI B4 (x + 6) = (bm_AI B (x + 6)) := (fr_AI hf4 hR.1.2.2.2.1.1 (hn _ (by omega) (by omega))).trans rfl
      have u5_1 : bm_AI B4 (x + 7) = (bm_AI B (x + 7)) := (fr_AI hf4 hR.1.2.2.2.2.1.1 (hn _ (by omega) (by omega))).trans rfl
      have w5_0 : bm_AL B4 (x + 1) = 2 := (fr_AL hf4 hR.1.2.2.1.1).trans hR.1.2.2.1.2.2
      have w5_1 : bm_AL B4 (x + 6) = 4 := (fr_AL hf4 hR.1.2.2.2.1.1).trans hR.1.2.2.2.1.2.2
      have w5_2 : bm_AL B4 (x + 7) = 4 := (fr_AL hf4 hR.1.2.2.2.2.1.1).trans hR.1.2.2.2.2.1.2.2
      have w5_3 : bm_AL B4 (x + 8) = 6 := (fr_AL hf4 hR.1.2.2.2.2.2.1.1).trans hR.1.2.2.2.2.2.1.2.2
      have w5_4 : bm_AL B4 (x + 9) = 12 := (fr_AL hf4 hR.1.2.2.2.2.2.2.1.1).trans hR.1.2.2.2.2.2.2.1.2.2
      have w5_5 : bm_AL B4 (x + 10) = 4 := (fr_AL hf4 hR.1.2.2.2.2.2.2.2.1).trans hR.1.2.2.2.2.2.2.2.2.2
      have Z7 : fz (fun y => tcs a ca ba da y ∨ y = x ∨ y = x + 6 ∨ y = x + 7) B B4 := fz_trans Z2 (fz_mono (fun _ q => Or.inl q) hz4)
      show bm_G _ _ _ 82 _ [.int r4, .int (nI (on.length)), .ref ((x + 6))] B4 _
      refine g_iast (pc' := 83) cd_De_renewKeys rfl rfl f5_2 g5_2 (by rw [show bm_AL B4 (x + 6) = 4 from w5_1]; exact vp_in_nI (by omega) (by decide)) ?_
      rw [show (nI (on.length) : Int32).toNatClampNeg = (on.length) from nI_clamp (by omega)]
      have A8 : bm_AI (bm_setI B4 (x + 6) (on.length) r4) (x + 6) = (upd (bm_AI B (x + 6)) (on.length) r4) := ((AI_set B4 (x + 6) (on.length) r4).trans (congrArg (fun f => upd f (on.length) r4) (show bm_AI B4 (x + 6) = (bm_AI B (x + 6)) from u5_0)))
      have A9 : bm_AI (bm_setI B4 (x + 6) (on.length) r4) (x + 7) = (bm_AI B (x + 7)) := ((AI_setn B4 (on.length) r4 (x + 7) (by omega)).trans (show bm_AI B4 (x + 7) = (bm_AI B (x + 7)) from u5_1))
      have Z10 : fz (fun y => tcs a ca ba da y ∨ y = x ∨ y = x + 6 ∨ y = x + 7) B (bm_setI B4 (x + 6) (on.length) r4) := fz_trans Z7 ⟨fr_mono (fun _ q => Or.inr (Or.inr (Or.inl q))) (fr_setI _ (x + 6) _ _), rfl, rfl⟩
      refine g_ald (pc' := 84) cd_De_renewKeys rfl (Or.inr ⟨_, rfl, rfl, rfl⟩) l0 rfl rfl ?_
      refine g_fR (c := 0) (k := 2) (x := (x + 7)) (pc' := 87) cd_De_renewKeys rfl rfl rfl rfl rfl (by decide) f5_0 g5_0 r5_2 ?_
      refine g_ald (pc' := 88) cd_De_renewKeys rfl (Or.inr ⟨_, rfl, rfl, rfl⟩) l0 rfl rfl ?_
      refine g_fI (c := 0) (k := 7) (x := nI (on.length)) (pc' := 91) cd_De_renewKeys rfl rfl rfl rfl rfl (by decide) f5_0 g5_0 q5_0 ?_
      refine g_ald (pc' := 92) cd_De_renewKeys rfl (Or.inr ⟨_, rfl, rfl, rfl⟩) l0 rfl rfl ?_
      refine g_fI (c := 0) (k := 8) (x := ln + 1) (pc' := 95) cd_De_renewKeys rfl rfl rfl rfl rfl (by decide) f5_0 g5_0 q5_1 ?_
      refine g_iast (pc' := 96) cd_De_renewKeys rfl rfl f5_3 g5_3 (by rw [show bm_AL (bm_setI B4 (x + 6) (on.length) r4) (x + 7) = 4 from w5_2]; exact vp_in_nI (by omega) (by decide)) ?_
      rw [show (nI (on.length) : Int32).toNatClampNeg = (on.length) from nI_clamp (by omega)]
      have A11 : bm_AI (bm_setI (bm_setI B4 (x + 6) (on.length) r4) (x + 7) (on.length) (ln + 1)) (x + 6) = (upd (bm_AI B (x + 6)) (on.length) r4) := ((AI_setn (bm_setI B4 (x + 6) (on.length) r4) (on.length) (ln + 1) (x + 6) (by omega)).trans (show bm_AI (bm_setI B4 (x + 6) (on.length) r4) (x + 6) = (upd (bm_AI B (x + 6)) (on.length) r4) from A8))
      have A12 : bm_AI (bm_setI (bm_setI B4 (x + 6) (on.length) r4) (x + 7) (on.length) (ln + 1)) (x + 7) = (upd (bm_AI B (x + 7)) (on.length) (ln + 1)) := ((AI_set (bm_setI B4 (x + 6) (on.length) r4) (x + 7) (on.length) (ln + 1)).trans (congrArg (fun f => upd f (on.length) (ln + 1)) (show bm_AI (bm_setI B4 (x + 6) (on.length) r4) (x + 7) = (bm_AI B (x + 7)) from A9)))
      have Z13 : fz (fun y => tcs a ca ba da y ∨ y = x ∨ y = x + 6 ∨ y = x + 7) B (bm_setI (bm_setI B4 (x + 6) (on.length) r4) (x + 7) (on.length) (ln + 1)) := fz_trans Z10 ⟨fr_mono (fun _ q => Or.inr (Or.inr (Or.inr q))) (fr_setI _ (x + 7) _ _), rfl, rfl⟩
      refine g_ald (pc' := 97) cd_De_renewKeys rfl (Or.inr ⟨_, rfl, rfl, rfl⟩) l0 rfl rfl ?_
      refine g_pure (pc' := 98) (st' := [.ref x, .ref x]) cd_De_renewKeys rfl rfl (fun _ _ => rfl) ?_
      refine g_fI (c := 0) (k := 7) (x := nI (on.length)) (pc' := 101) cd_De_renewKeys rfl rfl rfl rfl rfl (by decide) f5_0 g5_0 q5_0 ?_
      refine g_k1 (v := 1) (pc' := 102) cd_De_renewKeys rfl (by decide) rfl ?_
      refine g_pure (pc' := 103) (st' := [.int ((nI (on.length)) + 1), .ref x]) cd_De_renewKeys rfl rfl (fun _ _ => rfl) ?_
      rw [show ((nI (on.length)) + 1 : Int32) = nI ((on.length) + 1) from nI_add (on.length) 1]
      refine g_putI (c := 0) (k := 7) (pc' := 106) cd_De_renewKeys rfl rfl rfl rfl (by simp [tm_okV, narrow, fits]) (Or.inl rfl) rfl (by decide) f5_0 g5_0 ?_
      have P14 : bm_FI (bm_putI (bm_setI (bm_setI B4 (x + 6) (on.length) r4) (x + 7) (on.length) (ln + 1)) 0 7 x (nI ((on.length) + 1))) 0 7 x = nI ((on.length) + 1) := if_pos ⟨rfl, rfl, rfl⟩
      have Z15 : fz (fun y => tcs a ca ba da y ∨ y = x ∨ y = x + 6 ∨ y = x + 7) B (bm_putI (bm_setI (bm_setI B4 (x + 6) (on.length) r4) (x + 7) (on.length) (ln + 1)) 0 7 x (nI ((on.length) + 1))) := fz_trans Z13 ⟨fr_mono (fun _ q => Or.inr (Or.inl q)) (fr_putI _ 0 7 x _), rfl, rfl⟩
      refine g_pure (pc' := 50) (st' := []) cd_De_renewKeys rfl rfl (fun _ _ => rfl) ?_
      have hO : ROn (bm_putI (bm_setI (bm_setI B4 (x + 6) (on.length) r4) (x + 7) (on.length) (ln + 1)) 0 7 x (nI ((on.length) + 1))) (T ++ [Tsec (nI dr) v 0, Tpub (Tsec (nI dr) v 0)]) x (on ++ [(Tsec (nI dr) v 0, ln + 1)]) := ROn_push hR.2.2.2.1 (by omega) hx4.1 P14 A11 A12 ht4
      have hD : RDs (bm_putI (bm_setI (bm_setI B4 (x + 6) (on.length) r4) (x + 7) (on.length) (ln + 1)) 0 7 x (nI ((on.length) + 1))) (T ++ [Tsec (nI dr) v 0, Tpub (Tsec (nI dr) v 0)]) x id (ln + 1) := ⟨tvq (show bm_FI (bm_putI (bm_setI (bm_setI B4 (x + 6) (on.length) r4) (x + 7) (on.length) (ln + 1)) 0 7 x (nI ((on.length) + 1))) 0 6 x = bm_FI B 0 6 x from (fr_FI (fz_te hx4.2.2.2).1 hR.1.1.1 (hn _ (by omega) (by omega)) 0 6)) (tv_mono hx4.1 hR.2.1.1), q5_1⟩
      have hTe : TI (bm_putI (bm_setI (bm_setI B4 (x + 6) (on.length) r4) (x + 7) (on.length) (ln + 1)) 0 7 x (nI ((on.length) + 1))) a ca ba da rm (dr + 1) (T ++ [Tsec (nI dr) v 0, Tpub (Tsec (nI dr) v 0)]) := TI_fr (X := fun y => x ≤ y ∧ y < x + 203) hT4 (fr_trans (fr_trans (fr_mono (fun y (q : y = x + 6) => by omega) (fr_setI _ (x + 6) _ _)) (fr_mono (fun y (q : y = x + 7) => by omega) (fr_setI _ (x + 7) _ _))) (fr_mono (fun y (q : y = x) => by omega) (fr_putI _ 0 7 x _))) (fun q => hn _ q.1 q.2 (Or.inl rfl)) (fun q => hn _ q.1 q.2 (Or.inr (Or.inl rfl))) (fun q => hn _ q.1 q.2 (Or.inr (Or.inr (Or.inl rfl))))
      have hZ : fz (fun y => tcs a ca ba da y ∨ y = x ∨ y = x + 6 ∨ y = x + 7) B (bm_putI (bm_setI (bm_setI B4 (x + 6) (on.length) r4) (x + 7) (on.length) (ln + 1)) 0 7 x (nI ((on.length) + 1))) := Z15
      have hR2 := RDe_top hR hZ.1 (fun y a b c e f q => q.elim (hn y a b) (fun q => by omega)) hx4.1 hD hO
      exact ih (dr + 1) _ _ _ _ (by simp; omega) hTe hR2 (by simp; omega) (by omega) (fun B' T' hp' hl' hT' hR' hz' => kk B' T' (hx4.1.trans hp') (by simp at hl'; omega) (by rw [show dr + (n + 1) = dr + 1 + n by omega]; exact hT') hR' (fz_trans (fz_mono (fun y q => q.elim Or.inl (fun q => Or.inr (by omega))) hZ) hz')) lv l0 l1 l2
theorem PkS_pA {B : bm_H} {T : List Tm} {x : Nat} {w : SW} {id : Tm} {K0 K1 : PK} {on : List (Tm × Int32)} {ln : Int32} {se : Nat → List SS} {me : Nat → MM} (h : RDe B T x (!w.1, w.2) (id, K0, K1, on, ln, se, me)) : PkS B (pA x w.1 1) := by
  have := h.2.2.1.2.1.1
  rw [show pA x (!w.1, w.2).1 0 = pA x w.1 1 from pA_flip x w.1 (by decide)] at this
  exact this
set_option maxRecDepth 100000 in
theorem t_renewKeys {sc : tm_X} {d a ca ba da rm dr : Nat} {B : bm_H} {T : List Tm} {v : Int32} {x : Nat} {w : SW} {id : Tm} {K0 K1 : PK} {on : List (Tm × Int32)} {ln : Int32} {se : Nat → List SS} {me : Nat → MM} {Q : bm_H → Prop} (hn : ∀ y, x ≤ y → y < x + 203 → ¬ tcs a ca ba da y) (hT : TI B a ca ba da rm dr T) (hR : RDe B T x w (id, K0, K1, on, ln, se, me)) (hrm : T.length + 10 < rm) (hdr : dr + 5 < 100000) (kk : ∀ B' T' w', T <+: T' → T'.length ≤ T.length + 10 → TI B' a ca ba da rm (dr + 1 + (4 - on.length)) T' → RDe B' T' x w' (id, (Tsec (nI dr) v 1, ln + 1, []), K0, (on_fill v (4 - on.length) (dr + 1) (ln + 1) on).1, (on_fill v (4 - on.length) (dr + 1) (ln + 1) on).2, se, me) → fz (dxs a ca ba da x) B B' → Q B') : bm_Gv sc (d + 3) 43 [.ref x, .ref a, .int v] B Q := by
  have p0 := pA_in x w.1 (k := 0) (by decide)
  have p1 := pA_in x w.1 (k := 1) (by decide)
  have p01 := pA_01 x w.1
  show bm_G sc (d + 3) 43 0 [(0, .ref x), (1, .ref a), (2, .int v)] [] B _
  generalize elv : ([(0, .ref x), (1, .ref a), (2, .int v)] : tm_L) = lv
  have l0 : lv.lookup 0 = some (.ref x) := by rw [← elv]; rfl
  have l1 : lv.lookup 1 = some (.ref a) := by rw [← elv]; rfl
  have l2 : lv.lookup 2 = some (.int v) := by rw [← elv]; rfl
  clear elv
  refine g_ald (pc' := 1) cd_De_renewKeys rfl (Or.inr ⟨_, rfl, rfl, rfl⟩) l0 rfl rfl ?_
  refine g_fR (c := 0) (k := 0) (x := (x + 1)) (pc' := 4) cd_De_renewKeys rfl rfl rfl rfl rfl (by decide) hR.1.1.1 hR.1.1.2 hR.1.2.1.1 ?_
  refine g_k1 (v := 1) (pc' := 5) cd_De_renewKeys rfl (by decide) rfl ?_
  refine g_aR (t := 4) (x := (pA x w.1 1)) (pc' := 6) cd_De_renewKeys rfl rfl hR.1.2.2.1.1 hR.1.2.2.1.2.1 (by decide) rfl rfl (by rw [show bm_AL B (x + 1) = 2 from hR.1.2.2.1.2.2]; exact vp_in_nI (n := 1) (by decide) (by decide)) hR.2.2.1.1.2 ?_
  refine g_ast (pc' := 7) cd_De_renewKeys rfl (Or.inr ⟨_, rfl, rfl, rfl⟩) rfl (by decide) rfl (fun lv el => ?_)
  have l0 := tm_lk el l0 rfl (by decide)
  have l1 := tm_lk el l1 rfl (by decide)
  have l2 := tm_lk el l2 rfl (by decide)
  have l3 : lv.lookup 3 = some (.ref ((pA x w.1 1))) := tm_lks el
  clear el
  refine g_ald (pc' := 8) cd_De_renewKeys rfl (Or.inr ⟨_, rfl, rfl, rfl⟩) l0 rfl rfl ?_
  refine g_fR (c := 0) (k := 0) (x := (x + 1)) (pc' := 11) cd_De_renewKeys rfl rfl rfl rfl rfl (by decide) hR.1.1.1 hR.1.1.2 hR.1.2.1.1 ?_
  refine g_k1 (v := 1) (pc' := 12) cd_De_renewKeys rfl (by decide) rfl ?_
  refine g_ald (pc' := 13) cd_De_renewKeys rfl (Or.inr ⟨_, rfl, rfl, rfl⟩) l0 rfl rfl ?_
  refine g_fR (c := 0) (k := 0) (x := (x + 1)) (pc' := 16) cd_De_renewKeys rfl rfl rfl rfl rfl (by decide) hR.1.1.1 hR.1.1.2 hR.1.2.1.1 ?_
  refine g_k1 (v := 0) (pc' := 17) cd_De_renewKeys rfl (by decide) rfl ?_
  refine g_aR (t := 4) (x := (pA x w.1 0)) (pc' := 18) cd_De_renewKeys rfl rfl hR.1.2.2.1.1 hR.1.2.2.1.2.1 (by decide) rfl rfl (by rw [show bm_AL B (x + 1) = 2 from hR.1.2.2.1.2.2]; exact vp_in_nI (n := 0) (by decide) (by decide)) hR.2.2.1.1.1 ?_
  refine g_aast (t := 4) (pc' := 19) cd_De_renewKeys rfl rfl hR.1.2.2.1.1 hR.1.2.2.1.2.1 (by decide) rfl rfl hR.2.2.1.2.1.1.1.1 hR.2.2.1.2.1.1.1.2 (by rw [show bm_AL B (x + 1) = 2 from hR.1.2.2.1.2.2]; exact vp_in_nI (n := 1) (by decide) (by decide)) ?_
  show bm_G _ _ _ _ _ _ (bm_setR B (x + 1) 1 (some (pA x w.1 0))) _
  refine g_ald (pc' := 20) cd_De_renewKeys rfl (Or.inr ⟨_, rfl, rfl, rfl⟩) l0 rfl rfl ?_
  refine g_fR (c := 0) (k := 0) (x := (x + 1)) (pc' := 23) cd_De_renewKeys rfl rfl rfl rfl rfl (by decide) hR.1.1.1 hR.1.1.2 hR.1.2.1.1 ?_
  refine g_k1 (v := 0) (pc' := 24) cd_De_renewKeys rfl (by decide) rfl ?_
  refine g_ald (pc' := 25) cd_De_renewKeys rfl (Or.inr ⟨_, rfl, rfl, rfl⟩) l3 rfl rfl ?_
  refine g_aast (t := 4) (pc' := 26) cd_De_renewKeys rfl rfl hR.1.2.2.1.1 hR.1.2.2.1.2.1 (by decide) rfl rfl hR.2.2.1.2.2.1.1.1 hR.2.2.1.2.2.1.1.2 (by rw [show bm_AL (bm_setR B (x + 1) 1 (some (pA x w.1 0))) (x + 1) = 2 from hR.1.2.2.1.2.2]; exact vp_in_nI (n := 0) (by decide) (by decide)) ?_
  show bm_G _ _ _ _ _ _ (bm_setR (bm_setR B (x + 1) 1 (some (pA x w.1 0))) (x + 1) 0 (some (pA x w.1 1))) _
  refine g_ald (pc' := 27) cd_De_renewKeys rfl (Or.inr ⟨_, rfl, rfl, rfl⟩) l0 rfl rfl ?_
  refine g_pure (pc' := 28) (st' := [.ref x, .ref x]) cd_De_renewKeys rfl rfl (fun _ _ => rfl) ?_
  refine g_fI (c := 0) (k := 8) (x := ln) (pc' := 31) cd_De_renewKeys rfl rfl rfl rfl rfl (by decide) hR.1.1.1 hR.1.1.2 hR.2.1.2 ?_
  refine g_k1 (v := 1) (pc' := 32) cd_De_renewKeys rfl (by decide) rfl ?_
  refine g_pure (pc' := 33) (st' := [.int (ln + 1), .ref x]) cd_De_renewKeys rfl rfl (fun _ _ => rfl) ?_
  refine g_putI (c := 0) (k := 8) (pc' := 36) cd_De_renewKeys rfl rfl rfl rfl (by simp [tm_okV, narrow, fits]) (Or.inl rfl) rfl (by decide) hR.1.1.1 hR.1.1.2 ?_
  have P16 : bm_FI (bm_putI (bm_setR (bm_setR B (x + 1) 1 (some (pA x w.1 0))) (x + 1) 0 (some (pA x w.1 1))) 0 8 x (ln + 1)) 0 8 x = ln + 1 := if_pos ⟨rfl, rfl, rfl⟩
  have hz1 : fz (fun y => y = x ∨ y = x + 1) B (bm_putI (bm_setR (bm_setR B (x + 1) 1 (some (pA x w.1 0))) (x + 1) 0 (some (pA x w.1 1))) 0 8 x (ln + 1)) := fz_trans (fz_trans ⟨fr_mono (fun _ q => Or.inr q) (fr_setR _ _ _ _), rfl, rfl⟩ ⟨fr_mono (fun _ q => Or.inr q) (fr_setR _ _ _ _), rfl, rfl⟩) ⟨fr_mono (fun _ q => Or.inl q) (fr_putI _ _ _ _ _), rfl, rfl⟩
  have hq1 : RPs (bm_putI (bm_setR (bm_setR B (x + 1) 1 (some (pA x w.1 0))) (x + 1) 0 (some (pA x w.1 1))) 0 8 x (ln + 1)) T x (!w.1) K1 K0 := ⟨⟨by rw [pA_flip x w.1 (by decide)]; exact AR_set _ _ _ _, by rw [pA_flip x w.1 (by decide)]; exact (AR_setj _ _ _ (by decide)).trans (AR_set _ _ _ _)⟩, by rw [pA_flip x w.1 (by decide)]; show RPk _ T (pA x w.1 1) K1; exact RPk_fr hR.2.2.1.2.2 hz1.1 (by omega) (by omega) (List.prefix_refl T), by rw [pA_flip x w.1 (by decide)]; show RPk _ T (pA x w.1 0) K0; exact RPk_fr hR.2.2.1.2.1 hz1.1 (by omega) (by omega) (List.prefix_refl T)⟩
  have hd1 : RDs (bm_putI (bm_setR (bm_setR B (x + 1) 1 (some (pA x w.1 0))) (x + 1) 0 (some (pA x w.1 1))) 0 8 x (ln + 1)) T x id (ln + 1) := ⟨hR.2.1.1, P16⟩
  have ho1 : ROn (bm_putI (bm_setR (bm_setR B (x + 1) 1 (some (pA x w.1 0))) (x + 1) 0 (some (pA x w.1 1))) 0 8 x (ln + 1)) T x on := hR.2.2.2.1
  have hT1 : TI (bm_putI (bm_setR (bm_setR B (x + 1) 1 (some (pA x w.1 0))) (x + 1) 0 (some (pA x w.1 1))) 0 8 x (ln + 1)) a ca ba da rm dr T := TI_fr hT hz1.1 (fun q => q.elim (fun q => hn _ (by omega) (by omega) (Or.inl rfl)) (fun q => hn _ (by omega) (by omega) (Or.inl rfl))) (fun q => q.elim (fun q => hn _ (by omega) (by omega) (Or.inr (Or.inl rfl))) (fun q => hn _ (by omega) (by omega) (Or.inr (Or.inl rfl)))) (fun q => q.elim (fun q => hn _ (by omega) (by omega) (Or.inr (Or.inr (Or.inl rfl)))) (fun q => hn _ (by omega) (by omega) (Or.inr (Or.inr (Or.inl rfl)))))
  generalize (bm_putI (bm_setR (bm_setR B (x + 1) 1 (some (pA x w.1 0))) (x + 1) 0 (some (pA x w.1 1))) 0 8 x (ln + 1)) = B1 at hz1 hq1 hd1 ho1 hT1 ⊢
  have hR1 : RDe B1 T x (!w.1, w.2) (id, K1, K0, on, ln + 1, se, me) := ⟨DeS_fr hR.1 hz1.1, hd1, hq1, ho1, fun p hp => (show RSs B1 T x w.2.1 p (se p) from RSs_fr hR.1 (hR.2.2.2.2.1 p hp) hz1.1 (by omega) (by omega) (fun k y hk a b => by have := sA_in x w.2.1 hp hk; omega) (List.prefix_refl T)), fun g hg => by rw [fr_AR hz1.1 hR.1.2.2.2.2.2.2.2.1 (by omega)]; exact hR.2.2.2.2.2.1 g hg, fun g hg => RMe_fr (hR.2.2.2.2.2.2 g hg) hz1.1 (fun y a b => by omega) (List.prefix_refl T)⟩
  refine g_ald (pc' := 37) cd_De_renewKeys rfl (Or.inr ⟨_, rfl, rfl, rfl⟩) l3 rfl rfl ?_
  refine g_ald (pc' := 38) cd_De_renewKeys rfl (Or.inr ⟨_, rfl, rfl, rfl⟩) l1 rfl rfl ?_
  refine g_ild (pc' := 39) cd_De_renewKeys rfl (Or.inr ⟨_, rfl, rfl, rfl⟩) l2 rfl ?_
  refine g_k1 (v := 1) (pc' := 40) cd_De_renewKeys rfl (by decide) rfl ?_
  refine g_calli (pc' := 43) cd_De_renewKeys rfl rfl rfl rfl rfl (tm_invV rfl rfl cd_Te_secret rfl (Nat.le_of_ble_eq_true rfl) (by decide) hT1.1.1.1 hT1.1.1.2) (t_secret (xd := v) (xp := 1) hT1 (by omega) (by omega) (fun B2 r2 hx2 ht2 => ?_))
  have hT2 := hx2.2.2.1
  have hz2 := fz_te hx2.2.2.2
  have hR2 : RDe B2 _ x (!w.1, w.2) (id, K1, K0, on, ln + 1, se, me) := RDe_fr hR1 hz2.1 hn hx2.1
  show bm_G _ _ _ 43 _ [.int r2, .ref ((pA x w.1 1))] B2 _
  refine g_ald (pc' := 44) cd_De_renewKeys rfl (Or.inr ⟨_, rfl, rfl, rfl⟩) l0 rfl rfl ?_
  refine g_fI (c := 0) (k := 8) (x := ln + 1) (pc' := 47) cd_De_renewKeys rfl rfl rfl rfl rfl (by decide) hR2.1.1.1 hR2.1.1.2 hR2.2.1.2 ?_
  refine g_callv (pc' := 50) cd_De_renewKeys rfl rfl rfl rfl rfl (tm_invV rfl rfl cd_Pk_start rfl (Nat.le_of_ble_eq_true rfl) (by decide) (pA_flip x w.1 (k := 0) (by decide) ▸ hR2.2.2.1.2.1.1.1.1) (pA_flip x w.1 (k := 0) (by decide) ▸ hR2.2.2.1.2.1.1.1.2)) (t_Pstart (PkS_pA hR2) ht2 (fun B3 hp3 hz3 => ?_))
  have hk3 : ∀ k, k < 2 → pA x (!w.1) k = pA x w.1 (1 - k) := fun k hk => pA_flip x w.1 hk
  have q0 := hk3 0 (by decide)
  have q1 := hk3 1 (by decide)
  rw [show (1 - 0 : Nat) = 1 from rfl] at q0
  rw [show (1 - 1 : Nat) = 0 from rfl] at q1
  have hq3 : RPs B3 _ x (!w.1) (Tsec (nI dr) v 1, ln + 1, []) K0 := ⟨⟨by rw [fr_AR hz3.1 hR2.1.2.2.1.1 (by omega)]; exact hR2.2.2.1.1.1, by rw [fr_AR hz3.1 hR2.1.2.2.1.1 (by omega)]; exact hR2.2.2.1.1.2⟩, by rw [q0]; exact hp3, RPk_fr hR2.2.2.1.2.2 hz3.1 (by rw [q1]; omega) (by rw [q1]; omega) (List.prefix_refl _)⟩
  have hR3 := RDe_pks hR2 hz3.1 (fun y a b c => by omega) (List.prefix_refl _) hq3
  have hT3 := TI_fr hT2 hz3.1 (fun q => hn _ (by omega) (by omega) (Or.inl rfl)) (fun q => hn _ (by omega) (by omega) (Or.inr (Or.inl rfl))) (fun q => hn _ (by omega) (by omega) (Or.inr (Or.inr (Or.inl rfl))))
  show bm_G _ _ _ 50 _ [] B3 _
  exact l_renew hn (4 - on.length) (dr + 1) on (ln + 1) B3 _ (by have := hR.2.2.2.1.1.2; omega) hT3 hR3 (by simp; omega) (by omega) (fun B' T' hp' hl' hT' hR' hz' => kk B' T' _ (hx2.1.trans hp') (by simp at hl'; omega) hT' hR' (fz_trans (fz_trans (fz_trans (fz_mono (fun y q => Or.inr (by omega)) hz1) (fz_mono (fun y q => Or.inl q) hz2)) (fz_mono (fun y q => Or.inr (by omega)) hz3)) hz')) lv l0 l1 l2
