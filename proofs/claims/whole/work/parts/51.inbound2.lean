/-! Inbound: skipTo, nextKey, takeLeft, told by values -/
/-- Terms' own cells -/
def tcs (a ca ba da x : Nat) : Prop := x = a ∨ x = ca ∨ x = ba ∨ x = da
theorem tc_nx {B : bm_H} {a ca ba da rm dr x : Nat} {T : List Tm} (h : TI B a ca ba da rm dr T) (h2 : bm_K B x < 9) : ¬ tcs a ca ba da x := by
  obtain ⟨⟨⟨-, a2⟩, -, ⟨⟨-, b2, -⟩, ⟨-, b5, -⟩, -, b8, -⟩, -⟩, -⟩ := h
  rintro (rfl | rfl | rfl | rfl) <;> omega
theorem RIn_push {B B' : bm_H} {T T' : List Tm} {x : Nat} {I : IB} {r6 r7 : Int32} (h : RIn B T x I) (hl : I.2.2.2.length < 8) {X : Nat → Prop} (hf : fr X B B') (hT : T <+: T') (e1 : bm_FI B' 2 1 x = nI (I.2.2.2.length + 1)) (e2 : bm_FI B' 2 2 x = bm_FI B 2 2 x) (e3 : bm_FI B' 2 3 x = r7) (e4 : bm_FI B' 2 4 x = bm_FI B 2 4 x + 1) (e5 : bm_AI B' (x + 1) = upd (upd (upd (bm_AI B (x + 1)) (I.2.2.2.length * 3) (bm_FI B 2 2 x)) (I.2.2.2.length * 3 + 1) (bm_FI B 2 4 x)) (I.2.2.2.length * 3 + 2) r6) (t6 : tv T' r6 (Tmx 6 I.2.1 tz)) (t7 : tv T' r7 (Tmx 7 I.2.1 tz)) : RIn B' T' x (I.1, Tmx 7 I.2.1 tz, I.2.2.1 + 1, I.2.2.2 ++ [(I.1, I.2.2.1, Tmx 6 I.2.1 tz)]) := by
  obtain ⟨h1, ⟨h2, h3⟩, ⟨h4, h5, h6⟩, h7⟩ := h
  refine RIn_mk h1 hf e1 e2 e3 e4 e5 (by simp) (by omega) (tv_mono hT h4) t7 (by rw [h6]) (fun i e he => ?_)
  have hi := (List.getElem?_eq_some_iff.mp he).1
  simp at hi
  by_cases c : i = I.2.2.2.length
  · subst c
    simp at he
    subst he
    refine ⟨?_, ?_, ?_⟩
    · simp [upd]; exact tv_mono hT h4
    · simp [upd]; exact h6
    · simp [upd]; exact t6
  · rw [List.getElem?_append_left (by omega)] at he
    obtain ⟨g1, g2, g3⟩ := h7 i e he
    have n0 : ∀ k, k < 3 → upd (upd (upd (bm_AI B (x + 1)) (I.2.2.2.length * 3) (bm_FI B 2 2 x)) (I.2.2.2.length * 3 + 1) (bm_FI B 2 4 x)) (I.2.2.2.length * 3 + 2) r6 (i * 3 + k) = bm_AI B (x + 1) (i * 3 + k) := fun k hk => by
      rw [pk_un (by omega), pk_un (by omega), pk_un (by omega)]
    have m0 := n0 0 (by decide)
    rw [n0 1 (by decide), n0 2 (by decide), show upd _ _ _ (i * 3) = _ from m0]
    exact ⟨tv_mono hT g1, g2, tv_mono hT g3⟩
set_option maxRecDepth 100000 in
theorem l_skip1 {sc : tm_X} {d : Nat} {a ca ba da rm dr x : Nat} {B : bm_H} {T : List Tm} {I : IB} {ix i : Int32} {Q : Int32 → bm_H → Prop} (hT : TI B a ca ba da rm dr T) (hrm : T.length + 2 < rm) (hR : RIn B T x I) (hn1 : ¬ tcs a ca ba da x) (hn2 : ¬ tcs a ca ba da (x + 1)) (hl : I.2.2.2.length < 8) (kk : ∀ B' T' (lv : tm_L), T <+: T' → T'.length ≤ T.length + 2 → TI B' a ca ba da rm dr T' → RIn B' T' x (I.1, Tmx 7 I.2.1 tz, I.2.2.1 + 1, I.2.2.2 ++ [(I.1, I.2.2.1, Tmx 6 I.2.1 tz)]) → fz (fun y => tcs a ca ba da y ∨ y = x ∨ y = x + 1) B B' → lv.lookup 0 = some (.ref x) → lv.lookup 1 = some (.ref a) → lv.lookup 2 = some (.int ix) → lv.lookup 3 = some (.int (i + 1)) → bm_G sc (d + 3) 116 14 lv [] B' (fun r B' => ∃ y, r = some (.int y) ∧ Q y B')) (lv : tm_L) (l0 : lv.lookup 0 = some (.ref x)) (l1 : lv.lookup 1 = some (.ref a)) (l2 : lv.lookup 2 = some (.int ix)) (l3 : lv.lookup 3 = some (.int i)) : bm_G sc (d + 3) 116 41 lv [] B (fun r B' => ∃ y, r = some (.int y) ∧ Q y B') := by
  have hc8 := hR.2.1.2
  refine g_ald (pc' := 42) cd_In_skipTo rfl (Or.inr ⟨_, rfl, rfl, rfl⟩) l0 rfl rfl ?_
  refine g_fR (c := 2) (k := 0) (x := (x + 1)) (pc' := 45) cd_In_skipTo rfl rfl rfl rfl rfl (by decide) hR.1.1.1 hR.1.1.2 hR.1.2.1 ?_
  refine g_ald (pc' := 46) cd_In_skipTo rfl (Or.inr ⟨_, rfl, rfl, rfl⟩) l0 rfl rfl ?_
  refine g_fI (c := 2) (k := 1) (x := (nI I.2.2.2.length)) (pc' := 49) cd_In_skipTo rfl rfl rfl rfl rfl (by decide) hR.1.1.1 hR.1.1.2 hR.2.1.1 ?_
  refine g_k1 (v := 3) (pc' := 50) cd_In_skipTo rfl (by decide) rfl ?_
  refine g_pure (pc' := 51) (st' := [.int ((nI I.2.2.2.length) * 3), .ref ((x + 1))]) cd_In_skipTo rfl rfl (fun _ _ => rfl) ?_
  rw [show ((nI I.2.2.2.length) * 3 : Int32) = nI (I.2.2.2.length * 3) from pk_mul I.2.2.2.length 3]
  refine g_k1 (v := 0) (pc' := 52) cd_In_skipTo rfl (by decide) rfl ?_
  refine g_pure (pc' := 53) (st' := [.int ((nI (I.2.2.2.length * 3)) + 0), .ref ((x + 1))]) cd_In_skipTo rfl rfl (fun _ _ => rfl) ?_
  rw [show ((nI (I.2.2.2.length * 3)) + 0 : Int32) = nI ((I.2.2.2.length * 3) + 0) from nI_add (I.2.2.2.length * 3) 0]
  refine g_ald (pc' := 54) cd_In_skipTo rfl (Or.inr ⟨_, rfl, rfl, rfl⟩) l0 rfl rfl ?_
  refine g_fI (c := 2) (k := 2) (x := (bm_FI B 2 2 x)) (pc' := 57) cd_In_skipTo rfl rfl rfl rfl rfl (by decide) hR.1.1.1 hR.1.1.2 rfl ?_
  refine g_iast (pc' := 58) cd_In_skipTo rfl rfl hR.1.2.2.1 hR.1.2.2.2.1 (by rw [show bm_AL B (x + 1) = 24 from hR.1.2.2.2.2]; exact vp_in_nI (by omega) (by decide)) ?_
  rw [show (nI ((I.2.2.2.length * 3) + 0) : Int32).toNatClampNeg = ((I.2.2.2.length * 3) + 0) from nI_clamp (by omega)]
  have A1 : bm_AI (bm_setI B (x + 1) ((I.2.2.2.length * 3) + 0) (bm_FI B 2 2 x)) (x + 1) = (upd (bm_AI B (x + 1)) ((I.2.2.2.length * 3) + 0) (bm_FI B 2 2 x)) := ((AI_set B (x + 1) ((I.2.2.2.length * 3) + 0) (bm_FI B 2 2 x)).trans (congrArg (fun f => upd f ((I.2.2.2.length * 3) + 0) (bm_FI B 2 2 x)) (show bm_AI B (x + 1) = (bm_AI B (x + 1)) from rfl)))
  refine g_ald (pc' := 59) cd_In_skipTo rfl (Or.inr ⟨_, rfl, rfl, rfl⟩) l0 rfl rfl ?_
  refine g_fR (c := 2) (k := 0) (x := (x + 1)) (pc' := 62) cd_In_skipTo rfl rfl rfl rfl rfl (by decide) hR.1.1.1 hR.1.1.2 hR.1.2.1 ?_
  refine g_ald (pc' := 63) cd_In_skipTo rfl (Or.inr ⟨_, rfl, rfl, rfl⟩) l0 rfl rfl ?_
  refine g_fI (c := 2) (k := 1) (x := (nI I.2.2.2.length)) (pc' := 66) cd_In_skipTo rfl rfl rfl rfl rfl (by decide) hR.1.1.1 hR.1.1.2 hR.2.1.1 ?_
  refine g_k1 (v := 3) (pc' := 67) cd_In_skipTo rfl (by decide) rfl ?_
  refine g_pure (pc' := 68) (st' := [.int ((nI I.2.2.2.length) * 3), .ref ((x + 1))]) cd_In_skipTo rfl rfl (fun _ _ => rfl) ?_
  rw [show ((nI I.2.2.2.length) * 3 : Int32) = nI (I.2.2.2.length * 3) from pk_mul I.2.2.2.length 3]
  refine g_k1 (v := 1) (pc' := 69) cd_In_skipTo rfl (by decide) rfl ?_
  refine g_pure (pc' := 70) (st' := [.int ((nI (I.2.2.2.length * 3)) + 1), .ref ((x + 1))]) cd_In_skipTo rfl rfl (fun _ _ => rfl) ?_
  rw [show ((nI (I.2.2.2.length * 3)) + 1 : Int32) = nI ((I.2.2.2.length * 3) + 1) from nI_add (I.2.2.2.length * 3) 1]
  refine g_ald (pc' := 71) cd_In_skipTo rfl (Or.inr ⟨_, rfl, rfl, rfl⟩) l0 rfl rfl ?_
  refine g_fI (c := 2) (k := 4) (x := (bm_FI B 2 4 x)) (pc' := 74) cd_In_skipTo rfl rfl rfl rfl rfl (by decide) hR.1.1.1 hR.1.1.2 rfl ?_
  refine g_iast (pc' := 75) cd_In_skipTo rfl rfl hR.1.2.2.1 hR.1.2.2.2.1 (by rw [show bm_AL (bm_setI B (x + 1) ((I.2.2.2.length * 3) + 0) (bm_FI B 2 2 x)) (x + 1) = 24 from hR.1.2.2.2.2]; exact vp_in_nI (by omega) (by decide)) ?_
  rw [show (nI ((I.2.2.2.length * 3) + 1) : Int32).toNatClampNeg = ((I.2.2.2.length * 3) + 1) from nI_clamp (by omega)]
  have A2 : bm_AI (bm_setI (bm_setI B (x + 1) ((I.2.2.2.length * 3) + 0) (bm_FI B 2 2 x)) (x + 1) ((I.2.2.2.length * 3) + 1) (bm_FI B 2 4 x)) (x + 1) = (upd (upd (bm_AI B (x + 1)) ((I.2.2.2.length * 3) + 0) (bm_FI B 2 2 x)) ((I.2.2.2.length * 3) + 1) (bm_FI B 2 4 x)) := ((AI_set (bm_setI B (x + 1) ((I.2.2.2.length * 3) + 0) (bm_FI B 2 2 x)) (x + 1) ((I.2.2.2.length * 3) + 1) (bm_FI B 2 4 x)).trans (congrArg (fun f => upd f ((I.2.2.2.length * 3) + 1) (bm_FI B 2 4 x)) (show bm_AI (bm_setI B (x + 1) ((I.2.2.2.length * 3) + 0) (bm_FI B 2 2 x)) (x + 1) = (upd (bm_AI B (x + 1)) ((I.2.2.2.length * 3) + 0) (bm_FI B 2 2 x)) from A1)))
  refine g_ald (pc' := 76) cd_In_skipTo rfl (Or.inr ⟨_, rfl, rfl, rfl⟩) l0 rfl rfl ?_
  refine g_fR (c := 2) (k := 0) (x := (x + 1)) (pc' := 79) cd_In_skipTo rfl rfl rfl rfl rfl (by decide) hR.1.1.1 hR.1.1.2 hR.1.2.1 ?_
  refine g_ald (pc' := 80) cd_In_skipTo rfl (Or.inr ⟨_, rfl, rfl, rfl⟩) l0 rfl rfl ?_
  refine g_fI (c := 2) (k := 1) (x := (nI I.2.2.2.length)) (pc' := 83) cd_In_skipTo rfl rfl rfl rfl rfl (by decide) hR.1.1.1 hR.1.1.2 hR.2.1.1 ?_
  refine g_k1 (v := 3) (pc' := 84) cd_In_skipTo rfl (by decide) rfl ?_
  refine g_pure (pc' := 85) (st' := [.int ((nI I.2.2.2.length) * 3), .ref ((x + 1))]) cd_In_skipTo rfl rfl (fun _ _ => rfl) ?_
  rw [show ((nI I.2.2.2.length) * 3 : Int32) = nI (I.2.2.2.length * 3) from pk_mul I.2.2.2.length 3]
  refine g_k1 (v := 2) (pc' := 86) cd_In_skipTo rfl (by decide) rfl ?_
  refine g_pure (pc' := 87) (st' := [.int ((nI (I.2.2.2.length * 3)) + 2), .ref ((x + 1))]) cd_In_skipTo rfl rfl (fun _ _ => rfl) ?_
  rw [show ((nI (I.2.2.2.length * 3)) + 2 : Int32) = nI ((I.2.2.2.length * 3) + 2) from nI_add (I.2.2.2.length * 3) 2]
  refine g_ald (pc' := 88) cd_In_skipTo rfl (Or.inr ⟨_, rfl, rfl, rfl⟩) l1 rfl rfl ?_
  refine g_k2 (v := 6) (pc' := 90) cd_In_skipTo rfl (by decide) rfl ?_
  refine g_ald (pc' := 91) cd_In_skipTo rfl (Or.inr ⟨_, rfl, rfl, rfl⟩) l0 rfl rfl ?_
  refine g_fI (c := 2) (k := 3) (x := (bm_FI B 2 3 x)) (pc' := 94) cd_In_skipTo rfl rfl rfl rfl rfl (by decide) hR.1.1.1 hR.1.1.2 rfl ?_
  refine g_k1 (v := 0) (pc' := 95) cd_In_skipTo rfl (by decide) rfl ?_
  have hT3 : TI (bm_setI (bm_setI B (x + 1) ((I.2.2.2.length * 3) + 0) (bm_FI B 2 2 x)) (x + 1) ((I.2.2.2.length * 3) + 1) (bm_FI B 2 4 x)) a ca ba da rm dr T := TI_fr (X := fun y => y = x + 1) hT (fr_trans (fr_setI _ (x + 1) _ _) (fr_setI _ (x + 1) _ _)) (fun q => hn2 (Or.inl q.symm)) (fun q => hn2 (Or.inr (Or.inl q.symm))) (fun q => hn2 (Or.inr (Or.inr (Or.inl q.symm))))
  refine g_calli (pc' := 98) cd_In_skipTo rfl rfl rfl rfl rfl (tm_invV rfl rfl cd_Te_mix rfl (Nat.le_of_ble_eq_true rfl) (by decide) hT.1.1.1 hT.1.1.2) (t_mix (n := 6) hT3 (by omega) hR.2.2.1.2.1 (TI_z hT3) (fun B4 T4 r4 hx4 ht4 => ?_))
  have hT4 := hx4.2.2.1
  have hl4 := hx4.2.1
  have hf4 := (fz_te hx4.2.2.2).1
  have hz4 := fz_te hx4.2.2.2
  have f5_0 := fr_lt hf4 hR.1.1.1
  have g5_0 := (fr_K hf4 hR.1.1.1).trans hR.1.1.2
  have f5_1 := fr_lt hf4 hR.1.2.2.1
  have g5_1 := (fr_K hf4 hR.1.2.2.1).trans hR.1.2.2.2.1
  have f5_2 := fr_lt hf4 hT.1.1.1
  have g5_2 := (fr_K hf4 hT.1.1.1).trans hT.1.1.2
  have q5_0 : bm_FI B4 2 1 x = (nI I.2.2.2.length) := (fr_FI hf4 hR.1.1.1 hn1 2 1).trans hR.2.1.1
  have q5_1 : bm_FI B4 2 2 x = (bm_FI B 2 2 x) := (fr_FI hf4 hR.1.1.1 hn1 2 2).trans rfl
  have q5_2 : bm_FI B4 2 3 x = (bm_FI B 2 3 x) := (fr_FI hf4 hR.1.1.1 hn1 2 3).trans rfl
  have q5_3 : bm_FI B4 2 4 x = (bm_FI B 2 4 x) := (fr_FI hf4 hR.1.1.1 hn1 2 4).trans rfl
  have r5_0 : bm_FR B4 2 0 x = some (x + 1) := (fr_FR hf4 hR.1.1.1 hn1 2 0).trans hR.1.2.1
  have u5_0 : bm_AI B4 (x + 1) = (upd (upd (bm_AI B (x + 1)) ((I.2.2.2.length * 3) + 0) (bm_FI B 2 2 x)) ((I.2.2.2.length * 3) + 1) (bm_FI B 2 4 x)) := (fr_AI hf4 hR.1.2.2.1 hn2).trans A2
  have w5_0 : bm_AL B4 (x + 1) = 24 := (fr_AL hf4 hR.1.2.2.1).trans hR.1.2.2.2.2
  have tv6_0 := tv_mono hx4.1 hR.2.2.1.1
  have tv6_1 := tv_mono hx4.1 hR.2.2.1.2.1
  show bm_G _ _ _ 98 _ [.int r4, .int (nI ((I.2.2.2.length * 3) + 2)), .ref ((x + 1))] B4 _
  refine g_iast (pc' := 99) cd_In_skipTo rfl rfl f5_1 g5_1 (by rw [show bm_AL B4 (x + 1) = 24 from w5_0]; exact vp_in_nI (by omega) (by decide)) ?_
  rw [show (nI ((I.2.2.2.length * 3) + 2) : Int32).toNatClampNeg = ((I.2.2.2.length * 3) + 2) from nI_clamp (by omega)]
  have A7 : bm_AI (bm_setI B4 (x + 1) ((I.2.2.2.length * 3) + 2) r4) (x + 1) = (upd (upd (upd (bm_AI B (x + 1)) ((I.2.2.2.length * 3) + 0) (bm_FI B 2 2 x)) ((I.2.2.2.length * 3) + 1) (bm_FI B 2 4 x)) ((I.2.2.2.length * 3) + 2) r4) := ((AI_set B4 (x + 1) ((I.2.2.2.length * 3) + 2) r4).trans (congrArg (fun f => upd f ((I.2.2.2.length * 3) + 2) r4) (show bm_AI B4 (x + 1) = (upd (upd (bm_AI B (x + 1)) ((I.2.2.2.length * 3) + 0) (bm_FI B 2 2 x)) ((I.2.2.2.length * 3) + 1) (bm_FI B 2 4 x)) from u5_0)))
  refine g_ald (pc' := 100) cd_In_skipTo rfl (Or.inr ⟨_, rfl, rfl, rfl⟩) l0 rfl rfl ?_
  refine g_pure (pc' := 101) (st' := [.ref x, .ref x]) cd_In_skipTo rfl rfl (fun _ _ => rfl) ?_
  refine g_fI (c := 2) (k := 1) (x := (nI I.2.2.2.length)) (pc' := 104) cd_In_skipTo rfl rfl rfl rfl rfl (by decide) f5_0 g5_0 q5_0 ?_
  refine g_k1 (v := 1) (pc' := 105) cd_In_skipTo rfl (by decide) rfl ?_
  refine g_pure (pc' := 106) (st' := [.int ((nI I.2.2.2.length) + 1), .ref x]) cd_In_skipTo rfl rfl (fun _ _ => rfl) ?_
  rw [show ((nI I.2.2.2.length) + 1 : Int32) = nI (I.2.2.2.length + 1) from nI_add I.2.2.2.length 1]
  refine g_putI (c := 2) (k := 1) (pc' := 109) cd_In_skipTo rfl rfl rfl rfl (by simp [tm_okV, narrow, fits]) (Or.inl rfl) rfl (by decide) f5_0 g5_0 ?_
  have P8 : bm_FI (bm_putI (bm_setI B4 (x + 1) ((I.2.2.2.length * 3) + 2) r4) 2 1 x (nI (I.2.2.2.length + 1))) 2 1 x = nI (I.2.2.2.length + 1) := if_pos ⟨rfl, rfl, rfl⟩
  refine g_ald (pc' := 110) cd_In_skipTo rfl (Or.inr ⟨_, rfl, rfl, rfl⟩) l0 rfl rfl ?_
  refine g_ald (pc' := 111) cd_In_skipTo rfl (Or.inr ⟨_, rfl, rfl, rfl⟩) l1 rfl rfl ?_
  refine g_k2 (v := 7) (pc' := 113) cd_In_skipTo rfl (by decide) rfl ?_
  refine g_ald (pc' := 114) cd_In_skipTo rfl (Or.inr ⟨_, rfl, rfl, rfl⟩) l0 rfl rfl ?_
  refine g_fI (c := 2) (k := 3) (x := (bm_FI B 2 3 x)) (pc' := 117) cd_In_skipTo rfl rfl rfl rfl rfl (by decide) f5_0 g5_0 q5_2 ?_
  refine g_k1 (v := 0) (pc' := 118) cd_In_skipTo rfl (by decide) rfl ?_
  have hT9 : TI (bm_putI (bm_setI B4 (x + 1) ((I.2.2.2.length * 3) + 2) r4) 2 1 x (nI (I.2.2.2.length + 1))) a ca ba da rm dr T4 := TI_fr (X := fun y => y = x ∨ y = x + 1) hT4 (fr_trans (fr_mono (fun _ q => Or.inr q) (fr_setI _ (x + 1) _ _)) (fr_mono (fun _ q => Or.inl q) (fr_putI _ 2 1 x _))) (fun q => q.elim (fun q => hn1 (Or.inl q.symm)) (fun q => hn2 (Or.inl q.symm))) (fun q => q.elim (fun q => hn1 (Or.inr (Or.inl q.symm))) (fun q => hn2 (Or.inr (Or.inl q.symm)))) (fun q => q.elim (fun q => hn1 (Or.inr (Or.inr (Or.inl q.symm)))) (fun q => hn2 (Or.inr (Or.inr (Or.inl q.symm)))))
  refine g_calli (pc' := 121) cd_In_skipTo rfl rfl rfl rfl rfl (tm_invV rfl rfl cd_Te_mix rfl (Nat.le_of_ble_eq_true rfl) (by decide) f5_2 g5_2) (t_mix (n := 7) hT9 (by omega) tv6_1 (TI_z hT9) (fun B10 T10 r10 hx10 ht10 => ?_))
  have hT10 := hx10.2.2.1
  have hl10 := hx10.2.1
  have hf10 := (fz_te hx10.2.2.2).1
  have hz10 := fz_te hx10.2.2.2
  have f11_0 := fr_lt hf10 f5_0
  have g11_0 := (fr_K hf10 f5_0).trans g5_0
  have f11_1 := fr_lt hf10 f5_1
  have g11_1 := (fr_K hf10 f5_1).trans g5_1
  have f11_2 := fr_lt hf10 f5_2
  have g11_2 := (fr_K hf10 f5_2).trans g5_2
  have q11_0 : bm_FI B10 2 1 x = nI (I.2.2.2.length + 1) := (fr_FI hf10 f5_0 hn1 2 1).trans P8
  have q11_1 : bm_FI B10 2 2 x = (bm_FI B 2 2 x) := (fr_FI hf10 f5_0 hn1 2 2).trans q5_1
  have q11_2 : bm_FI B10 2 3 x = (bm_FI B 2 3 x) := (fr_FI hf10 f5_0 hn1 2 3).trans q5_2
  have q11_3 : bm_FI B10 2 4 x = (bm_FI B 2 4 x) := (fr_FI hf10 f5_0 hn1 2 4).trans q5_3
  have r11_0 : bm_FR B10 2 0 x = some (x + 1) := (fr_FR hf10 f5_0 hn1 2 0).trans r5_0
  have u11_0 : bm_AI B10 (x + 1) = (upd (upd (upd (bm_AI B (x + 1)) ((I.2.2.2.length * 3) + 0) (bm_FI B 2 2 x)) ((I.2.2.2.length * 3) + 1) (bm_FI B 2 4 x)) ((I.2.2.2.length * 3) + 2) r4) := (fr_AI hf10 f5_1 hn2).trans A7
  have w11_0 : bm_AL B10 (x + 1) = 24 := (fr_AL hf10 f5_1).trans w5_0
  have tv12_0 := tv_mono hx10.1 tv6_0
  have tv12_1 := tv_mono hx10.1 tv6_1
  have tv12_2 := tv_mono hx10.1 ht4
  show bm_G _ _ _ 121 _ [.int r10, .ref x] B10 _
  refine g_putI (c := 2) (k := 3) (pc' := 124) cd_In_skipTo rfl rfl rfl rfl (by simp [tm_okV, narrow, fits]) (Or.inl rfl) rfl (by decide) f11_0 g11_0 ?_
  have P13 : bm_FI (bm_putI B10 2 3 x r10) 2 3 x = r10 := if_pos ⟨rfl, rfl, rfl⟩
  refine g_ald (pc' := 125) cd_In_skipTo rfl (Or.inr ⟨_, rfl, rfl, rfl⟩) l0 rfl rfl ?_
  refine g_pure (pc' := 126) (st' := [.ref x, .ref x]) cd_In_skipTo rfl rfl (fun _ _ => rfl) ?_
  refine g_fI (c := 2) (k := 4) (x := (bm_FI B 2 4 x)) (pc' := 129) cd_In_skipTo rfl rfl rfl rfl rfl (by decide) f11_0 g11_0 q11_3 ?_
  refine g_k1 (v := 1) (pc' := 130) cd_In_skipTo rfl (by decide) rfl ?_
  refine g_pure (pc' := 131) (st' := [.int ((bm_FI B 2 4 x) + 1), .ref x]) cd_In_skipTo rfl rfl (fun _ _ => rfl) ?_
  refine g_putI (c := 2) (k := 4) (pc' := 134) cd_In_skipTo rfl rfl rfl rfl (by simp [tm_okV, narrow, fits]) (Or.inl rfl) rfl (by decide) f11_0 g11_0 ?_
  have P14 : bm_FI (bm_putI (bm_putI B10 2 3 x r10) 2 4 x ((bm_FI B 2 4 x) + 1)) 2 4 x = (bm_FI B 2 4 x) + 1 := if_pos ⟨rfl, rfl, rfl⟩
  refine g_inc (y := i + 1) (pc' := 137) cd_In_skipTo rfl l3 (by decide) rfl rfl (fun lv el => ?_)
  have l0 := tm_lk el l0 rfl (by decide)
  have l1 := tm_lk el l1 rfl (by decide)
  have l2 := tm_lk el l2 rfl (by decide)
  have l3 : lv.lookup 3 = some (.int (i + 1)) := tm_lks el
  clear el
  refine g_pure (pc' := 14) (st' := []) cd_In_skipTo rfl rfl (fun _ _ => rfl) ?_
  have hz : fz (fun y => tcs a ca ba da y ∨ y = x ∨ y = x + 1) B _ := fz_trans (fz_trans (fz_trans (fz_trans ⟨fr_mono (fun _ q => Or.inr (Or.inr q)) (fr_setI B (x + 1) (I.2.2.2.length * 3 + 0) _), rfl, rfl⟩ ⟨fr_mono (fun _ q => Or.inr (Or.inr q)) (fr_setI _ (x + 1) (I.2.2.2.length * 3 + 1) _), rfl, rfl⟩) (fz_mono (fun _ q => Or.inl q) hz4)) (fz_trans ⟨fr_mono (fun _ q => Or.inr (Or.inr q)) (fr_setI _ (x + 1) (I.2.2.2.length * 3 + 2) r4), rfl, rfl⟩ ⟨fr_mono (fun _ q => Or.inr (Or.inl q)) (fr_putI _ 2 1 x (nI (I.2.2.2.length + 1))), rfl, rfl⟩)) (fz_trans (fz_mono (fun _ q => Or.inl q) hz10) (fz_trans ⟨fr_mono (fun _ q => Or.inr (Or.inl q)) (fr_putI _ 2 3 x r10), rfl, rfl⟩ ⟨fr_mono (fun _ q => Or.inr (Or.inl q)) (fr_putI _ 2 4 x (bm_FI B 2 4 x + 1)), rfl, rfl⟩))
  exact kk _ _ lv (hx4.1.trans hx10.1) (by omega) (TI_fr (X := fun y => y = x) hT10 (fr_trans (fr_putI _ 2 3 x r10) (fr_putI _ 2 4 x _)) (fun q => hn1 (Or.inl q.symm)) (fun q => hn1 (Or.inr (Or.inl q.symm))) (fun q => hn1 (Or.inr (Or.inr (Or.inl q.symm))))) (RIn_push hR hl hz.1 (hx4.1.trans hx10.1) q11_0 q11_1 P13 P14 u11_0 tv12_2 ht10) hz l0 l1 l2 l3
set_option maxRecDepth 100000 in
theorem l_skip {sc : tm_X} {d : Nat} {a ca ba da rm dr x : Nat} {B0 : bm_H} {T0 : List Tm} {J : IB} {ix : Int32} {Q : Int32 → bm_H → Prop} (hrm : T0.length + 10 < rm) (hn1 : ¬ tcs a ca ba da x) (hn2 : ¬ tcs a ca ba da (x + 1)) (kk : ∀ B' T', T0 <+: T' → T'.length ≤ T0.length + 10 → TI B' a ca ba da rm dr T' → RIn B' T' x J → fz (fun y => tcs a ca ba da y ∨ y = x ∨ y = x + 1) B0 B' → Q 1 B') : ∀ (m i : Nat) (B : bm_H) (T : List Tm) (I : IB), i + m = 5 → TI B a ca ba da rm dr T → RIn B T x I → T0 <+: T → T.length + 2 * m ≤ T0.length + 10 → fz (fun y => tcs a ca ba da y ∨ y = x ∨ y = x + 1) B0 B → ib_skipN ix m I = J → ∀ lv : tm_L, lv.lookup 0 = some (.ref x) → lv.lookup 1 = some (.ref a) → lv.lookup 2 = some (.int ix) → lv.lookup 3 = some (.int (nI i)) → bm_G sc (d + 3) 116 14 lv [] B (fun r B' => ∃ y, r = some (.int y) ∧ Q y B') := by
  intro m
  induction m with
  | zero =>
    intro i B T I hm hT hR hp hlen hz hJ lv l0 l1 l2 l3
    have hJ : I = J := hJ
    refine g_ild (pc' := 15) cd_In_skipTo rfl (Or.inr ⟨_, rfl, rfl, rfl⟩) l3 rfl ?_
    refine g_k1 (v := 5) (pc' := 16) cd_In_skipTo rfl (by decide) rfl ?_
    refine g_if2 (t := 140) (pc' := 19) cd_In_skipTo rfl rfl rfl (fun c16 => ?_) (fun c16 => ?_)
    · have c16 : (5 : Int32) ≤ (nI i) := c16
      refine g_k1 (v := 1) (pc' := 141) cd_In_skipTo rfl (by decide) rfl ?_
      exact g_retz cd_In_skipTo rfl (Or.inr rfl) ⟨_, rfl, (kk _ _ hp (by omega) hT (hJ ▸ hR) hz)⟩
    · have c16 : ¬ (5 : Int32) ≤ (nI i) := c16
      exact absurd (nI_le (a := 5) (by omega) (by omega)) c16
  | succ m ih =>
    intro i B T I hm hT hR hp hlen hz hJ lv l0 l1 l2 l3
    have hc8 := hR.2.1.2
    have hnx : bm_FI B 2 4 x = I.2.2.1 := hR.2.2.1.2.2
    refine g_ild (pc' := 15) cd_In_skipTo rfl (Or.inr ⟨_, rfl, rfl, rfl⟩) l3 rfl ?_
    refine g_k1 (v := 5) (pc' := 16) cd_In_skipTo rfl (by decide) rfl ?_
    refine g_if2 (t := 140) (pc' := 19) cd_In_skipTo rfl rfl rfl (fun c16 => ?_) (fun c16 => ?_)
    · have c16 : (5 : Int32) ≤ (nI i) := c16
      exact absurd c16 (nI_ge (b := 5) (by omega) (by decide))
    · have c16 : ¬ (5 : Int32) ≤ (nI i) := c16
      refine g_ald (pc' := 20) cd_In_skipTo rfl (Or.inr ⟨_, rfl, rfl, rfl⟩) l0 rfl rfl ?_
      refine g_fI (c := 2) (k := 4) (x := (bm_FI B 2 4 x)) (pc' := 23) cd_In_skipTo rfl rfl rfl rfl rfl (by decide) hR.1.1.1 hR.1.1.2 rfl ?_
      refine g_ild (pc' := 24) cd_In_skipTo rfl (Or.inr ⟨_, rfl, rfl, rfl⟩) l2 rfl ?_
      refine g_if2 (t := 140) (pc' := 27) cd_In_skipTo rfl rfl rfl (fun c24 => ?_) (fun c24 => ?_)
      · have c24 : ix ≤ (bm_FI B 2 4 x) := c24
        refine g_k1 (v := 1) (pc' := 141) cd_In_skipTo rfl (by decide) rfl ?_
        exact g_retz cd_In_skipTo rfl (Or.inr rfl) ⟨_, rfl, (kk _ _ hp (by omega) hT ((show I = J by rw [← hJ]; unfold ib_skipN; rw [if_pos (hnx ▸ c24)]) ▸ hR) hz)⟩
      · have c24 : ¬ ix ≤ (bm_FI B 2 4 x) := c24
        refine g_ald (pc' := 28) cd_In_skipTo rfl (Or.inr ⟨_, rfl, rfl, rfl⟩) l0 rfl rfl ?_
        refine g_fI (c := 2) (k := 1) (x := (nI I.2.2.2.length)) (pc' := 31) cd_In_skipTo rfl rfl rfl rfl rfl (by decide) hR.1.1.1 hR.1.1.2 hR.2.1.1 ?_
        refine g_k2 (v := 8) (pc' := 33) cd_In_skipTo rfl (by decide) rfl ?_
        refine g_if2 (t := 41) (pc' := 36) cd_In_skipTo rfl rfl rfl (fun c33 => ?_) (fun c33 => ?_)
        · have c33 : ¬ (nI I.2.2.2.length) = 8 := c33
          have hstep : ib_skipN ix m (ib_step I) = J := by rw [← hJ]; show _ = (if ix ≤ I.2.2.1 then I else ib_skipN ix m (ib_step I)); rw [if_neg (hnx ▸ c24)]
          have h8 : I.2.2.2.length < 8 := by have : ¬ I.2.2.2.length = 8 := fun q => c33 (by rw [q]; rfl); omega
          exact l_skip1 (i := nI i) hT (by omega) hR hn1 hn2 h8 (fun B3 T3 lv3 hp3 hl3 hT3 hR3 hz3 k0 k1 k2 k3 => ih (i + 1) B3 T3 (ib_step I) (by omega) hT3 (by unfold ib_step; rw [if_neg (by omega)]; exact hR3) (hp.trans hp3) (by omega) (fz_trans hz hz3) hstep lv3 k0 k1 k2 (nI_1 i ▸ k3)) lv l0 l1 l2 l3
        · have c33 : (nI I.2.2.2.length) = 8 := Classical.not_not.mp c33
          refine g_ald (pc' := 37) cd_In_skipTo rfl (Or.inr ⟨_, rfl, rfl, rfl⟩) l0 rfl rfl ?_
          refine g_k1 (v := 0) (pc' := 38) cd_In_skipTo rfl (by decide) rfl ?_
          refine g_callv (pc' := 41) cd_In_skipTo rfl rfl rfl rfl rfl (tm_invV rfl rfl cd_In_removeLeft rfl (Nat.le_of_ble_eq_true rfl) (by decide) hR.1.1.1 hR.1.1.2) (k_In_removeLeft (i := 0) (RIn_ok hR) (by have := (nI_eq (b := 8) (by omega) (by decide)).mp c33; omega) ?_)
          show bm_G _ _ _ 41 _ [] (in_rem B x (x + 1) I.2.2.2.length 0) _
          have hstep : ib_skipN ix m (ib_step I) = J := by rw [← hJ]; show _ = (if ix ≤ I.2.2.1 then I else ib_skipN ix m (ib_step I)); rw [if_neg (hnx ▸ c24)]
          have h8 : I.2.2.2.length = 8 := (nI_eq (by omega) (by decide)).mp c33
          have hR2 := RIn_rem (i := 0) hR (by omega)
          have hf2 := in_rem_fz B x I.2.2.2.length 0
          have hT2 := TI_fr hT hf2.1 (fun q => q.elim (fun q => hn1 (Or.inl q.symm)) (fun q => hn2 (Or.inl q.symm))) (fun q => q.elim (fun q => hn1 (Or.inr (Or.inl q.symm))) (fun q => hn2 (Or.inr (Or.inl q.symm)))) (fun q => q.elim (fun q => hn1 (Or.inr (Or.inr (Or.inl q.symm)))) (fun q => hn2 (Or.inr (Or.inr (Or.inl q.symm)))))
          exact l_skip1 (i := nI i) hT2 (by omega) hR2 hn1 hn2 (by show (I.2.2.2.eraseIdx 0).length < 8; rw [List.length_eraseIdx, if_pos (show 0 < I.2.2.2.length by omega)]; omega) (fun B3 T3 lv3 hp3 hl3 hT3 hR3 hz3 k0 k1 k2 k3 => ih (i + 1) B3 T3 (ib_step I) (by omega) hT3 (by unfold ib_step; rw [if_pos h8]; rw [List.eraseIdx_zero] at hR3; rw [List.drop_one]; exact hR3) (hp.trans hp3) (by omega) (fz_trans hz (fz_trans (fz_mono (fun _ q => Or.inr q) hf2) hz3)) hstep lv3 k0 k1 k2 (nI_1 i ▸ k3)) lv l0 l1 l2 l3
set_option maxRecDepth 100000 in
theorem t_skipTo {sc : tm_X} {d : Nat} {a ca ba da rm dr x : Nat} {B : bm_H} {T : List Tm} {I : IB} {ix : Int32} {Q : Int32 → bm_H → Prop} (hT : TI B a ca ba da rm dr T) (hR : RIn B T x I) (hrm : T.length + 10 < rm) (hn1 : ¬ tcs a ca ba da x) (hn2 : ¬ tcs a ca ba da (x + 1)) (kk0 : ib_skipTo I ix = none → Q 0 B) (kk1 : ∀ J B' T', ib_skipTo I ix = some J → T <+: T' → T'.length ≤ T.length + 10 → TI B' a ca ba da rm dr T' → RIn B' T' x J → fz (fun y => tcs a ca ba da y ∨ y = x ∨ y = x + 1) B B' → Q 1 B') : bm_Gi sc (d + 3) 116 [.ref x, .ref a, .int ix] B Q := by
  have hnx : bm_FI B 2 4 x = I.2.2.1 := hR.2.2.1.2.2
  show bm_G sc (d + 3) 116 0 [(0, .ref x), (1, .ref a), (2, .int ix)] [] B _
  generalize elv : ([(0, .ref x), (1, .ref a), (2, .int ix)] : tm_L) = lv
  have l0 : lv.lookup 0 = some (.ref x) := by rw [← elv]; rfl
  have l1 : lv.lookup 1 = some (.ref a) := by rw [← elv]; rfl
  have l2 : lv.lookup 2 = some (.int ix) := by rw [← elv]; rfl
  clear elv
  refine g_ild (pc' := 1) cd_In_skipTo rfl (Or.inr ⟨_, rfl, rfl, rfl⟩) l2 rfl ?_
  refine g_ald (pc' := 2) cd_In_skipTo rfl (Or.inr ⟨_, rfl, rfl, rfl⟩) l0 rfl rfl ?_
  refine g_fI (c := 2) (k := 4) (x := (bm_FI B 2 4 x)) (pc' := 5) cd_In_skipTo rfl rfl rfl rfl rfl (by decide) hR.1.1.1 hR.1.1.2 rfl ?_
  refine g_pure (pc' := 6) (st' := [.int (ix - (bm_FI B 2 4 x))]) cd_In_skipTo rfl rfl (fun _ _ => rfl) ?_
  refine g_k1 (v := 5) (pc' := 7) cd_In_skipTo rfl (by decide) rfl ?_
  refine g_if2 (t := 12) (pc' := 10) cd_In_skipTo rfl rfl rfl (fun c7 => ?_) (fun c7 => ?_)
  · have c7 : (ix - (bm_FI B 2 4 x)) ≤ 5 := c7
    refine g_k1 (v := 0) (pc' := 13) cd_In_skipTo rfl (by decide) rfl ?_
    refine g_ist (pc' := 14) cd_In_skipTo rfl (Or.inr ⟨_, rfl, rfl, rfl⟩) (by decide) rfl (fun lv el => ?_)
    have l0 := tm_lk el l0 rfl (by decide)
    have l1 := tm_lk el l1 rfl (by decide)
    have l2 := tm_lk el l2 rfl (by decide)
    have l3 : lv.lookup 3 = some (.int 0) := tm_lks el
    clear el
    exact l_skip hrm hn1 hn2 (fun B' T' h1 h2 h3 h4 h5 => kk1 _ B' T' (by unfold ib_skipTo; rw [if_pos (hnx ▸ c7)]) h1 h2 h3 h4 h5) 5 0 B T I rfl hT hR (List.prefix_refl T) (Nat.le_refl _) (fz_rfl _ B) rfl lv l0 l1 l2 l3
  · have c7 : ¬ (ix - (bm_FI B 2 4 x)) ≤ 5 := c7
    refine g_k1 (v := 0) (pc' := 11) cd_In_skipTo rfl (by decide) rfl ?_
    exact g_retz cd_In_skipTo rfl (Or.inl rfl) ⟨_, rfl, (kk0 (by unfold ib_skipTo; rw [if_neg (hnx ▸ c7)]))⟩
set_option maxRecDepth 100000 in
theorem t_nextKey {sc : tm_X} {d : Nat} {a ca ba da rm dr x : Nat} {B : bm_H} {T : List Tm} {I : IB} {ix : Int32} {Q : Int32 → bm_H → Prop} (hT : TI B a ca ba da rm dr T) (hR : RIn B T x I) (hrm : T.length + 12 < rm) (hn1 : ¬ tcs a ca ba da x) (hn2 : ¬ tcs a ca ba da (x + 1)) (kk0 : ib_next I ix = none → Q 0 B) (kk1 : ∀ K J B' T' r, ib_next I ix = some (K, J) → T <+: T' → T'.length ≤ T.length + 12 → TI B' a ca ba da rm dr T' → tv T' r K → K ≠ tz → RIn B' T' x J → fz (fun y => tcs a ca ba da y ∨ y = x ∨ y = x + 1) B B' → Q r B') : bm_Gi sc (d + 4) 118 [.ref x, .ref a, .int ix] B Q := by
  have hnx : bm_FI B 2 4 x = I.2.2.1 := hR.2.2.1.2.2
  show bm_G sc (d + 4) 118 0 [(0, .ref x), (1, .ref a), (2, .int ix)] [] B _
  generalize elv : ([(0, .ref x), (1, .ref a), (2, .int ix)] : tm_L) = lv
  have l0 : lv.lookup 0 = some (.ref x) := by rw [← elv]; rfl
  have l1 : lv.lookup 1 = some (.ref a) := by rw [← elv]; rfl
  have l2 : lv.lookup 2 = some (.int ix) := by rw [← elv]; rfl
  clear elv
  refine g_ild (pc' := 1) cd_In_nextKey rfl (Or.inr ⟨_, rfl, rfl, rfl⟩) l2 rfl ?_
  refine g_ald (pc' := 2) cd_In_nextKey rfl (Or.inr ⟨_, rfl, rfl, rfl⟩) l0 rfl rfl ?_
  refine g_fI (c := 2) (k := 4) (x := (bm_FI B 2 4 x)) (pc' := 5) cd_In_nextKey rfl rfl rfl rfl rfl (by decide) hR.1.1.1 hR.1.1.2 rfl ?_
  refine g_if2 (t := 17) (pc' := 8) cd_In_nextKey rfl rfl rfl (fun c5 => ?_) (fun c5 => ?_)
  · have c5 : ix < (bm_FI B 2 4 x) := c5
    refine g_k1 (v := 0) (pc' := 18) cd_In_nextKey rfl (by decide) rfl ?_
    exact g_reti cd_In_nextKey rfl ⟨_, rfl, (kk0 (by unfold ib_next; rw [if_pos (hnx ▸ c5)]))⟩
  · have c5 : ¬ ix < (bm_FI B 2 4 x) := c5
    refine g_ald (pc' := 9) cd_In_nextKey rfl (Or.inr ⟨_, rfl, rfl, rfl⟩) l0 rfl rfl ?_
    refine g_ald (pc' := 10) cd_In_nextKey rfl (Or.inr ⟨_, rfl, rfl, rfl⟩) l1 rfl rfl ?_
    refine g_ild (pc' := 11) cd_In_nextKey rfl (Or.inr ⟨_, rfl, rfl, rfl⟩) l2 rfl ?_
    refine g_calli (pc' := 14) cd_In_nextKey rfl rfl rfl rfl rfl (tm_invV rfl rfl cd_In_skipTo rfl (Nat.le_of_ble_eq_true rfl) (by decide) hR.1.1.1 hR.1.1.2) (t_skipTo hT hR (by omega) hn1 hn2 (fun hss => ?_) (fun Js Bs Ts hss hps hls hTs hRs hzs => ?_))
    · skip
      show bm_G _ _ _ 14 _ [.int 0] B _
      refine g_if1 (t := 19) (pc' := 17) cd_In_nextKey rfl rfl rfl (fun c14 => ?_) (fun c14 => ?_)
      · exact absurd (show ¬ (0 : Int32) = 0 from c14) (by decide)
      · have c14 : (0 : Int32) = 0 := Classical.not_not.mp c14
        refine g_k1 (v := 0) (pc' := 18) cd_In_nextKey rfl (by decide) rfl ?_
        exact g_reti cd_In_nextKey rfl ⟨_, rfl, (kk0 (by unfold ib_next; rw [if_neg (hnx ▸ c5), hss]; rfl))⟩
    · skip
      show bm_G _ _ _ 14 _ [.int 1] Bs _
      refine g_if1 (t := 19) (pc' := 17) cd_In_nextKey rfl rfl rfl (fun c14 => ?_) (fun c14 => ?_)
      · have c14 : ¬ (1 : Int32) = 0 := c14
        refine g_ald (pc' := 20) cd_In_nextKey rfl (Or.inr ⟨_, rfl, rfl, rfl⟩) l1 rfl rfl ?_
        refine g_k2 (v := 6) (pc' := 22) cd_In_nextKey rfl (by decide) rfl ?_
        refine g_ald (pc' := 23) cd_In_nextKey rfl (Or.inr ⟨_, rfl, rfl, rfl⟩) l0 rfl rfl ?_
        refine g_fI (c := 2) (k := 3) (x := (bm_FI Bs 2 3 x)) (pc' := 26) cd_In_nextKey rfl rfl rfl rfl rfl (by decide) hRs.1.1.1 hRs.1.1.2 rfl ?_
        refine g_k1 (v := 0) (pc' := 27) cd_In_nextKey rfl (by decide) rfl ?_
        refine g_calli (pc' := 30) cd_In_nextKey rfl rfl rfl rfl rfl (tm_invV rfl rfl cd_Te_mix rfl (Nat.le_of_ble_eq_true rfl) (by decide) hTs.1.1.1 hTs.1.1.2) (t_mix (n := 6) hTs (by omega) hRs.2.2.1.2.1 (TI_z hTs) (fun B15 T15 r15 hx15 ht15 => ?_))
        have hT15 := hx15.2.2.1
        have hl15 := hx15.2.1
        have hf15 := (fz_te hx15.2.2.2).1
        have hz15 := fz_te hx15.2.2.2
        have f16_0 := fr_lt hf15 hRs.1.1.1
        have g16_0 := (fr_K hf15 hRs.1.1.1).trans hRs.1.1.2
        have f16_1 := fr_lt hf15 hRs.1.2.2.1
        have g16_1 := (fr_K hf15 hRs.1.2.2.1).trans hRs.1.2.2.2.1
        have f16_2 := fr_lt hf15 hTs.1.1.1
        have g16_2 := (fr_K hf15 hTs.1.1.1).trans hTs.1.1.2
        have q16_0 : bm_FI B15 2 1 x = (nI Js.2.2.2.length) := (fr_FI hf15 hRs.1.1.1 hn1 2 1).trans hRs.2.1.1
        have q16_1 : bm_FI B15 2 2 x = (bm_FI Bs 2 2 x) := (fr_FI hf15 hRs.1.1.1 hn1 2 2).trans rfl
        have q16_2 : bm_FI B15 2 3 x = (bm_FI Bs 2 3 x) := (fr_FI hf15 hRs.1.1.1 hn1 2 3).trans rfl
        have q16_3 : bm_FI B15 2 4 x = (bm_FI Bs 2 4 x) := (fr_FI hf15 hRs.1.1.1 hn1 2 4).trans rfl
        have r16_0 : bm_FR B15 2 0 x = some (x + 1) := (fr_FR hf15 hRs.1.1.1 hn1 2 0).trans hRs.1.2.1
        have u16_0 : bm_AI B15 (x + 1) = (bm_AI Bs (x + 1)) := (fr_AI hf15 hRs.1.2.2.1 hn2).trans rfl
        have w16_0 : bm_AL B15 (x + 1) = 24 := (fr_AL hf15 hRs.1.2.2.1).trans hRs.1.2.2.2.2
        have tv17_0 := tv_mono hx15.1 hRs.2.2.1.1
        have tv17_1 := tv_mono hx15.1 hRs.2.2.1.2.1
        show bm_G _ _ _ 30 _ [.int r15] B15 _
        refine g_ist (pc' := 31) cd_In_nextKey rfl (Or.inr ⟨_, rfl, rfl, rfl⟩) (by decide) rfl (fun lv el => ?_)
        have l0 := tm_lk el l0 rfl (by decide)
        have l1 := tm_lk el l1 rfl (by decide)
        have l2 := tm_lk el l2 rfl (by decide)
        have l3 : lv.lookup 3 = some (.int r15) := tm_lks el
        clear el
        refine g_ald (pc' := 32) cd_In_nextKey rfl (Or.inr ⟨_, rfl, rfl, rfl⟩) l0 rfl rfl ?_
        refine g_ald (pc' := 33) cd_In_nextKey rfl (Or.inr ⟨_, rfl, rfl, rfl⟩) l1 rfl rfl ?_
        refine g_k2 (v := 7) (pc' := 35) cd_In_nextKey rfl (by decide) rfl ?_
        refine g_ald (pc' := 36) cd_In_nextKey rfl (Or.inr ⟨_, rfl, rfl, rfl⟩) l0 rfl rfl ?_
        refine g_fI (c := 2) (k := 3) (x := (bm_FI Bs 2 3 x)) (pc' := 39) cd_In_nextKey rfl rfl rfl rfl rfl (by decide) f16_0 g16_0 q16_2 ?_
        refine g_k1 (v := 0) (pc' := 40) cd_In_nextKey rfl (by decide) rfl ?_
        refine g_calli (pc' := 43) cd_In_nextKey rfl rfl rfl rfl rfl (tm_invV rfl rfl cd_Te_mix rfl (Nat.le_of_ble_eq_true rfl) (by decide) f16_2 g16_2) (t_mix (n := 7) hT15 (by omega) tv17_1 (TI_z hT15) (fun B18 T18 r18 hx18 ht18 => ?_))
        have hT18 := hx18.2.2.1
        have hl18 := hx18.2.1
        have hf18 := (fz_te hx18.2.2.2).1
        have hz18 := fz_te hx18.2.2.2
        have f19_0 := fr_lt hf18 f16_0
        have g19_0 := (fr_K hf18 f16_0).trans g16_0
        have f19_1 := fr_lt hf18 f16_1
        have g19_1 := (fr_K hf18 f16_1).trans g16_1
        have f19_2 := fr_lt hf18 f16_2
        have g19_2 := (fr_K hf18 f16_2).trans g16_2
        have q19_0 : bm_FI B18 2 1 x = (nI Js.2.2.2.length) := (fr_FI hf18 f16_0 hn1 2 1).trans q16_0
        have q19_1 : bm_FI B18 2 2 x = (bm_FI Bs 2 2 x) := (fr_FI hf18 f16_0 hn1 2 2).trans q16_1
        have q19_2 : bm_FI B18 2 3 x = (bm_FI Bs 2 3 x) := (fr_FI hf18 f16_0 hn1 2 3).trans q16_2
        have q19_3 : bm_FI B18 2 4 x = (bm_FI Bs 2 4 x) := (fr_FI hf18 f16_0 hn1 2 4).trans q16_3
        have r19_0 : bm_FR B18 2 0 x = some (x + 1) := (fr_FR hf18 f16_0 hn1 2 0).trans r16_0
        have u19_0 : bm_AI B18 (x + 1) = (bm_AI Bs (x + 1)) := (fr_AI hf18 f16_1 hn2).trans u16_0
        have w19_0 : bm_AL B18 (x + 1) = 24 := (fr_AL hf18 f16_1).trans w16_0
        have tv20_0 := tv_mono hx18.1 tv17_0
        have tv20_1 := tv_mono hx18.1 tv17_1
        have tv20_2 := tv_mono hx18.1 ht15
        show bm_G _ _ _ 43 _ [.int r18, .ref x] B18 _
        refine g_putI (c := 2) (k := 3) (pc' := 46) cd_In_nextKey rfl rfl rfl rfl (by simp [tm_okV, narrow, fits]) (Or.inl rfl) rfl (by decide) f19_0 g19_0 ?_
        have P21 : bm_FI (bm_putI B18 2 3 x r18) 2 3 x = r18 := if_pos ⟨rfl, rfl, rfl⟩
        refine g_ald (pc' := 47) cd_In_nextKey rfl (Or.inr ⟨_, rfl, rfl, rfl⟩) l0 rfl rfl ?_
        refine g_pure (pc' := 48) (st' := [.ref x, .ref x]) cd_In_nextKey rfl rfl (fun _ _ => rfl) ?_
        refine g_fI (c := 2) (k := 4) (x := (bm_FI Bs 2 4 x)) (pc' := 51) cd_In_nextKey rfl rfl rfl rfl rfl (by decide) f19_0 g19_0 q19_3 ?_
        refine g_k1 (v := 1) (pc' := 52) cd_In_nextKey rfl (by decide) rfl ?_
        refine g_pure (pc' := 53) (st' := [.int ((bm_FI Bs 2 4 x) + 1), .ref x]) cd_In_nextKey rfl rfl (fun _ _ => rfl) ?_
        refine g_putI (c := 2) (k := 4) (pc' := 56) cd_In_nextKey rfl rfl rfl rfl (by simp [tm_okV, narrow, fits]) (Or.inl rfl) rfl (by decide) f19_0 g19_0 ?_
        have P22 : bm_FI (bm_putI (bm_putI B18 2 3 x r18) 2 4 x ((bm_FI Bs 2 4 x) + 1)) 2 4 x = (bm_FI Bs 2 4 x) + 1 := if_pos ⟨rfl, rfl, rfl⟩
        refine g_ild (pc' := 57) cd_In_nextKey rfl (Or.inr ⟨_, rfl, rfl, rfl⟩) l3 rfl ?_
        exact g_reti cd_In_nextKey rfl ⟨_, rfl, (kk1 _ _ _ _ _ (by unfold ib_next; rw [if_neg (hnx ▸ c5), hss]; rfl) (hps.trans (hx15.1.trans hx18.1)) (by omega) (TI_fr (X := fun y => y = x) hT18 (fr_trans (fr_putI _ 2 3 x r18) (fr_putI _ 2 4 x _)) (fun q => hn1 (Or.inl q.symm)) (fun q => hn1 (Or.inr (Or.inl q.symm))) (fun q => hn1 (Or.inr (Or.inr (Or.inl q.symm))))) tv20_2 tn_ne (RIn_mk (ch := r18) (nx := bm_FI Bs 2 4 x + 1) (J := (Js.1, Tmx 7 Js.2.1 tz, Js.2.2.1 + 1, Js.2.2.2)) hR.1 (fz_trans hzs (fz_trans (fz_trans (fz_mono (fun _ q => Or.inl q) hz15) (fz_mono (fun _ q => Or.inl q) hz18)) (fz_trans ⟨fr_mono (fun _ q => Or.inr (Or.inl q)) (fr_putI _ 2 3 x r18), rfl, rfl⟩ ⟨fr_mono (fun _ q => Or.inr (Or.inl q)) (fr_putI _ 2 4 x (bm_FI Bs 2 4 x + 1)), rfl, rfl⟩))).1 q19_0 q19_1 P21 P22 u19_0 rfl hRs.2.1.2 (tv_mono (hx15.1.trans hx18.1) hRs.2.2.1.1) ht18 (by rw [hRs.2.2.1.2.2]) (fun i e he => ⟨tv_mono (hx15.1.trans hx18.1) (hRs.2.2.2 i e he).1, (hRs.2.2.2 i e he).2.1, tv_mono (hx15.1.trans hx18.1) (hRs.2.2.2 i e he).2.2⟩)) (fz_trans hzs (fz_trans (fz_trans (fz_mono (fun _ q => Or.inl q) hz15) (fz_mono (fun _ q => Or.inl q) hz18)) (fz_trans ⟨fr_mono (fun _ q => Or.inr (Or.inl q)) (fr_putI _ 2 3 x r18), rfl, rfl⟩ ⟨fr_mono (fun _ q => Or.inr (Or.inl q)) (fr_putI _ 2 4 x (bm_FI Bs 2 4 x + 1)), rfl, rfl⟩))))⟩
      · exact absurd (show ¬ (¬ (1 : Int32) = 0) from c14) (by decide)
theorem lf_len {B : bm_H} {T : List Tm} {x : Nat} {I : IB} (h : RIn B T x I) {i : Nat} (hi : i < I.2.2.2.length) : ∃ e, I.2.2.2[i]? = some e ∧ tv T (bm_AI B (x + 1) (i * 3)) e.1 ∧ bm_AI B (x + 1) (i * 3 + 1) = e.2.1 ∧ tv T (bm_AI B (x + 1) (i * 3 + 2)) e.2.2 := ⟨_, List.getElem?_eq_getElem hi, h.2.2.2 i _ (List.getElem?_eq_getElem hi)⟩
theorem t_takeLeft {sc : tm_X} {d : Nat} {a ca ba da rm dr x : Nat} {B : bm_H} {T : List Tm} {I : IB} {p ix : Int32} {P : Tm} {Q : Int32 → bm_H → Prop} (hT : TI B a ca ba da rm dr T) (hR : RIn B T x I) (hp : tv T p P) (kk0 : lf_take P ix I.2.2.2 = none → Q 0 B) (kk1 : ∀ K l B' r, lf_take P ix I.2.2.2 = some (K, l) → tv T r K → RIn B' T x (I.1, I.2.1, I.2.2.1, l) → fz (fun y => y = x ∨ y = x + 1) B B' → Q r B') : bm_Gi sc (d + 2) 113 [.ref x, .int p, .int ix] B Q := by
  have key : ∀ {i : Nat} {e : Tm × Int32 × Tm}, I.2.2.2[i]? = some e → ((bm_AI B (x + 1) (i * 3) = p ∧ bm_AI B (x + 1) (i * 3 + 1) = ix) ↔ (e.1 = P ∧ e.2.1 = ix)) := fun {i e} he => by
    obtain ⟨g1, g2, -⟩ := hR.2.2.2 i e he
    rw [TI_eq hT g1 hp, g2]
  refine k_In_takeLeft (RIn_ok hR) (fun hno => kk0 (lf_take_no (fun j e he => fun w => hno j (List.getElem?_eq_some_iff.mp he).1 ((key he).mpr w)))) (fun i hi h1 h2 hno => ?_)
  obtain ⟨e, he, g1, g2, g3⟩ := lf_len hR hi
  obtain ⟨q1, q2⟩ := (key he).mp ⟨h1, h2⟩
  exact kk1 e.2.2 _ _ _ (lf_take_at ⟨⟨e, he, q1, q2, rfl⟩, fun j e' hj hje w => hno j hj ((key hje).mpr w)⟩) g3 (RIn_rem hR hi) (in_rem_fz _ _ _ _)
theorem in_st_fz (B : bm_H) (x : Nat) (t h n : Int32) : fz (fun y => y = x) B (in_st B x t h n) := ⟨fr_trans (fr_trans (fr_trans (fr_putI _ _ _ _ _) (fr_putI _ _ _ _ _)) (fr_putI _ _ _ _ _)) (fr_putI _ _ _ _ _), rfl, rfl⟩
theorem t_Istart {sc : tm_X} {d : Nat} {x : Nat} {B : bm_H} {T : List Tm} {t h n : Int32} {P C : Tm} {c : Nat} {Q : bm_H → Prop} (hI : in_ok B x (x + 1) c) (ht : tv T t P) (hh : tv T h C) (kk : ∀ B', RIn B' T x (P, C, n, []) → fz (fun y => y = x) B B' → Q B') : bm_Gv sc d 82 [.ref x, .int t, .int h, .int n] B Q := by
  refine k_In_start hI (kk _ ?_ (in_st_fz _ _ _ _ _))
  refine ⟨⟨hI.1, hI.2.1, hI.2.2.1⟩, ⟨if_pos ⟨rfl, rfl, rfl⟩, by simp⟩, ⟨?_, ?_, ?_⟩, fun i e he => by simp at he⟩
  · show tv T (bm_FI (in_st B x t h n) 2 2 x) P
    simp [in_st, bm_putI, bm_up3, bm_FI]; exact ht
  · show tv T (bm_FI (in_st B x t h n) 2 3 x) C
    simp [in_st, bm_putI, bm_up3, bm_FI]; exact hh
  · simp [in_st, bm_putI, bm_up3, bm_FI]
theorem in_cp_fz (B : bm_H) (x y lb c : Nat) : fz (fun z => z = x ∨ z = x + 1) B (in_cp B x (x + 1) y lb c) := ⟨fr_trans (fr_mono (fun _ h => Or.inl h) (fr_trans (fr_trans (fr_trans (fr_putI _ _ _ _ _) (fr_putI _ _ _ _ _)) (fr_putI _ _ _ _ _)) (fr_putI _ _ _ _ _))) (fr_mono (fun _ h => Or.inr h) (fr_allI _ _ _)), rfl, rfl⟩
theorem t_Icopy {sc : tm_X} {d : Nat} {x y : Nat} {B : bm_H} {T : List Tm} {I : IB} {c : Nat} {Q : bm_H → Prop} (hx : in_ok B x (x + 1) c) (hR : RIn B T y I) (hne : x ≠ y) (kk : ∀ B', RIn B' T x I → fz (fun z => z = x ∨ z = x + 1) B B' → Q B') : bm_Gv sc (d + 1) 39 [.ref x, .ref y] B Q := by
  refine k_In_copyFrom hx (RIn_ok hR) hne (kk _ ?_ (in_cp_fz _ _ _ _ _))
  obtain ⟨h1, ⟨h2, h3⟩, ⟨h4, h5, h6⟩, h7⟩ := hR
  refine ⟨⟨hx.1, hx.2.1, hx.2.2.1⟩, ⟨if_pos ⟨rfl, rfl, rfl⟩, h3⟩, ⟨?_, ?_, ?_⟩, fun i e he => ?_⟩
  · show tv T (bm_FI (in_cp B x (x + 1) y (y + 1) I.2.2.2.length) 2 2 x) I.1
    simp [in_cp, bm_allI, bm_putI, bm_up3, bm_FI]; exact h4
  · show tv T (bm_FI (in_cp B x (x + 1) y (y + 1) I.2.2.2.length) 2 3 x) I.2.1
    simp [in_cp, bm_allI, bm_putI, bm_up3, bm_FI]; exact h5
  · simp [in_cp, bm_allI, bm_putI, bm_up3, bm_FI]; exact h6
  · have hi := (List.getElem?_eq_some_iff.mp he).1
    have hv : ∀ k, k < 3 → bm_AI (in_cp B x (x + 1) y (y + 1) I.2.2.2.length) (x + 1) (i * 3 + k) = bm_AI B (y + 1) (i * 3 + k) := fun k hk => by
      show (if x + 1 = x + 1 then va_cpy (bm_AI B (y + 1)) (bm_AI B (x + 1)) 0 0 (I.2.2.2.length * 3) (i * 3 + k) else _) = _
      rw [if_pos rfl, pk_cpy_in (by omega) (by omega)]
      congr 1
      omega
    have v0 : bm_AI (in_cp B x (x + 1) y (y + 1) I.2.2.2.length) (x + 1) (i * 3) = bm_AI B (y + 1) (i * 3) := hv 0 (by decide)
    rw [v0, hv 1 (by decide), hv 2 (by decide)]
    exact h7 i e he
