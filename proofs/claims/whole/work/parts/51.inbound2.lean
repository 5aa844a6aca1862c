/-! Inbound: skipTo, nextKey, takeLeft, told by values -/
/-- Terms' own cells -/
def tcs (a ca ba da x : Nat) : Prop := x = a ∨ x = ca ∨ x = ba ∨ x = da
theorem tc_nx {B : bm_H} {a ca ba da rm dr x : Nat} {T : List Tm} (h : TI B a ca ba da rm dr T) (h2 : bm_K B x < 9) : ¬ tcs a ca ba da x := by
  obtain ⟨⟨⟨-, a2⟩, -, ⟨⟨-, b2, -⟩, ⟨-, b5, -⟩, -, b8, -⟩, -⟩, -⟩ := h
  rintro (rfl | rfl | rfl | rfl) <;> omega
theorem RIn_push {B B' : bm_H} {T T' : List Tm} {x : Nat} {I : IB} {r6 r7 : Int32} (h : RIn B T x I) (hl : I.2.2.2.length < 8) {X : Nat → Prop} (hf : fr X B B') (hT : T <+: T') (e1 : bm_FI B' 2 1 x = nI (I.2.2.2.length + 1)) (e2 : bm_FI B' 2 2 x = bm_FI B 2 2 x) (e3 : bm_FI B' 2 3 x = r7) (e4 : bm_FI B' 2 4 x = bm_FI B 2 4 x + 1) (e5 : bm_AI B' (x + 1) = upd (upd (upd (bm_AI B (x + 1)) (I.2.2.2.length * 3) (bm_FI B 2 2 x)) (I.2.2.2.length * 3 + 1) (bm_FI B 2 4 x)) (I.2.2.2.length * 3 + 2) r6) (t6 : tv T' r6 (Tmx 6 I.2.1 tz)) (t7 : tv T' r7 (Tmx 7 I.2.1 tz)) : RIn B' T' x (I.1, Tmx 7 I.2.1 tz, I.2.2.1 + 1, I.2.2.2 ++ [(I.1, I.2.2.1, Tmx 6 I.2.1 tz)]) := by
  obtain ⟨h1, ⟨h2, h3⟩, ⟨h4, h5, h6⟩, h7⟩ := h
  refine RIn_mk h1 hf e1 e2 e3 e4 e5 (by simp) (by omega) (tv_mono hT h4) t7 (by rw [h6]) (fun i e he => ?_)
  have hi := (List.getElem?_eq_some_iff.mp he).1
  simp at hi
  by_cases c : i = I.2.2.2.length
  · subst c
    simp at he
    subst he
    refine ⟨?_, ?_, ?_⟩
    · simp [upd]; exact tv_mono hT h4
    · simp [upd]; exact h6
    · simp [upd]; exact t6
  · rw [List.getElem?_append_left (by omega)] at he
    obtain ⟨g1, g2, g3⟩ := h7 i e he
    have n0 : ∀ k, k < 3 → upd (upd (upd (bm_AI B (x + 1)) (I.2.2.2.length * 3) (bm_FI B 2 2 x)) (I.2.2.2.length * 3 + 1) (bm_FI B 2 4 x)) (I.2.2.2.length * 3 + 2) r6 (i * 3 + k) = bm_AI B (x + 1) (i * 3 + k) := fun k hk => by
      rw [pk_un (by omega), pk_un (by omega), pk_un (by omega)]
    have m0 := n0 0 (by decide)
    rw [n0 1 (by decide), n0 2 (by decide), show upd _ _ _ (i * 3) = _ from m0]
    exact ⟨tv_mono hT g1, g2, tv_mono hT g3⟩
set_option maxRecDepth 100000 in
theorem l_skip1 {sc : tm_X} {d : Nat} {a ca ba da rm dr x : Nat} {B : bm_H} {T : List Tm} {I : IB} {ix i : Int32} {Q : Int32 → bm_H → Prop} (hT : TI B a ca ba da rm dr T) (hrm : T.length + 2 < rm) (hR : RIn B T x I) (hn1 : ¬ tcs a ca ba da x) (hn2 : ¬ tcs a ca ba da (x + 1)) (hl : I.2.2.2.length < 8) (kk : ∀ B' T' (lv : tm_L), T <+: T' → T'.length ≤ T.length + 2 → TI B' a ca ba da rm dr T' → RIn B' T' x (I.1, Tmx 7 I.2.1 tz, I.2.2.1 + 1, I.2.2.2 ++ [(I.1, I.2.2.1, Tmx 6 I.2.1 tz)]) → fz (fun y => tcs a ca ba da y ∨ y = x ∨ y = x + 1) B B' → lv.lookup 0 = some (.ref x) → lv.lookup 1 = some (.ref a) → lv.lookup 2 = some (.int ix) → lv.lookup 3 = some (.int (i + 1)) → bm_G sc (d + 3) 116 14 lv [] B' (fun r B' => ∃ y, r = some (.int y) ∧ Q y B')) (lv : tm_L) (l0 : lv.lookup 0 = some (.ref x)) (l1 : lv.lookup 1 = some (.ref a)) (l2 : lv.lookup 2 = some (.int ix)) (l3 : lv.lookup 3 = some (.int i)) : bm_G sc (d + 3) 116 41 lv [] B (fun r B' => ∃ y, r = some (.int y) ∧ Q y B') := by
  have hc8 := hR.2.1.2
  refine g_ald (pc' := 42) cd_In_skipTo rfl (Or.inr ⟨_, rfl, rfl, rfl⟩) l0 rfl rfl ?_
  refine g_fR (c := 2) (k := 0) (x := (x + 1)) (pc' := 45) cd_In_skipTo rfl rfl rfl rfl rfl (by decide) hR.1.1.1 hR.1.1.2 hR.1.2.1 ?_
  refine g_ald (pc' := 46) cd_In_skipTo rfl (Or.inr ⟨_, rfl, rfl, rfl⟩) l0 rfl rfl ?_
  refine g_fI (c := 2) (k := 1) (x := (nI I.2.2.2.length)) (pc' := 49) cd_In_skipTo rfl rfl rfl rfl rfl (by decide) hR.1.1.1 hR.1.1.2 hR.2.1.1 ?_
  refine g_k1 (v := 3) (pc' := 50) cd_In_skipTo rfl (by decide) rfl ?_
  refine g_pure (pc' := 51) (st' := [.int ((nI I.2.2.2.length) * 3), .ref ((x + 1))]) cd_In_skipTo rfl rfl (fun _ _ => rfl) ?_
  rw [show (nI I.2.2.2.length) * 3 = nI (I.2.2.2.length * 3) from pk_mul I.2.2.2.length 3]
  refine g_k1 (v := 0) (pc' := 52) cd_In_skipTo rfl (by decide) rfl ?_
  refine g_pure (pc' := 53) (st' := [.int ((nI (I.2.2.2.length * 3)) + 0), .ref ((x + 1))]) cd_In_skipTo rfl rfl (fun _ _ => rfl) ?_
  rw [show (nI (I.2.2.2.length * 3)) + 0 = nI ((I.2.2.2.length * 3) + 0) from nI_add (I.2.2.2.length * 3) 0]
  refine g_ald (pc' := 54) cd_In_skipTo rfl (Or.inr ⟨_, rfl, rfl, rfl⟩) l0 rfl rfl ?_
  refine g_fI (c := 2) (k := 2) (x := (bm_FI B 2 2 x)) (pc' := 57) cd_In_skipTo rfl rfl rfl rfl rfl (by decide) hR.1.1.1 hR.1.1.2 rfl ?_
  refine g_iast (pc' := 58) cd_In_skipTo rfl rfl hR.1.2.2.1 hR.1.2.2.2.1 (by rw [show bm_AL B (x + 1) = 24 from hR.1.2.2.2.2]; exact vp_in_nI (by omega) (by decide)) ?_
  rw [show (nI ((I.2.2.2.length * 3) + 0) : Int32).toNatClampNeg = ((I.2.2.2.length * 3) + 0) from nI_clamp (by omega)]
  refine g_ald (pc' := 59) cd_In_skipTo rfl (Or.inr ⟨_, rfl, rfl, rfl⟩) l0 rfl rfl ?_
  refine g_fR (c := 2) (k := 0) (x := (x + 1)) (pc' := 62) cd_In_skipTo rfl rfl rfl rfl rfl (by decide) hR.1.1.1 hR.1.1.2 hR.1.2.1 ?_
  refine g_ald (pc' := 63) cd_In_skipTo rfl (Or.inr ⟨_, rfl, rfl, rfl⟩) l0 rfl rfl ?_
  refine g_fI (c := 2) (k := 1) (x := (nI I.2.2.2.length)) (pc' := 66) cd_In_skipTo rfl rfl rfl rfl rfl (by decide) hR.1.1.1 hR.1.1.2 hR.2.1.1 ?_
  refine g_k1 (v := 3) (pc' := 67) cd_In_skipTo rfl (by decide) rfl ?_
  refine g_pure (pc' := 68) (st' := [.int ((nI I.2.2.2.length) * 3), .ref ((x + 1))]) cd_In_skipTo rfl rfl (fun _ _ => rfl) ?_
  rw [show (nI I.2.2.2.length) * 3 = nI (I.2.2.2.length * 3) from pk_mul I.2.2.2.length 3]
  refine g_k1 (v := 1) (pc' := 69) cd_In_skipTo rfl (by decide) rfl ?_
  refine g_pure (pc' := 70) (st' := [.int ((nI (I.2.2.2.length * 3)) + 1), .ref ((x + 1))]) cd_In_skipTo rfl rfl (fun _ _ => rfl) ?_
  rw [show (nI (I.2.2.2.length * 3)) + 1 = nI ((I.2.2.2.length * 3) + 1) from nI_add (I.2.2.2.length * 3) 1]
  refine g_ald (pc' := 71) cd_In_skipTo rfl (Or.inr ⟨_, rfl, rfl, rfl⟩) l0 rfl rfl ?_
  refine g_fI (c := 2) (k := 4) (x := (bm_FI B 2 4 x)) (pc' := 74) cd_In_skipTo rfl rfl rfl rfl rfl (by decide) hR.1.1.1 hR.1.1.2 rfl ?_
  refine g_iast (pc' := 75) cd_In_skipTo rfl rfl hR.1.2.2.1 hR.1.2.2.2.1 (by rw [show bm_AL (bm_setI B (x + 1) ((I.2.2.2.length * 3) + 0) (bm_FI B 2 2 x)) (x + 1) = 24 from hR.1.2.2.2.2]; exact vp_in_nI (by omega) (by decide)) ?_
  rw [show (nI ((I.2.2.2.length * 3) + 1) : Int32).toNatClampNeg = ((I.2.2.2.length * 3) + 1) from nI_clamp (by omega)]
  refine g_ald (pc' := 76) cd_In_skipTo rfl (Or.inr ⟨_, rfl, rfl, rfl⟩) l0 rfl rfl ?_
  refine g_fR (c := 2) (k := 0) (x := (x + 1)) (pc' := 79) cd_In_skipTo rfl rfl rfl rfl rfl (by decide) hR.1.1.1 hR.1.1.2 hR.1.2.1 ?_
  refine g_ald (pc' := 80) cd_In_skipTo rfl (Or.inr ⟨_, rfl, rfl, rfl⟩) l0 rfl rfl ?_
  refine g_fI (c := 2) (k := 1) (x := (nI I.2.2.2.length)) (pc' := 83) cd_In_skipTo rfl rfl rfl rfl rfl (by decide) hR.1.1.1 hR.1.1.2 hR.2.1.1 ?_
  refine g_k1 (v := 3) (pc' := 84) cd_In_skipTo rfl (by decide) rfl ?_
  refine g_pure (pc' := 85) (st' := [.int ((nI I.2.2.2.length) * 3), .ref ((x + 1))]) cd_In_skipTo rfl rfl (fun _ _ => rfl) ?_
  rw [show (nI I.2.2.2.length) * 3 = nI (I.2.2.2.length * 3) from pk_mul I.2.2.2.length 3]
  refine g_k1 (v := 2) (pc' := 86) cd_In_skipTo rfl (by decide) rfl ?_
  refine g_pure (pc' := 87) (st' := [.int ((nI (I.2.2.2.length * 3)) + 2), .ref ((x + 1))]) cd_In_skipTo rfl rfl (fun _ _ => rfl) ?_
  rw [show (nI (I.2.2.2.length * 3)) + 2 = nI ((I.2.2.2.length * 3) + 2) from nI_add (I.2.2.2.length * 3) 2]
  refine g_ald (pc' := 88) cd_In_skipTo rfl (Or.inr ⟨_, rfl, rfl, rfl⟩) l1 rfl rfl ?_
  refine g_k2 (v := 6) (pc' := 90) cd_In_skipTo rfl (by decide) rfl ?_
  refine g_ald (pc' := 91) cd_In_skipTo rfl (Or.inr ⟨_, rfl, rfl, rfl⟩) l0 rfl rfl ?_
  refine g_fI (c := 2) (k := 3) (x := (bm_FI B 2 3 x)) (pc' := 94) cd_In_skipTo rfl rfl rfl rfl rfl (by decide) hR.1.1.1 hR.1.1.2 rfl ?_
  refine g_k1 (v := 0) (pc' := 95) cd_In_skipTo rfl (by decide) rfl ?_
  have hT1 : TI (bm_setI (bm_setI B (x + 1) ((I.2.2.2.length * 3) + 0) (bm_FI B 2 2 x)) (x + 1) ((I.2.2.2.length * 3) + 1) (bm_FI B 2 4 x)) a ca ba da rm dr T := TI_fr (X := fun y => y = x + 1) hT (fr_trans (fr_setI _ (x + 1) _ _) (fr_setI _ (x + 1) _ _)) (fun q => hn2 (Or.inl q.symm)) (fun q => hn2 (Or.inr (Or.inl q.symm))) (fun q => hn2 (Or.inr (Or.inr (Or.inl q.symm))))
  refine g_calli (pc' := 98) cd_In_skipTo rfl rfl rfl rfl rfl (tm_invV rfl rfl cd_Te_mix rfl (Nat.le_of_ble_eq_true rfl) (by decide) hT.1.1.1 hT.1.1.2) (t_mix (n := 6) hT1 (by omega) hR.2.2.1.2.1 (TI_z hT1) (fun B2 T2 r2 hx2 ht2 => ?_))
  have hT2 := hx2.2.2.1
  have hl2 := hx2.2.1
  have hf2 := (fz_te hx2.2.2.2).1
  have hz2 := fz_te hx2.2.2.2
  have f3_0 := fr_lt hf2 hR.1.1.1
  have g3_0 := (fr_K hf2 hR.1.1.1).trans hR.1.1.2
  have f3_1 := fr_lt hf2 hR.1.2.2.1
  have g3_1 := (fr_K hf2 hR.1.2.2.1).trans hR.1.2.2.2.1
  have f3_2 := fr_lt hf2 hT.1.1.1
  have g3_2 := (fr_K hf2 hT.1.1.1).trans hT.1.1.2
  have q3_0 : bm_FI B2 2 1 x = (nI I.2.2.2.length) := (fr_FI hf2 hR.1.1.1 hn1 2 1).trans hR.2.1.1
  have q3_1 : bm_FI B2 2 2 x = (bm_FI B 2 2 x) := (fr_FI hf2 hR.1.1.1 hn1 2 2).trans rfl
  have q3_2 : bm_FI B2 2 3 x = (bm_FI B 2 3 x) := (fr_FI hf2 hR.1.1.1 hn1 2 3).trans rfl
  have q3_3 : bm_FI B2 2 4 x = (bm_FI B 2 4 x) := (fr_FI hf2 hR.1.1.1 hn1 2 4).trans rfl
  have r3_0 : bm_FR B2 2 0 x = some (x + 1) := (fr_FR hf2 hR.1.1.1 hn1 2 0).trans hR.1.2.1
  have u3_0 : bm_AI B2 (x + 1) = (upd (upd (bm_AI B (x + 1)) ((I.2.2.2.length * 3) + 0) (bm_FI B 2 2 x)) ((I.2.2.2.length * 3) + 1) (bm_FI B 2 4 x)) := (fr_AI hf2 hR.1.2.2.1 hn2).trans ((AI_set (bm_setI B (x + 1) ((I.2.2.2.length * 3) + 0) (bm_FI B 2 2 x)) (x + 1) ((I.2.2.2.length * 3) + 1) (bm_FI B 2 4 x)).trans (congrArg (fun f => upd f ((I.2.2.2.length * 3) + 1) (bm_FI B 2 4 x)) (show bm_AI (bm_setI B (x + 1) ((I.2.2.2.length * 3) + 0) (bm_FI B 2 2 x)) (x + 1) = (upd (bm_AI B (x + 1)) ((I.2.2.2.length * 3) + 0) (bm_FI B 2 2 x)) from ((AI_set B (x + 1) ((I.2.2.2.length * 3) + 0) (bm_FI B 2 2 x)).trans (congrArg (fun f => upd f ((I.2.2.2.length * 3) + 0) (bm_FI B 2 2 x)) (show bm_AI B (x + 1) = (bm_AI B (x + 1)) from rfl))))))
  have w3_0 : bm_AL B2 (x + 1) = 24 := (fr_AL hf2 hR.1.2.2.1).trans hR.1.2.2.2.2
  have tv4_0 := tv_mono hx2.1 hR.2.2.1.1
  have tv4_1 := tv_mono hx2.1 hR.2.2.1.2.1
  show bm_G _ _ _ 98 _ [.int r2, .int (nI ((I.2.2.2.length * 3) + 2)), .ref ((x + 1))] B2 _
  refine g_iast (pc' := 99) cd_In_skipTo rfl rfl f3_1 g3_1 (by rw [show bm_AL B2 (x + 1) = 24 from w3_0]; exact vp_in_nI (by omega) (by decide)) ?_
  rw [show (nI ((I.2.2.2.length * 3) + 2) : Int32).toNatClampNeg = ((I.2.2.2.length * 3) + 2) from nI_clamp (by omega)]
  refine g_ald (pc' := 100) cd_In_skipTo rfl (Or.inr ⟨_, rfl, rfl, rfl⟩) l0 rfl rfl ?_
  refine g_pure (pc' := 101) (st' := [.ref x, .ref x]) cd_In_skipTo rfl rfl (fun _ _ => rfl) ?_
  refine g_fI (c := 2) (k := 1) (x := (nI I.2.2.2.length)) (pc' := 104) cd_In_skipTo rfl rfl rfl rfl rfl (by decide) f3_0 g3_0 q3_0 ?_
  refine g_k1 (v := 1) (pc' := 105) cd_In_skipTo rfl (by decide) rfl ?_
  refine g_pure (pc' := 106) (st' := [.int ((nI I.2.2.2.length) + 1), .ref x]) cd_In_skipTo rfl rfl (fun _ _ => rfl) ?_
  rw [show (nI I.2.2.2.length) + 1 = nI (I.2.2.2.length + 1) from nI_add I.2.2.2.length 1]
  refine g_putI (c := 2) (k := 1) (pc' := 109) cd_In_skipTo rfl rfl rfl rfl (by simp [tm_okV, narrow, fits]) (Or.inl rfl) rfl (by decide) f3_0 g3_0 ?_
  refine g_ald (pc' := 110) cd_In_skipTo rfl (Or.inr ⟨_, rfl, rfl, rfl⟩) l0 rfl rfl ?_
  refine g_ald (pc' := 111) cd_In_skipTo rfl (Or.inr ⟨_, rfl, rfl, rfl⟩) l1 rfl rfl ?_
  refine g_k2 (v := 7) (pc' := 113) cd_In_skipTo rfl (by decide) rfl ?_
  refine g_ald (pc' := 114) cd_In_skipTo rfl (Or.inr ⟨_, rfl, rfl, rfl⟩) l0 rfl rfl ?_
  refine g_fI (c := 2) (k := 3) (x := (bm_FI B 2 3 x)) (pc' := 117) cd_In_skipTo rfl rfl rfl rfl rfl (by decide) f3_0 g3_0 q3_2 ?_
  refine g_k1 (v := 0) (pc' := 118) cd_In_skipTo rfl (by decide) rfl ?_
  have hT5 : TI (bm_putI (bm_setI B2 (x + 1) ((I.2.2.2.length * 3) + 2) r2) 2 1 x (nI (I.2.2.2.length + 1))) a ca ba da rm dr T2 := TI_fr (X := fun y => y = x ∨ y = x + 1) hT2 (fr_trans (fr_mono (fun _ q => Or.inr q) (fr_setI _ (x + 1) _ _)) (fr_mono (fun _ q => Or.inl q) (fr_putI _ 2 1 x _))) (fun q => q.elim (fun q => hn1 (Or.inl q.symm)) (fun q => hn2 (Or.inl q.symm))) (fun q => q.elim (fun q => hn1 (Or.inr (Or.inl q.symm))) (fun q => hn2 (Or.inr (Or.inl q.symm)))) (fun q => q.elim (fun q => hn1 (Or.inr (Or.inr (Or.inl q.symm)))) (fun q => hn2 (Or.inr (Or.inr (Or.inl q.symm)))))
  refine g_calli (pc' := 121) cd_In_skipTo rfl rfl rfl rfl rfl (tm_invV rfl rfl cd_Te_mix rfl (Nat.le_of_ble_eq_true rfl) (by decide) f3_2 g3_2) (t_mix (n := 7) hT5 (by omega) tv4_1 (TI_z hT5) (fun B6 T6 r6 hx6 ht6 => ?_))
  have hT6 := hx6.2.2.1
  have hl6 := hx6.2.1
  have hf6 := (fz_te hx6.2.2.2).1
  have hz6 := fz_te hx6.2.2.2
  have f7_0 := fr_lt hf6 f3_0
  have g7_0 := (fr_K hf6 f3_0).trans g3_0
  have f7_1 := fr_lt hf6 f3_1
  have g7_1 := (fr_K hf6 f3_1).trans g3_1
  have f7_2 := fr_lt hf6 f3_2
  have g7_2 := (fr_K hf6 f3_2).trans g3_2
  have q7_0 : bm_FI B6 2 1 x = (nI (I.2.2.2.length + 1)) := (fr_FI hf6 f3_0 hn1 2 1).trans (by simp [bm_putI, bm_up3, bm_FI])
  have q7_1 : bm_FI B6 2 2 x = (bm_FI B 2 2 x) := (fr_FI hf6 f3_0 hn1 2 2).trans q3_1
  have q7_2 : bm_FI B6 2 3 x = (bm_FI B 2 3 x) := (fr_FI hf6 f3_0 hn1 2 3).trans q3_2
  have q7_3 : bm_FI B6 2 4 x = (bm_FI B 2 4 x) := (fr_FI hf6 f3_0 hn1 2 4).trans q3_3
  have r7_0 : bm_FR B6 2 0 x = some (x + 1) := (fr_FR hf6 f3_0 hn1 2 0).trans r3_0
  have u7_0 : bm_AI B6 (x + 1) = (upd (upd (upd (bm_AI B (x + 1)) ((I.2.2.2.length * 3) + 0) (bm_FI B 2 2 x)) ((I.2.2.2.length * 3) + 1) (bm_FI B 2 4 x)) ((I.2.2.2.length * 3) + 2) r2) := (fr_AI hf6 f3_1 hn2).trans ((AI_set B2 (x + 1) ((I.2.2.2.length * 3) + 2) r2).trans (congrArg (fun f => upd f ((I.2.2.2.length * 3) + 2) r2) (show bm_AI B2 (x + 1) = (upd (upd (bm_AI B (x + 1)) ((I.2.2.2.length * 3) + 0) (bm_FI B 2 2 x)) ((I.2.2.2.length * 3) + 1) (bm_FI B 2 4 x)) from u3_0)))
  have w7_0 : bm_AL B6 (x + 1) = 24 := (fr_AL hf6 f3_1).trans w3_0
  have tv8_0 := tv_mono hx6.1 tv4_0
  have tv8_1 := tv_mono hx6.1 tv4_1
  have tv8_2 := tv_mono hx6.1 ht2
  show bm_G _ _ _ 121 _ [.int r6, .ref x] B6 _
  refine g_putI (c := 2) (k := 3) (pc' := 124) cd_In_skipTo rfl rfl rfl rfl (by simp [tm_okV, narrow, fits]) (Or.inl rfl) rfl (by decide) f7_0 g7_0 ?_
  refine g_ald (pc' := 125) cd_In_skipTo rfl (Or.inr ⟨_, rfl, rfl, rfl⟩) l0 rfl rfl ?_
  refine g_pure (pc' := 126) (st' := [.ref x, .ref x]) cd_In_skipTo rfl rfl (fun _ _ => rfl) ?_
  refine g_fI (c := 2) (k := 4) (x := (bm_FI B 2 4 x)) (pc' := 129) cd_In_skipTo rfl rfl rfl rfl rfl (by decide) f7_0 g7_0 q7_3 ?_
  refine g_k1 (v := 1) (pc' := 130) cd_In_skipTo rfl (by decide) rfl ?_
  refine g_pure (pc' := 131) (st' := [.int ((bm_FI B 2 4 x) + 1), .ref x]) cd_In_skipTo rfl rfl (fun _ _ => rfl) ?_
  refine g_putI (c := 2) (k := 4) (pc' := 134) cd_In_skipTo rfl rfl rfl rfl (by simp [tm_okV, narrow, fits]) (Or.inl rfl) rfl (by decide) f7_0 g7_0 ?_
  refine g_inc (y := i + 1) (pc' := 137) cd_In_skipTo rfl l3 (by decide) rfl rfl (fun lv el => ?_)
  have l0 := tm_lk el l0 rfl (by decide)
  have l1 := tm_lk el l1 rfl (by decide)
  have l2 := tm_lk el l2 rfl (by decide)
  have l3 : lv.lookup 3 = some (.int (i + 1)) := tm_lks el
  clear el
  refine g_pure (pc' := 14) (st' := []) cd_In_skipTo rfl rfl (fun _ _ => rfl) ?_
  have hz : fz (fun y => tcs a ca ba da y ∨ y = x ∨ y = x + 1) B _ := fz_trans (fz_trans (fz_trans (fz_trans ⟨fr_mono (fun _ q => Or.inr (Or.inr q)) (fr_setI B (x + 1) (I.2.2.2.length * 3 + 0) _), rfl, rfl⟩ ⟨fr_mono (fun _ q => Or.inr (Or.inr q)) (fr_setI _ (x + 1) (I.2.2.2.length * 3 + 1) _), rfl, rfl⟩) (fz_mono (fun _ q => Or.inl q) hz2)) (fz_trans ⟨fr_mono (fun _ q => Or.inr (Or.inr q)) (fr_setI _ (x + 1) (I.2.2.2.length * 3 + 2) r2), rfl, rfl⟩ ⟨fr_mono (fun _ q => Or.inr (Or.inl q)) (fr_putI _ 2 1 x (nI (I.2.2.2.length + 1))), rfl, rfl⟩)) (fz_trans (fz_mono (fun _ q => Or.inl q) hz6) (fz_trans ⟨fr_mono (fun _ q => Or.inr (Or.inl q)) (fr_putI _ 2 3 x r6), rfl, rfl⟩ ⟨fr_mono (fun _ q => Or.inr (Or.inl q)) (fr_putI _ 2 4 x (bm_FI B 2 4 x + 1)), rfl, rfl⟩))
  exact kk _ _ lv (hx2.1.trans hx6.1) (by omega) (TI_fr (X := fun y => y = x) hT6 (fr_trans (fr_putI _ 2 3 x r6) (fr_putI _ 2 4 x _)) (fun q => hn1 (Or.inl q.symm)) (fun q => hn1 (Or.inr (Or.inl q.symm))) (fun q => hn1 (Or.inr (Or.inr (Or.inl q.symm))))) (RIn_push hR hl hz.1 (hx2.1.trans hx6.1) q7_0 q7_1 (by simp [bm_putI, bm_up3, bm_FI]) (by simp [bm_putI, bm_up3, bm_FI]) u7_0 tv8_2 ht6) hz l0 l1 l2 l3
set_option maxRecDepth 100000 in
theorem l_skip {sc : tm_X} {d : Nat} {a ca ba da rm dr x : Nat} {B0 : bm_H} {T0 : List Tm} {J : IB} {ix : Int32} {Q : Int32 → bm_H → Prop} (hrm : T0.length + 10 < rm) (hn1 : ¬ tcs a ca ba da x) (hn2 : ¬ tcs a ca ba da (x + 1)) (kk : ∀ B' T', T0 <+: T' → T'.length ≤ T0.length + 10 → TI B' a ca ba da rm dr T' → RIn B' T' x J → fz (fun y => tcs a ca ba da y ∨ y = x ∨ y = x + 1) B0 B' → Q 1 B') : ∀ (m i : Nat) (B : bm_H) (T : List Tm) (I : IB), i + m = 5 → TI B a ca ba da rm dr T → RIn B T x I → T0 <+: T → T.length + 2 * m ≤ T0.length + 10 → fz (fun y => tcs a ca ba da y ∨ y = x ∨ y = x + 1) B0 B → ib_skipN ix m I = J → ∀ lv : tm_L, lv.lookup 0 = some (.ref x) → lv.lookup 1 = some (.ref a) → lv.lookup 2 = some (.int ix) → lv.lookup 3 = some (.int (nI i)) → bm_G sc (d + 3) 116 14 lv [] B (fun r B' => ∃ y, r = some (.int y) ∧ Q y B') := by
  intro m
  induction m with
  | zero =>
    intro i B T I hm hT hR hp hlen hz hJ lv l0 l1 l2 l3
    have hJ : I = J := hJ
    refine g_ild (pc' := 15) cd_In_skipTo rfl (Or.inr ⟨_, rfl, rfl, rfl⟩) l3 rfl ?_
    refine g_k1 (v := 5) (pc' := 16) cd_In_skipTo rfl (by decide) rfl ?_
    refine g_if2 (t := 140) (pc' := 19) cd_In_skipTo rfl rfl rfl (fun c16 => ?_) (fun c16 => ?_)
    · have c16 : (5 : Int32) ≤ (nI i) := c16
      refine g_k1 (v := 1) (pc' := 141) cd_In_skipTo rfl (by decide) rfl ?_
      exact g_retz cd_In_skipTo rfl (Or.inr rfl) ⟨_, rfl, (kk _ _ hp (by omega) hT (hJ ▸ hR) hz)⟩
    · have c16 : ¬ (5 : Int32) ≤ (nI i) := c16
      exact absurd (nI_le (a := 5) (by omega) (by omega)) c16
  | succ m ih =>
    intro i B T I hm hT hR hp hlen hz hJ lv l0 l1 l2 l3
    have hc8 := hR.2.1.2
    have hnx : bm_FI B 2 4 x = I.2.2.1 := hR.2.2.1.2.2
    refine g_ild (pc' := 15) cd_In_skipTo rfl (Or.inr ⟨_, rfl, rfl, rfl⟩) l3 rfl ?_
    refine g_k1 (v := 5) (pc' := 16) cd_In_skipTo rfl (by decide) rfl ?_
    refine g_if2 (t := 140) (pc' := 19) cd_In_skipTo rfl rfl rfl (fun c16 => ?_) (fun c16 => ?_)
    · have c16 : (5 : Int32) ≤ (nI i) := c16
      exact absurd c16 (nI_ge (b := 5) (by omega) (by decide))
    · have c16 : ¬ (5 : Int32) ≤ (nI i) := c16
      refine g_ald (pc' := 20) cd_In_skipTo rfl (Or.inr ⟨_, rfl, rfl, rfl⟩) l0 rfl rfl ?_
      refine g_fI (c := 2) (k := 4) (x := (bm_FI B 2 4 x)) (pc' := 23) cd_In_skipTo rfl rfl rfl rfl rfl (by decide) hR.1.1.1 hR.1.1.2 rfl ?_
      refine g_ild (pc' := 24) cd_In_skipTo rfl (Or.inr ⟨_, rfl, rfl, rfl⟩) l2 rfl ?_
      refine g_if2 (t := 140) (pc' := 27) cd_In_skipTo rfl rfl rfl (fun c24 => ?_) (fun c24 => ?_)
      · have c24 : ix ≤ (bm_FI B 2 4 x) := c24
        refine g_k1 (v := 1) (pc' := 141) cd_In_skipTo rfl (by decide) rfl ?_
        exact g_retz cd_In_skipTo rfl (Or.inr rfl) ⟨_, rfl, (kk _ _ hp (by omega) hT ((show I = J by rw [← hJ]; unfold ib_skipN; rw [if_pos (hnx ▸ c24)]) ▸ hR) hz)⟩
      · have c24 : ¬ ix ≤ (bm_FI B 2 4 x) := c24
        refine g_ald (pc' := 28) cd_In_skipTo rfl (Or.inr ⟨_, rfl, rfl, rfl⟩) l0 rfl rfl ?_
        refine g_fI (c := 2) (k := 1) (x := (nI I.2.2.2.length)) (pc' := 31) cd_In_skipTo rfl rfl rfl rfl rfl (by decide) hR.1.1.1 hR.1.1.2 hR.2.1.1 ?_
        refine g_k2 (v := 8) (pc' := 33) cd_In_skipTo rfl (by decide) rfl ?_
        refine g_if2 (t := 41) (pc' := 36) cd_In_skipTo rfl rfl rfl (fun c33 => ?_) (fun c33 => ?_)
        · have c33 : ¬ (nI I.2.2.2.length) = 8 := c33
          have hstep : ib_skipN ix m (ib_step I) = J := by rw [← hJ]; show _ = (if ix ≤ I.2.2.1 then I else ib_skipN ix m (ib_step I)); rw [if_neg (hnx ▸ c24)]
          have h8 : I.2.2.2.length < 8 := by have : ¬ I.2.2.2.length = 8 := fun q => c33 (by rw [q]; rfl); omega
          exact l_skip1 (i := nI i) hT (by omega) hR hn1 hn2 h8 (fun B3 T3 lv3 hp3 hl3 hT3 hR3 hz3 k0 k1 k2 k3 => ih (i + 1) B3 T3 (ib_step I) (by omega) hT3 (by unfold ib_step; rw [if_neg (by omega)]; exact hR3) (hp.trans hp3) (by omega) (fz_trans hz hz3) hstep lv3 k0 k1 k2 (nI_1 i ▸ k3)) lv l0 l1 l2 l3
        · have c33 : (nI I.2.2.2.length) = 8 := Classical.not_not.mp c33
          refine g_ald (pc' := 37) cd_In_skipTo rfl (Or.inr ⟨_, rfl, rfl, rfl⟩) l0 rfl rfl ?_
          refine g_k1 (v := 0) (pc' := 38) cd_In_skipTo rfl (by decide) rfl ?_
          refine g_callv (pc' := 41) cd_In_skipTo rfl rfl rfl rfl rfl (tm_invV rfl rfl cd_In_removeLeft rfl (Nat.le_of_ble_eq_true rfl) (by decide) hR.1.1.1 hR.1.1.2) (k_In_removeLeft (i := 0) (RIn_ok hR) (by have := (nI_eq (b := 8) (by omega) (by decide)).mp c33; omega) ?_)
          show bm_G _ _ _ 41 _ [] (in_rem B x (x + 1) I.2.2.2.length 0) _
          have hstep : ib_skipN ix m (ib_step I) = J := by rw [← hJ]; show _ = (if ix ≤ I.2.2.1 then I else ib_skipN ix m (ib_step I)); rw [if_neg (hnx ▸ c24)]
          have h8 : I.2.2.2.length = 8 := (nI_eq (by omega) (by decide)).mp c33
          have hR2 := RIn_rem (i := 0) hR (by omega)
          have hf2 := in_rem_fz B x I.2.2.2.length 0
          have hT2 := TI_fr hT hf2.1 (fun q => q.elim (fun q => hn1 (Or.inl q.symm)) (fun q => hn2 (Or.inl q.symm))) (fun q => q.elim (fun q => hn1 (Or.inr (Or.inl q.symm))) (fun q => hn2 (Or.inr (Or.inl q.symm)))) (fun q => q.elim (fun q => hn1 (Or.inr (Or.inr (Or.inl q.symm)))) (fun q => hn2 (Or.inr (Or.inr (Or.inl q.symm)))))
          exact l_skip1 (i := nI i) hT2 (by omega) hR2 hn1 hn2 (by show (I.2.2.2.eraseIdx 0).length < 8; rw [List.length_eraseIdx, if_pos (show 0 < I.2.2.2.length by omega)]; omega) (fun B3 T3 lv3 hp3 hl3 hT3 hR3 hz3 k0 k1 k2 k3 => ih (i + 1) B3 T3 (ib_step I) (by omega) hT3 (by unfold ib_step; rw [if_pos h8]; rw [List.eraseIdx_zero] at hR3; rw [List.drop_one]; exact hR3) (hp.trans hp3) (by omega) (fz_trans hz (fz_trans (fz_mono (fun _ q => Or.inr q) hf2) hz3)) hstep lv3 k0 k1 k2 (nI_1 i ▸ k3)) lv l0 l1 l2 l3
set_option maxRecDepth 100000 in
theorem t_skipTo {sc : tm_X} {d : Nat} {a ca ba da rm dr x : Nat} {B : bm_H} {T : List Tm} {I : IB} {ix : Int32} {Q : Int32 → bm_H → Prop} (hT : TI B a ca ba da rm dr T) (hR : RIn B T x I) (hrm : T.length + 10 < rm) (hn1 : ¬ tcs a ca ba da x) (hn2 : ¬ tcs a ca ba da (x + 1)) (kk0 : ib_skipTo I ix = none → Q 0 B) (kk1 : ∀ J B' T', ib_skipTo I ix = some J → T <+: T' → T'.length ≤ T.length + 10 → TI B' a ca ba da rm dr T' → RIn B' T' x J → fz (fun y => tcs a ca ba da y ∨ y = x ∨ y = x + 1) B B' → Q 1 B') : bm_Gi sc (d + 3) 116 [.ref x, .ref a, .int ix] B Q := by
  have hnx : bm_FI B 2 4 x = I.2.2.1 := hR.2.2.1.2.2
  show bm_G sc (d + 3) 116 0 [(0, .ref x), (1, .ref a), (2, .int ix)] [] B _
  generalize elv : ([(0, .ref x), (1, .ref a), (2, .int ix)] : tm_L) = lv
  have l0 : lv.lookup 0 = some (.ref x) := by rw [← elv]; rfl
  have l1 : lv.lookup 1 = some (.ref a) := by rw [← elv]; rfl
  have l2 : lv.lookup 2 = some (.int ix) := by rw [← elv]; rfl
  clear elv
  refine g_ild (pc' := 1) cd_In_skipTo rfl (Or.inr ⟨_, rfl, rfl, rfl⟩) l2 rfl ?_
  refine g_ald (pc' := 2) cd_In_skipTo rfl (Or.inr ⟨_, rfl, rfl, rfl⟩) l0 rfl rfl ?_
  refine g_fI (c := 2) (k := 4) (x := (bm_FI B 2 4 x)) (pc' := 5) cd_In_skipTo rfl rfl rfl rfl rfl (by decide) hR.1.1.1 hR.1.1.2 rfl ?_
  refine g_pure (pc' := 6) (st' := [.int (ix - (bm_FI B 2 4 x))]) cd_In_skipTo rfl rfl (fun _ _ => rfl) ?_
  refine g_k1 (v := 5) (pc' := 7) cd_In_skipTo rfl (by decide) rfl ?_
  refine g_if2 (t := 12) (pc' := 10) cd_In_skipTo rfl rfl rfl (fun c7 => ?_) (fun c7 => ?_)
  · have c7 : (ix - (bm_FI B 2 4 x)) ≤ 5 := c7
    refine g_k1 (v := 0) (pc' := 13) cd_In_skipTo rfl (by decide) rfl ?_
    refine g_ist (pc' := 14) cd_In_skipTo rfl (Or.inr ⟨_, rfl, rfl, rfl⟩) (by decide) rfl (fun lv el => ?_)
    have l0 := tm_lk el l0 rfl (by decide)
    have l1 := tm_lk el l1 rfl (by decide)
    have l2 := tm_lk el l2 rfl (by decide)
    have l3 : lv.lookup 3 = some (.int 0) := tm_lks el
    clear el
    exact l_skip hrm hn1 hn2 (fun B' T' h1 h2 h3 h4 h5 => kk1 _ B' T' (by unfold ib_skipTo; rw [if_pos (hnx ▸ c7)]) h1 h2 h3 h4 h5) 5 0 B T I rfl hT hR (List.prefix_refl T) (Nat.le_refl _) (fz_rfl _ B) rfl lv l0 l1 l2 l3
  · have c7 : ¬ (ix - (bm_FI B 2 4 x)) ≤ 5 := c7
    refine g_k1 (v := 0) (pc' := 11) cd_In_skipTo rfl (by decide) rfl ?_
    exact g_retz cd_In_skipTo rfl (Or.inl rfl) ⟨_, rfl, (kk0 (by unfold ib_skipTo; rw [if_neg (hnx ▸ c7)]))⟩
set_option maxRecDepth 100000 in
theorem t_nextKey {sc : tm_X} {d : Nat} {a ca ba da rm dr x : Nat} {B : bm_H} {T : List Tm} {I : IB} {ix : Int32} {Q : Int32 → bm_H → Prop} (hT : TI B a ca ba da rm dr T) (hR : RIn B T x I) (hrm : T.length + 12 < rm) (hn1 : ¬ tcs a ca ba da x) (hn2 : ¬ tcs a ca ba da (x + 1)) (kk0 : ∀ B' T', ib_next I ix = none → T <+: T' → T'.length ≤ T.length + 12 → TI B' a ca ba da rm dr T' → fz (fun y => tcs a ca ba da y ∨ y = x ∨ y = x + 1) B B' → Q 0 B') (kk1 : ∀ K J B' T' r, ib_next I ix = some (K, J) → T <+: T' → T'.length ≤ T.length + 12 → TI B' a ca ba da rm dr T' → tv T' r K → K ≠ tz → RIn B' T' x J → fz (fun y => tcs a ca ba da y ∨ y = x ∨ y = x + 1) B B' → Q r B') : bm_Gi sc (d + 4) 118 [.ref x, .ref a, .int ix] B Q := by
  have hnx : bm_FI B 2 4 x = I.2.2.1 := hR.2.2.1.2.2
  show bm_G sc (d + 4) 118 0 [(0, .ref x), (1, .ref a), (2, .int ix)] [] B _
  generalize elv : ([(0, .ref x), (1, .ref a), (2, .int ix)] : tm_L) = lv
  have l0 : lv.lookup 0 = some (.ref x) := by rw [← elv]; rfl
  have l1 : lv.lookup 1 = some (.ref a) := by rw [← elv]; rfl
  have l2 : lv.lookup 2 = some (.int ix) := by rw [← elv]; rfl
  clear elv
  refine g_ild (pc' := 1) cd_In_nextKey rfl (Or.inr ⟨_, rfl, rfl, rfl⟩) l2 rfl ?_
  refine g_ald (pc' := 2) cd_In_nextKey rfl (Or.inr ⟨_, rfl, rfl, rfl⟩) l0 rfl rfl ?_
  refine g_fI (c := 2) (k := 4) (x := (bm_FI B 2 4 x)) (pc' := 5) cd_In_nextKey rfl rfl rfl rfl rfl (by decide) hR.1.1.1 hR.1.1.2 rfl ?_
  refine g_if2 (t := 17) (pc' := 8) cd_In_nextKey rfl rfl rfl (fun c5 => ?_) (fun c5 => ?_)
  · have c5 : ix < (bm_FI B 2 4 x) := c5
    refine g_k1 (v := 0) (pc' := 18) cd_In_nextKey rfl (by decide) rfl ?_
    exact g_reti cd_In_nextKey rfl ⟨_, rfl, (kk0 B T (by unfold ib_next; rw [if_pos (hnx ▸ c5)]) (List.prefix_refl T) (by omega) hT (fz_rfl _ B))⟩
  · have c5 : ¬ ix < (bm_FI B 2 4 x) := c5
    refine g_ald (pc' := 9) cd_In_nextKey rfl (Or.inr ⟨_, rfl, rfl, rfl⟩) l0 rfl rfl ?_
    refine g_ald (pc' := 10) cd_In_nextKey rfl (Or.inr ⟨_, rfl, rfl, rfl⟩) l1 rfl rfl ?_
    refine g_ild (pc' := 11) cd_In_nextKey rfl (Or.inr ⟨_, rfl, rfl, rfl⟩) l2 rfl ?_
    refine g_calli (pc' := 14) cd_In_nextKey rfl rfl rfl rfl rfl (tm_invV rfl rfl cd_In_skipTo rfl (Nat.le_of_ble_eq_true rfl) (by decide) hR.1.1.1 hR.1.1.2) (t_skipTo hT hR (by omega) hn1 hn2 (fun hss => ?_) (fun Js Bs Ts hss hps hls hTs hRs hzs => ?_))
    · skip
      show bm_G _ _ _ 14 _ [.int 0] B _
      refine g_if1 (t := 19) (pc' := 17) cd_In_nextKey rfl rfl rfl (fun c14 => ?_) (fun c14 => ?_)
      · exact absurd (show ¬ (0 : Int32) = 0 from c14) (by decide)
      · have c14 : (0 : Int32) = 0 := Classical.not_not.mp c14
        refine g_k1 (v := 0) (pc' := 18) cd_In_nextKey rfl (by decide) rfl ?_
        exact g_reti cd_In_nextKey rfl ⟨_, rfl, (kk0 B T (by unfold ib_next; rw [if_neg (hnx ▸ c5), hss]; rfl) (List.prefix_refl T) (by omega) hT (fz_rfl _ B))⟩
    · skip
      show bm_G _ _ _ 14 _ [.int 1] Bs _
      refine g_if1 (t := 19) (pc' := 17) cd_In_nextKey rfl rfl rfl (fun c14 => ?_) (fun c14 => ?_)
      · have c14 : ¬ (1 : Int32) = 0 := c14
        refine g_ald (pc' := 20) cd_In_nextKey rfl (Or.inr ⟨_, rfl, rfl, rfl⟩) l1 rfl rfl ?_
        refine g_k2 (v := 6) (pc' := 22) cd_In_nextKey rfl (by decide) rfl ?_
        refine g_ald (pc' := 23) cd_In_nextKey rfl (Or.inr ⟨_, rfl, rfl, rfl⟩) l0 rfl rfl ?_
        refine g_fI (c := 2) (k := 3) (x := (bm_FI Bs 2 3 x)) (pc' := 26) cd_In_nextKey rfl rfl rfl rfl rfl (by decide) hRs.1.1.1 hRs.1.1.2 rfl ?_
        refine g_k1 (v := 0) (pc' := 27) cd_In_nextKey rfl (by decide) rfl ?_
        refine g_calli (pc' := 30) cd_In_nextKey rfl rfl rfl rfl rfl (tm_invV rfl rfl cd_Te_mix rfl (Nat.le_of_ble_eq_true rfl) (by decide) hTs.1.1.1 hTs.1.1.2) (t_mix (n := 6) hTs (by omega) hRs.2.2.1.2.1 (TI_z hTs) (fun B9 T9 r9 hx9 ht9 => ?_))
        have hT9 := hx9.2.2.1
        have hl9 := hx9.2.1
        have hf9 := (fz_te hx9.2.2.2).1
        have hz9 := fz_te hx9.2.2.2
        have f10_0 := fr_lt hf9 hRs.1.1.1
        have g10_0 := (fr_K hf9 hRs.1.1.1).trans hRs.1.1.2
        have f10_1 := fr_lt hf9 hRs.1.2.2.1
        have g10_1 := (fr_K hf9 hRs.1.2.2.1).trans hRs.1.2.2.2.1
        have f10_2 := fr_lt hf9 hTs.1.1.1
        have g10_2 := (fr_K hf9 hTs.1.1.1).trans hTs.1.1.2
        have q10_0 : bm_FI B9 2 1 x = (nI Js.2.2.2.length) := (fr_FI hf9 hRs.1.1.1 hn1 2 1).trans hRs.2.1.1
        have q10_1 : bm_FI B9 2 2 x = (bm_FI Bs 2 2 x) := (fr_FI hf9 hRs.1.1.1 hn1 2 2).trans rfl
        have q10_2 : bm_FI B9 2 3 x = (bm_FI Bs 2 3 x) := (fr_FI hf9 hRs.1.1.1 hn1 2 3).trans rfl
        have q10_3 : bm_FI B9 2 4 x = (bm_FI Bs 2 4 x) := (fr_FI hf9 hRs.1.1.1 hn1 2 4).trans rfl
        have r10_0 : bm_FR B9 2 0 x = some (x + 1) := (fr_FR hf9 hRs.1.1.1 hn1 2 0).trans hRs.1.2.1
        have u10_0 : bm_AI B9 (x + 1) = (bm_AI Bs (x + 1)) := (fr_AI hf9 hRs.1.2.2.1 hn2).trans rfl
        have w10_0 : bm_AL B9 (x + 1) = 24 := (fr_AL hf9 hRs.1.2.2.1).trans hRs.1.2.2.2.2
        have tv11_0 := tv_mono hx9.1 hRs.2.2.1.1
        have tv11_1 := tv_mono hx9.1 hRs.2.2.1.2.1
        show bm_G _ _ _ 30 _ [.int r9] B9 _
        refine g_ist (pc' := 31) cd_In_nextKey rfl (Or.inr ⟨_, rfl, rfl, rfl⟩) (by decide) rfl (fun lv el => ?_)
        have l0 := tm_lk el l0 rfl (by decide)
        have l1 := tm_lk el l1 rfl (by decide)
        have l2 := tm_lk el l2 rfl (by decide)
        have l3 : lv.lookup 3 = some (.int r9) := tm_lks el
        clear el
        refine g_ald (pc' := 32) cd_In_nextKey rfl (Or.inr ⟨_, rfl, rfl, rfl⟩) l0 rfl rfl ?_
        refine g_ald (pc' := 33) cd_In_nextKey rfl (Or.inr ⟨_, rfl, rfl, rfl⟩) l1 rfl rfl ?_
        refine g_k2 (v := 7) (pc' := 35) cd_In_nextKey rfl (by decide) rfl ?_
        refine g_ald (pc' := 36) cd_In_nextKey rfl (Or.inr ⟨_, rfl, rfl, rfl⟩) l0 rfl rfl ?_
        refine g_fI (c := 2) (k := 3) (x := (bm_FI Bs 2 3 x)) (pc' := 39) cd_In_nextKey rfl rfl rfl rfl rfl (by decide) f10_0 g10_0 q10_2 ?_
        refine g_k1 (v := 0) (pc' := 40) cd_In_nextKey rfl (by decide) rfl ?_
        refine g_calli (pc' := 43) cd_In_nextKey rfl rfl rfl rfl rfl (tm_invV rfl rfl cd_Te_mix rfl (Nat.le_of_ble_eq_true rfl) (by decide) f10_2 g10_2) (t_mix (n := 7) hT9 (by omega) tv11_1 (TI_z hT9) (fun B12 T12 r12 hx12 ht12 => ?_))
        have hT12 := hx12.2.2.1
        have hl12 := hx12.2.1
        have hf12 := (fz_te hx12.2.2.2).1
        have hz12 := fz_te hx12.2.2.2
        have f13_0 := fr_lt hf12 f10_0
        have g13_0 := (fr_K hf12 f10_0).trans g10_0
        have f13_1 := fr_lt hf12 f10_1
        have g13_1 := (fr_K hf12 f10_1).trans g10_1
        have f13_2 := fr_lt hf12 f10_2
        have g13_2 := (fr_K hf12 f10_2).trans g10_2
        have q13_0 : bm_FI B12 2 1 x = (nI Js.2.2.2.length) := (fr_FI hf12 f10_0 hn1 2 1).trans q10_0
        have q13_1 : bm_FI B12 2 2 x = (bm_FI Bs 2 2 x) := (fr_FI hf12 f10_0 hn1 2 2).trans q10_1
        have q13_2 : bm_FI B12 2 3 x = (bm_FI Bs 2 3 x) := (fr_FI hf12 f10_0 hn1 2 3).trans q10_2
        have q13_3 : bm_FI B12 2 4 x = (bm_FI Bs 2 4 x) := (fr_FI hf12 f10_0 hn1 2 4).trans q10_3
        have r13_0 : bm_FR B12 2 0 x = some (x + 1) := (fr_FR hf12 f10_0 hn1 2 0).trans r10_0
        have u13_0 : bm_AI B12 (x + 1) = (bm_AI Bs (x + 1)) := (fr_AI hf12 f10_1 hn2).trans u10_0
        have w13_0 : bm_AL B12 (x + 1) = 24 := (fr_AL hf12 f10_1).trans w10_0
        have tv14_0 := tv_mono hx12.1 tv11_0
        have tv14_1 := tv_mono hx12.1 tv11_1
        have tv14_2 := tv_mono hx12.1 ht9
        show bm_G _ _ _ 43 _ [.int r12, .ref x] B12 _
        refine g_putI (c := 2) (k := 3) (pc' := 46) cd_In_nextKey rfl rfl rfl rfl (by simp [tm_okV, narrow, fits]) (Or.inl rfl) rfl (by decide) f13_0 g13_0 ?_
        refine g_ald (pc' := 47) cd_In_nextKey rfl (Or.inr ⟨_, rfl, rfl, rfl⟩) l0 rfl rfl ?_
        refine g_pure (pc' := 48) (st' := [.ref x, .ref x]) cd_In_nextKey rfl rfl (fun _ _ => rfl) ?_
        refine g_fI (c := 2) (k := 4) (x := (bm_FI Bs 2 4 x)) (pc' := 51) cd_In_nextKey rfl rfl rfl rfl rfl (by decide) f13_0 g13_0 q13_3 ?_
        refine g_k1 (v := 1) (pc' := 52) cd_In_nextKey rfl (by decide) rfl ?_
        refine g_pure (pc' := 53) (st' := [.int ((bm_FI Bs 2 4 x) + 1), .ref x]) cd_In_nextKey rfl rfl (fun _ _ => rfl) ?_
        refine g_putI (c := 2) (k := 4) (pc' := 56) cd_In_nextKey rfl rfl rfl rfl (by simp [tm_okV, narrow, fits]) (Or.inl rfl) rfl (by decide) f13_0 g13_0 ?_
        refine g_ild (pc' := 57) cd_In_nextKey rfl (Or.inr ⟨_, rfl, rfl, rfl⟩) l3 rfl ?_
        exact g_reti cd_In_nextKey rfl ⟨_, rfl, (kk1 _ _ _ _ _ (by unfold ib_next; rw [if_neg (hnx ▸ c5), hss]; rfl) (hps.trans (hx9.1.trans hx12.1)) (by omega) (TI_fr (X := fun y => y = x) hT12 (fr_trans (fr_putI _ 2 3 x r12) (fr_putI _ 2 4 x _)) (fun q => hn1 (Or.inl q.symm)) (fun q => hn1 (Or.inr (Or.inl q.symm))) (fun q => hn1 (Or.inr (Or.inr (Or.inl q.symm))))) tv14_2 tn_ne (RIn_mk (ch := r12) (nx := bm_FI Bs 2 4 x + 1) (J := (Js.1, Tmx 7 Js.2.1 tz, Js.2.2.1 + 1, Js.2.2.2)) hR.1 (fz_trans hzs (fz_trans (fz_trans (fz_mono (fun _ q => Or.inl q) hz9) (fz_mono (fun _ q => Or.inl q) hz12)) (fz_trans ⟨fr_mono (fun _ q => Or.inr (Or.inl q)) (fr_putI _ 2 3 x r12), rfl, rfl⟩ ⟨fr_mono (fun _ q => Or.inr (Or.inl q)) (fr_putI _ 2 4 x (bm_FI Bs 2 4 x + 1)), rfl, rfl⟩))).1 q13_0 q13_1 (by simp [bm_putI, bm_up3, bm_FI]) (by simp [bm_putI, bm_up3, bm_FI]) u13_0 rfl hRs.2.1.2 (tv_mono (hx9.1.trans hx12.1) hRs.2.2.1.1) ht12 (by rw [hRs.2.2.1.2.2]) (fun i e he => ⟨tv_mono (hx9.1.trans hx12.1) (hRs.2.2.2 i e he).1, (hRs.2.2.2 i e he).2.1, tv_mono (hx9.1.trans hx12.1) (hRs.2.2.2 i e he).2.2⟩)) (fz_trans hzs (fz_trans (fz_trans (fz_mono (fun _ q => Or.inl q) hz9) (fz_mono (fun _ q => Or.inl q) hz12)) (fz_trans ⟨fr_mono (fun _ q => Or.inr (Or.inl q)) (fr_putI _ 2 3 x r12), rfl, rfl⟩ ⟨fr_mono (fun _ q => Or.inr (Or.inl q)) (fr_putI _ 2 4 x (bm_FI Bs 2 4 x + 1)), rfl, rfl⟩))))⟩
      · exact absurd (show ¬ (¬ (1 : Int32) = 0) from c14) (by decide)
theorem lf_len {B : bm_H} {T : List Tm} {x : Nat} {I : IB} (h : RIn B T x I) {i : Nat} (hi : i < I.2.2.2.length) : ∃ e, I.2.2.2[i]? = some e ∧ tv T (bm_AI B (x + 1) (i * 3)) e.1 ∧ bm_AI B (x + 1) (i * 3 + 1) = e.2.1 ∧ tv T (bm_AI B (x + 1) (i * 3 + 2)) e.2.2 := ⟨_, List.getElem?_eq_getElem hi, h.2.2.2 i _ (List.getElem?_eq_getElem hi)⟩
theorem t_takeLeft {sc : tm_X} {d : Nat} {a ca ba da rm dr x : Nat} {B : bm_H} {T : List Tm} {I : IB} {p ix : Int32} {P : Tm} {Q : Int32 → bm_H → Prop} (hT : TI B a ca ba da rm dr T) (hR : RIn B T x I) (hp : tv T p P) (kk0 : lf_take P ix I.2.2.2 = none → Q 0 B) (kk1 : ∀ K l B' r, lf_take P ix I.2.2.2 = some (K, l) → tv T r K → RIn B' T x (I.1, I.2.1, I.2.2.1, l) → fz (fun y => y = x ∨ y = x + 1) B B' → Q r B') : bm_Gi sc (d + 2) 113 [.ref x, .int p, .int ix] B Q := by
  have key : ∀ {i : Nat} {e : Tm × Int32 × Tm}, I.2.2.2[i]? = some e → ((bm_AI B (x + 1) (i * 3) = p ∧ bm_AI B (x + 1) (i * 3 + 1) = ix) ↔ (e.1 = P ∧ e.2.1 = ix)) := fun {i e} he => by
    obtain ⟨g1, g2, -⟩ := hR.2.2.2 i e he
    rw [TI_eq hT g1 hp, g2]
  refine k_In_takeLeft (RIn_ok hR) (fun hno => kk0 (lf_take_no (fun j e he => fun w => hno j (List.getElem?_eq_some_iff.mp he).1 ((key he).mpr w)))) (fun i hi h1 h2 hno => ?_)
  obtain ⟨e, he, g1, g2, g3⟩ := lf_len hR hi
  obtain ⟨q1, q2⟩ := (key he).mp ⟨h1, h2⟩
  exact kk1 e.2.2 _ _ _ (lf_take_at ⟨⟨e, he, q1, q2, rfl⟩, fun j e' hj hje w => hno j hj ((key hje).mpr w)⟩) g3 (RIn_rem hR hi) (in_rem_fz _ _ _ _)
theorem in_st_fz (B : bm_H) (x : Nat) (t h n : Int32) : fz (fun y => y = x) B (in_st B x t h n) := ⟨fr_trans (fr_trans (fr_trans (fr_putI _ _ _ _ _) (fr_putI _ _ _ _ _)) (fr_putI _ _ _ _ _)) (fr_putI _ _ _ _ _), rfl, rfl⟩
theorem t_Istart {sc : tm_X} {d : Nat} {x : Nat} {B : bm_H} {T : List Tm} {t h n : Int32} {P C : Tm} {c : Nat} {Q : bm_H → Prop} (hI : in_ok B x (x + 1) c) (ht : tv T t P) (hh : tv T h C) (kk : ∀ B', RIn B' T x (P, C, n, []) → fz (fun y => y = x) B B' → Q B') : bm_Gv sc d 82 [.ref x, .int t, .int h, .int n] B Q := by
  refine k_In_start hI (kk _ ?_ (in_st_fz _ _ _ _ _))
  refine ⟨⟨hI.1, hI.2.1, hI.2.2.1⟩, ⟨if_pos ⟨rfl, rfl, rfl⟩, by simp⟩, ⟨?_, ?_, ?_⟩, fun i e he => by simp at he⟩
  · show tv T (bm_FI (in_st B x t h n) 2 2 x) P
    simp [in_st, bm_putI, bm_up3, bm_FI]; exact ht
  · show tv T (bm_FI (in_st B x t h n) 2 3 x) C
    simp [in_st, bm_putI, bm_up3, bm_FI]; exact hh
  · simp [in_st, bm_putI, bm_up3, bm_FI]
theorem in_cp_fz (B : bm_H) (x y lb c : Nat) : fz (fun z => z = x ∨ z = x + 1) B (in_cp B x (x + 1) y lb c) := ⟨fr_trans (fr_mono (fun _ h => Or.inl h) (fr_trans (fr_trans (fr_trans (fr_putI _ _ _ _ _) (fr_putI _ _ _ _ _)) (fr_putI _ _ _ _ _)) (fr_putI _ _ _ _ _))) (fr_mono (fun _ h => Or.inr h) (fr_allI _ _ _)), rfl, rfl⟩
theorem t_Icopy {sc : tm_X} {d : Nat} {x y : Nat} {B : bm_H} {T : List Tm} {I : IB} {c : Nat} {Q : bm_H → Prop} (hx : in_ok B x (x + 1) c) (hR : RIn B T y I) (hne : x ≠ y) (kk : ∀ B', RIn B' T x I → fz (fun z => z = x ∨ z = x + 1) B B' → Q B') : bm_Gv sc (d + 1) 39 [.ref x, .ref y] B Q := by
  refine k_In_copyFrom hx (RIn_ok hR) hne (kk _ ?_ (in_cp_fz _ _ _ _ _))
  obtain ⟨h1, ⟨h2, h3⟩, ⟨h4, h5, h6⟩, h7⟩ := hR
  refine ⟨⟨hx.1, hx.2.1, hx.2.2.1⟩, ⟨if_pos ⟨rfl, rfl, rfl⟩, h3⟩, ⟨?_, ?_, ?_⟩, fun i e he => ?_⟩
  · show tv T (bm_FI (in_cp B x (x + 1) y (y + 1) I.2.2.2.length) 2 2 x) I.1
    simp [in_cp, bm_allI, bm_putI, bm_up3, bm_FI]; exact h4
  · show tv T (bm_FI (in_cp B x (x + 1) y (y + 1) I.2.2.2.length) 2 3 x) I.2.1
    simp [in_cp, bm_allI, bm_putI, bm_up3, bm_FI]; exact h5
  · simp [in_cp, bm_allI, bm_putI, bm_up3, bm_FI]; exact h6
  · have hi := (List.getElem?_eq_some_iff.mp he).1
    have hv : ∀ k, k < 3 → bm_AI (in_cp B x (x + 1) y (y + 1) I.2.2.2.length) (x + 1) (i * 3 + k) = bm_AI B (y + 1) (i * 3 + k) := fun k hk => by
      show (if x + 1 = x + 1 then va_cpy (bm_AI B (y + 1)) (bm_AI B (x + 1)) 0 0 (I.2.2.2.length * 3) (i * 3 + k) else _) = _
      rw [if_pos rfl, pk_cpy_in (by omega) (by omega)]
      congr 1
      omega
    have v0 : bm_AI (in_cp B x (x + 1) y (y + 1) I.2.2.2.length) (x + 1) (i * 3) = bm_AI B (y + 1) (i * 3) := hv 0 (by decide)
    rw [v0, hv 1 (by decide), hv 2 (by decide)]
    exact h7 i e he
