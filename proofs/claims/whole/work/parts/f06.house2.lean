/-! The house is made: the walk. -/
set_option maxRecDepth 100000 in
theorem l_Ho {sc : tm_X} {d k : Nat} {B : bm_H} {Q : Option Value → bm_H → Prop} {lv : tm_L} (hk : k < 6) (h : HI k B) (l0 : lv.lookup 0 = some (.ref 0)) (l1 : lv.lookup 1 = some (.int (nI k))) (kk : ∀ (B' : bm_H) (lv : tm_L), HI (k + 1) B' → lv.lookup 0 = some (.ref 0) → lv.lookup 1 = some (.int (nI (k + 1))) → bm_G sc (d + 5) 0 116 lv [] B' Q) : bm_G sc (d + 5) 0 122 lv [] B Q := by
  have hS := h.1.1
  have hT := h.2.2.2.1
  have hK := h.2.2.2.2.1
  have hn := h.2.2.2.2.2.1
  have hlen := eT_len k
  have hK5 : 5 < bm_n B ∧ bm_K B 5 = 3 := by obtain ⟨L, fp, q⟩ := hK; exact q.2.1.1.1
  refine g_ald (pc' := 123) cd_Ho_init rfl (Or.inr ⟨_, rfl, rfl, rfl⟩) l0 rfl rfl ?_
  refine g_fR (c := 11) (k := 6) (x := 21) (pc' := 126) cd_Ho_init rfl rfl rfl rfl rfl (by decide) hS.1.1 hS.1.2 hS.2.1.2.2.2.2.2.2.1 ?_
  refine g_ild (pc' := 127) cd_Ho_init rfl (Or.inr ⟨_, rfl, rfl, rfl⟩) l1 rfl ?_
  refine g_ald (pc' := 128) cd_Ho_init rfl (Or.inr ⟨_, rfl, rfl, rfl⟩) l0 rfl rfl ?_
  refine g_fR (c := 11) (k := 0) (x := 1) (pc' := 131) cd_Ho_init rfl rfl rfl rfl rfl (by decide) hS.1.1 hS.1.2 hS.2.1.1 ?_
  refine g_ild (pc' := 132) cd_Ho_init rfl (Or.inr ⟨_, rfl, rfl, rfl⟩) l1 rfl ?_
  refine g_k1 (v := 0) (pc' := 133) cd_Ho_init rfl (by decide) rfl ?_
  refine g_calli (pc' := 136) cd_Ho_init rfl rfl rfl rfl rfl (tm_invV rfl rfl cd_Te_secret rfl (Nat.le_of_ble_eq_true rfl) (by decide) hT.1.1.1 hT.1.1.2) (t_secret (xd := nI k) (xp := 0) hT (by omega) (by omega) (fun B1 r hx ht => ?_))
  have hx : tx B B1 1 2 3 4 1024 (k + 1) (eT k) (eT (k + 1)) 2 := hx
  have ht : tv (eT (k + 1)) r (Id k) := ht
  have hT1 := hx.2.2.1
  have hz1 := fz_te hx.2.2.2
  have f2_0 := fr_lt hz1.1 hS.1.1
  have g2_0 := (fr_K hz1.1 hS.1.1).trans hS.1.2
  have f2_1 := fr_lt hz1.1 hT.1.1.1
  have g2_1 := (fr_K hz1.1 hT.1.1.1).trans hT.1.1.2
  have f2_2 := fr_lt hz1.1 hK5.1
  have g2_2 := (fr_K hz1.1 hK5.1).trans hK5.2
  have f2_3 := fr_lt hz1.1 hS.2.2.1.1
  have g2_3 := (fr_K hz1.1 hS.2.2.1.1).trans hS.2.2.1.2.1
  have f2_4 := fr_lt hz1.1 hS.2.2.2.1.1
  have g2_4 := (fr_K hz1.1 hS.2.2.2.1.1).trans hS.2.2.2.1.2.1
  have f2_5 := fr_lt hz1.1 hS.2.2.2.2.1.1
  have g2_5 := (fr_K hz1.1 hS.2.2.2.2.1.1).trans hS.2.2.2.2.1.2.1
  have r2_0 : bm_FR B1 11 0 0 = some 1 := (fr_FS hz1.1 hS.1.1 11 0 rfl).trans hS.2.1.1
  have r2_1 : bm_FR B1 11 1 0 = some 5 := (fr_FS hz1.1 hS.1.1 11 1 rfl).trans hS.2.1.2.1
  have r2_2 : bm_FR B1 11 4 0 = some 19 := (fr_FS hz1.1 hS.1.1 11 4 rfl).trans hS.2.1.2.2.2.2.1
  have r2_3 : bm_FR B1 11 5 0 = some 20 := (fr_FS hz1.1 hS.1.1 11 5 rfl).trans hS.2.1.2.2.2.2.2.1
  have r2_4 : bm_FR B1 11 6 0 = some 21 := (fr_FS hz1.1 hS.1.1 11 6 rfl).trans hS.2.1.2.2.2.2.2.2.1
  have w2_0 : bm_AL B1 19 = 6 := (fr_AL hz1.1 hS.2.2.1.1).trans hS.2.2.1.2.2
  have w2_1 : bm_AL B1 20 = 6 := (fr_AL hz1.1 hS.2.2.2.1.1).trans hS.2.2.2.1.2.2
  have w2_2 : bm_AL B1 21 = 6 := (fr_AL hz1.1 hS.2.2.2.2.1.1).trans hS.2.2.2.2.1.2.2
  show bm_G _ _ _ 136 _ [.int r, .int (nI k), .ref 21] B1 _
  refine g_iast (pc' := 137) cd_Ho_init rfl rfl f2_5 g2_5 (by rw [show bm_AL B1 21 = 6 from w2_2]; exact vp_in_nI hk (by decide)) ?_
  rw [show (nI k).toNatClampNeg = k from nI_clamp (by omega)]
  have vr0 : bm_AI (bm_setI B1 21 k r) 21 k = r := (congrFun (AI_set _ _ _ _) k).trans (if_pos rfl)
  refine g_ald (pc' := 138) cd_Ho_init rfl (Or.inr ⟨_, rfl, rfl, rfl⟩) l0 rfl rfl ?_
  refine g_fR (c := 11) (k := 1) (x := 5) (pc' := 141) cd_Ho_init rfl rfl rfl rfl rfl (by decide) f2_0 g2_0 r2_1 ?_
  refine g_ald (pc' := 142) cd_Ho_init rfl (Or.inr ⟨_, rfl, rfl, rfl⟩) l0 rfl rfl ?_
  refine g_fR (c := 11) (k := 0) (x := 1) (pc' := 145) cd_Ho_init rfl rfl rfl rfl rfl (by decide) f2_0 g2_0 r2_0 ?_
  refine g_ald (pc' := 146) cd_Ho_init rfl (Or.inr ⟨_, rfl, rfl, rfl⟩) l0 rfl rfl ?_
  refine g_fR (c := 11) (k := 6) (x := 21) (pc' := 149) cd_Ho_init rfl rfl rfl rfl rfl (by decide) f2_0 g2_0 r2_4 ?_
  refine g_ild (pc' := 150) cd_Ho_init rfl (Or.inr ⟨_, rfl, rfl, rfl⟩) l1 rfl ?_
  refine g_aI (x := r) (pc' := 151) cd_Ho_init rfl rfl f2_5 g2_5 (by rw [show bm_AL (bm_setI B1 21 k r) 21 = 6 from w2_2]; exact vp_in_nI hk (by decide)) (by rw [nI_clamp (by omega)]; exact vr0) ?_
  have hT2 : TI (bm_setI B1 21 k r) 1 2 3 4 1024 (k + 1) (eT (k + 1)) := TI_fr hT1 (fr_setI B1 21 k r) (by decide) (by decide) (by decide)
  refine g_calli (pc' := 154) cd_Ho_init rfl rfl rfl rfl rfl (tm_invV rfl rfl cd_Te_publicOf rfl (Nat.le_of_ble_eq_true rfl) (by decide) f2_1 g2_1) (t_publicOf hT2 ht (fun r' hp => ?_))
  have hp : tv (eT (k + 1)) r' (Tpub (Id k)) := hp
  show bm_G _ _ _ 154 _ [.int r', .ref 5] (bm_setI B1 21 k r) _
  have fb := fr_trans (X := fun y => (1 ≤ y ∧ y ≤ 4) ∨ y = 21) (fr_mono (fun y q => by omega) hz1.1) (fr_mono (fun y q => by omega) (fr_setI B1 21 k r))
  have hK2 := KI_mono hK hT2 hx.1 fb (by omega) (by omega) (by omega)
  refine g_callv (pc' := 157) cd_Ho_init rfl rfl rfl rfl rfl (tm_invV rfl rfl cd_Kn_give rfl (Nat.le_of_ble_eq_true rfl) (by decide) f2_2 g2_2) (t_give hT2 hK2 (by unfold kt_ap; omega) (Or.inr rfl) hp (fun B3 kc kl rk hT3 hK3 qa f3 qk qr => ?_))
  obtain ⟨rfl, qs, qn⟩ := qr
  have n3 : bm_n B3 = bm_n B1 := by have := f3.1; have e : bm_n (bm_setI B1 21 k r) = bm_n B1 := rfl; omega
  have n1 : bm_n B1 = bm_n B := hz1.2.1
  have kb : kc < bm_n B3 ∧ kl < bm_n B3 := by obtain ⟨L, fp, q⟩ := hK3; exact ⟨q.2.1.1.2.2.1.1.1, q.2.1.1.2.2.1.2.1⟩
  obtain ⟨rfl, rfl⟩ : kc = 6 ∧ kl = 7 := by rcases qk with q | q; exact q; exact absurd q.1 (by have e : bm_n (bm_setI B1 21 k r) = bm_n B1 := rfl; omega)
  have s3 : bm_sl B3 ≤ bm_sl B1 := by have e : bm_sl (bm_setI B1 21 k r) = bm_sl B1 := rfl; omega
  have hK3 : KI B3 5 1 6 7 1024 (eT (k + 1)).length (eT (k + 1)) (eG (k + 1)) := eG_s k ▸ hK3
  have vr3 : bm_AI B3 21 k = r := (congrFun (fr_AI f3 f2_5 (by unfold kx; omega)) k).trans vr0
  have f4_0 := fr_lt f3 f2_0
  have g4_0 := (fr_K f3 f2_0).trans g2_0
  have f4_1 := fr_lt f3 f2_1
  have g4_1 := (fr_K f3 f2_1).trans g2_1
  have f4_2 := fr_lt f3 f2_2
  have g4_2 := (fr_K f3 f2_2).trans g2_2
  have f4_3 := fr_lt f3 f2_3
  have g4_3 := (fr_K f3 f2_3).trans g2_3
  have f4_4 := fr_lt f3 f2_4
  have g4_4 := (fr_K f3 f2_4).trans g2_4
  have f4_5 := fr_lt f3 f2_5
  have g4_5 := (fr_K f3 f2_5).trans g2_5
  have r4_0 : bm_FR B3 11 0 0 = some 1 := (fr_FS f3 f2_0 11 0 rfl).trans r2_0
  have r4_1 : bm_FR B3 11 1 0 = some 5 := (fr_FS f3 f2_0 11 1 rfl).trans r2_1
  have r4_2 : bm_FR B3 11 4 0 = some 19 := (fr_FS f3 f2_0 11 4 rfl).trans r2_2
  have r4_3 : bm_FR B3 11 5 0 = some 20 := (fr_FS f3 f2_0 11 5 rfl).trans r2_3
  have r4_4 : bm_FR B3 11 6 0 = some 21 := (fr_FS f3 f2_0 11 6 rfl).trans r2_4
  have w4_0 : bm_AL B3 19 = 6 := (fr_AL f3 f2_3).trans w2_0
  have w4_1 : bm_AL B3 20 = 6 := (fr_AL f3 f2_4).trans w2_1
  have w4_2 : bm_AL B3 21 = 6 := (fr_AL f3 f2_5).trans w2_2
  have hn3 : bm_n B3 = 228 + 209 * k := by omega
  show bm_G _ _ _ 157 _ [] B3 _
  refine g_ald (pc' := 158) cd_Ho_init rfl (Or.inr ⟨_, rfl, rfl, rfl⟩) l0 rfl rfl ?_
  refine g_fR (c := 11) (k := 4) (x := 19) (pc' := 161) cd_Ho_init rfl rfl rfl rfl rfl (by decide) f4_0 g4_0 r4_2 ?_
  refine g_ild (pc' := 162) cd_Ho_init rfl (Or.inr ⟨_, rfl, rfl, rfl⟩) l1 rfl ?_
  refine n_obj 9 hn3 cd_Ho_init rfl rfl rfl rfl (by decide) rfl (fun BD hD => ?_)
  have vr5 : bm_AI BD 21 k = r := (congrFun (fr_AI (fr0_f hD.1) f4_5 (fun q => q)) k).trans vr3
  have f6_0 := fr_lt (fr0_f hD.1) f4_0
  have g6_0 := (fr_K (fr0_f hD.1) f4_0).trans g4_0
  have f6_1 := fr_lt (fr0_f hD.1) f4_1
  have g6_1 := (fr_K (fr0_f hD.1) f4_1).trans g4_1
  have f6_2 := fr_lt (fr0_f hD.1) f4_2
  have g6_2 := (fr_K (fr0_f hD.1) f4_2).trans g4_2
  have f6_3 := fr_lt (fr0_f hD.1) f4_3
  have g6_3 := (fr_K (fr0_f hD.1) f4_3).trans g4_3
  have f6_4 := fr_lt (fr0_f hD.1) f4_4
  have g6_4 := (fr_K (fr0_f hD.1) f4_4).trans g4_4
  have f6_5 := fr_lt (fr0_f hD.1) f4_5
  have g6_5 := (fr_K (fr0_f hD.1) f4_5).trans g4_5
  have r6_0 : bm_FR BD 11 0 0 = some 1 := (fr_FS (fr0_f hD.1) f4_0 11 0 rfl).trans r4_0
  have r6_1 : bm_FR BD 11 1 0 = some 5 := (fr_FS (fr0_f hD.1) f4_0 11 1 rfl).trans r4_1
  have r6_2 : bm_FR BD 11 4 0 = some 19 := (fr_FS (fr0_f hD.1) f4_0 11 4 rfl).trans r4_2
  have r6_3 : bm_FR BD 11 5 0 = some 20 := (fr_FS (fr0_f hD.1) f4_0 11 5 rfl).trans r4_3
  have r6_4 : bm_FR BD 11 6 0 = some 21 := (fr_FS (fr0_f hD.1) f4_0 11 6 rfl).trans r4_4
  have w6_0 : bm_AL BD 19 = 6 := (fr_AL (fr0_f hD.1) f4_3).trans w4_0
  have w6_1 : bm_AL BD 20 = 6 := (fr_AL (fr0_f hD.1) f4_4).trans w4_1
  have w6_2 : bm_AL BD 21 = 6 := (fr_AL (fr0_f hD.1) f4_5).trans w4_2
  refine g_pure (pc' := 166) (st' := [.ref ((228 + 209 * k)), .ref ((228 + 209 * k)), .int (nI k), .ref 19]) cd_Ho_init rfl rfl (fun _ _ => rfl) ?_
  refine g_callv (pc' := 169) cd_Ho_init rfl rfl rfl rfl rfl (tm_invI rfl rfl cd_De_init rfl (Nat.le_of_ble_eq_true rfl)) (i_De hn3 hD (fun B4 h4 => ?_))
  have vr7 : bm_AI B4 21 k = r := (congrFun (fr_AI (fr0_f h4.1) f4_5 (fun q => q)) k).trans vr3
  have f8_0 := fr_lt (fr0_f h4.1) f4_0
  have g8_0 := (fr_K (fr0_f h4.1) f4_0).trans g4_0
  have f8_1 := fr_lt (fr0_f h4.1) f4_1
  have g8_1 := (fr_K (fr0_f h4.1) f4_1).trans g4_1
  have f8_2 := fr_lt (fr0_f h4.1) f4_2
  have g8_2 := (fr_K (fr0_f h4.1) f4_2).trans g4_2
  have f8_3 := fr_lt (fr0_f h4.1) f4_3
  have g8_3 := (fr_K (fr0_f h4.1) f4_3).trans g4_3
  have f8_4 := fr_lt (fr0_f h4.1) f4_4
  have g8_4 := (fr_K (fr0_f h4.1) f4_4).trans g4_4
  have f8_5 := fr_lt (fr0_f h4.1) f4_5
  have g8_5 := (fr_K (fr0_f h4.1) f4_5).trans g4_5
  have r8_0 : bm_FR B4 11 0 0 = some 1 := (fr_FS (fr0_f h4.1) f4_0 11 0 rfl).trans r4_0
  have r8_1 : bm_FR B4 11 1 0 = some 5 := (fr_FS (fr0_f h4.1) f4_0 11 1 rfl).trans r4_1
  have r8_2 : bm_FR B4 11 4 0 = some 19 := (fr_FS (fr0_f h4.1) f4_0 11 4 rfl).trans r4_2
  have r8_3 : bm_FR B4 11 5 0 = some 20 := (fr_FS (fr0_f h4.1) f4_0 11 5 rfl).trans r4_3
  have r8_4 : bm_FR B4 11 6 0 = some 21 := (fr_FS (fr0_f h4.1) f4_0 11 6 rfl).trans r4_4
  have w8_0 : bm_AL B4 19 = 6 := (fr_AL (fr0_f h4.1) f4_3).trans w4_0
  have w8_1 : bm_AL B4 20 = 6 := (fr_AL (fr0_f h4.1) f4_4).trans w4_1
  have w8_2 : bm_AL B4 21 = 6 := (fr_AL (fr0_f h4.1) f4_5).trans w4_2
  have hn4 : bm_n B4 = 431 + 209 * k := by have := h4.2.1.1; omega
  show bm_G _ _ _ 169 _ [.ref ((228 + 209 * k)), .int (nI k), .ref 19] B4 _
  refine g_aast (t := 2) (pc' := 170) cd_Ho_init rfl rfl f8_3 g8_3 (by decide) rfl rfl h4.2.2.2.1 h4.2.2.2.2 (by rw [show bm_AL B4 19 = 6 from w8_0]; exact vp_in_nI hk (by decide)) ?_
  rw [show (nI k).toNatClampNeg = k from nI_clamp (by omega)]
  refine g_ald (pc' := 171) cd_Ho_init rfl (Or.inr ⟨_, rfl, rfl, rfl⟩) l0 rfl rfl ?_
  refine g_fR (c := 11) (k := 4) (x := 19) (pc' := 174) cd_Ho_init rfl rfl rfl rfl rfl (by decide) f8_0 g8_0 r8_2 ?_
  refine g_ild (pc' := 175) cd_Ho_init rfl (Or.inr ⟨_, rfl, rfl, rfl⟩) l1 rfl ?_
  refine g_aR (t := 2) (x := (228 + 209 * k)) (pc' := 176) cd_Ho_init rfl rfl f8_3 g8_3 (by decide) rfl rfl (by rw [show bm_AL (bm_setR B4 19 k (some (228 + 209 * k))) 19 = 6 from w8_0]; exact vp_in_nI hk (by decide)) (by rw [nI_clamp (by omega)]; exact AR_set _ _ _ _) ?_
  refine g_ald (pc' := 177) cd_Ho_init rfl (Or.inr ⟨_, rfl, rfl, rfl⟩) l0 rfl rfl ?_
  refine g_fR (c := 11) (k := 6) (x := 21) (pc' := 180) cd_Ho_init rfl rfl rfl rfl rfl (by decide) f8_0 g8_0 r8_4 ?_
  refine g_ild (pc' := 181) cd_Ho_init rfl (Or.inr ⟨_, rfl, rfl, rfl⟩) l1 rfl ?_
  refine g_aI (x := r) (pc' := 182) cd_Ho_init rfl rfl f8_5 g8_5 (by rw [show bm_AL (bm_setR B4 19 k (some (228 + 209 * k))) 21 = 6 from w8_2]; exact vp_in_nI hk (by decide)) (by rw [nI_clamp (by omega)]; exact vr7) ?_
  refine g_putI (c := 0) (k := 6) (pc' := 185) cd_Ho_init rfl rfl rfl rfl (by simp [tm_okV, narrow, fits]) (Or.inl rfl) rfl (by decide) h4.2.2.2.1 h4.2.2.2.2 ?_
  have P9 : bm_FI (bm_putI (bm_setR B4 19 k (some (228 + 209 * k))) 0 6 (228 + 209 * k) r) 0 6 (228 + 209 * k) = r := if_pos ⟨rfl, rfl, rfl⟩
  have hn6 : bm_n (bm_putI (bm_setR B4 19 k (some (228 + 209 * k))) 0 6 (228 + 209 * k) r) = 431 + 209 * k := hn4
  refine g_ald (pc' := 186) cd_Ho_init rfl (Or.inr ⟨_, rfl, rfl, rfl⟩) l0 rfl rfl ?_
  refine g_fR (c := 11) (k := 5) (x := 20) (pc' := 189) cd_Ho_init rfl rfl rfl rfl rfl (by decide) f8_0 g8_0 r8_3 ?_
  refine g_ild (pc' := 190) cd_Ho_init rfl (Or.inr ⟨_, rfl, rfl, rfl⟩) l1 rfl ?_
  refine n_obj 7 hn6 cd_Ho_init rfl rfl rfl rfl (by decide) rfl (fun BE hE => ?_)
  have vr10 : bm_AI BE 21 k = r := (congrFun (fr_AI (fr0_f hE.1) f8_5 (fun q => q)) k).trans vr7
  have f11_0 := fr_lt (fr0_f hE.1) f8_0
  have g11_0 := (fr_K (fr0_f hE.1) f8_0).trans g8_0
  have f11_1 := fr_lt (fr0_f hE.1) f8_1
  have g11_1 := (fr_K (fr0_f hE.1) f8_1).trans g8_1
  have f11_2 := fr_lt (fr0_f hE.1) f8_2
  have g11_2 := (fr_K (fr0_f hE.1) f8_2).trans g8_2
  have f11_3 := fr_lt (fr0_f hE.1) f8_3
  have g11_3 := (fr_K (fr0_f hE.1) f8_3).trans g8_3
  have f11_4 := fr_lt (fr0_f hE.1) f8_4
  have g11_4 := (fr_K (fr0_f hE.1) f8_4).trans g8_4
  have f11_5 := fr_lt (fr0_f hE.1) f8_5
  have g11_5 := (fr_K (fr0_f hE.1) f8_5).trans g8_5
  have f11_6 := fr_lt (fr0_f hE.1) h4.2.2.2.1
  have g11_6 := (fr_K (fr0_f hE.1) h4.2.2.2.1).trans h4.2.2.2.2
  have r11_0 : bm_FR BE 11 0 0 = some 1 := (fr_FS (fr0_f hE.1) f8_0 11 0 rfl).trans r8_0
  have r11_1 : bm_FR BE 11 1 0 = some 5 := (fr_FS (fr0_f hE.1) f8_0 11 1 rfl).trans r8_1
  have r11_2 : bm_FR BE 11 4 0 = some 19 := (fr_FS (fr0_f hE.1) f8_0 11 4 rfl).trans r8_2
  have r11_3 : bm_FR BE 11 5 0 = some 20 := (fr_FS (fr0_f hE.1) f8_0 11 5 rfl).trans r8_3
  have r11_4 : bm_FR BE 11 6 0 = some 21 := (fr_FS (fr0_f hE.1) f8_0 11 6 rfl).trans r8_4
  have w11_0 : bm_AL BE 19 = 6 := (fr_AL (fr0_f hE.1) f8_3).trans w8_0
  have w11_1 : bm_AL BE 20 = 6 := (fr_AL (fr0_f hE.1) f8_4).trans w8_1
  have w11_2 : bm_AL BE 21 = 6 := (fr_AL (fr0_f hE.1) f8_5).trans w8_2
  refine g_pure (pc' := 194) (st' := [.ref ((431 + 209 * k)), .ref ((431 + 209 * k)), .int (nI k), .ref 20]) cd_Ho_init rfl rfl (fun _ _ => rfl) ?_
  refine g_ald (pc' := 195) cd_Ho_init rfl (Or.inr ⟨_, rfl, rfl, rfl⟩) l0 rfl rfl ?_
  refine g_fR (c := 11) (k := 6) (x := 21) (pc' := 198) cd_Ho_init rfl rfl rfl rfl rfl (by decide) f11_0 g11_0 r11_4 ?_
  refine g_ild (pc' := 199) cd_Ho_init rfl (Or.inr ⟨_, rfl, rfl, rfl⟩) l1 rfl ?_
  refine g_aI (x := r) (pc' := 200) cd_Ho_init rfl rfl f11_5 g11_5 (by rw [show bm_AL BE 21 = 6 from w11_2]; exact vp_in_nI hk (by decide)) (by rw [nI_clamp (by omega)]; exact vr10) ?_
  refine g_callv (pc' := 203) cd_Ho_init rfl rfl rfl rfl rfl (tm_invI rfl rfl cd_St_init rfl (Nat.le_of_ble_eq_true rfl)) (i_St (x := r) hn6 hE (fun B7 h7 => ?_))
  have vr12 : bm_AI B7 21 k = r := (congrFun (fr_AI (fr0_f h7.1) f8_5 (fun q => q)) k).trans vr7
  have f13_0 := fr_lt (fr0_f h7.1) f8_0
  have g13_0 := (fr_K (fr0_f h7.1) f8_0).trans g8_0
  have f13_1 := fr_lt (fr0_f h7.1) f8_1
  have g13_1 := (fr_K (fr0_f h7.1) f8_1).trans g8_1
  have f13_2 := fr_lt (fr0_f h7.1) f8_2
  have g13_2 := (fr_K (fr0_f h7.1) f8_2).trans g8_2
  have f13_3 := fr_lt (fr0_f h7.1) f8_3
  have g13_3 := (fr_K (fr0_f h7.1) f8_3).trans g8_3
  have f13_4 := fr_lt (fr0_f h7.1) f8_4
  have g13_4 := (fr_K (fr0_f h7.1) f8_4).trans g8_4
  have f13_5 := fr_lt (fr0_f h7.1) f8_5
  have g13_5 := (fr_K (fr0_f h7.1) f8_5).trans g8_5
  have f13_6 := fr_lt (fr0_f h7.1) h4.2.2.2.1
  have g13_6 := (fr_K (fr0_f h7.1) h4.2.2.2.1).trans h4.2.2.2.2
  have r13_0 : bm_FR B7 11 0 0 = some 1 := (fr_FS (fr0_f h7.1) f8_0 11 0 rfl).trans r8_0
  have r13_1 : bm_FR B7 11 1 0 = some 5 := (fr_FS (fr0_f h7.1) f8_0 11 1 rfl).trans r8_1
  have r13_2 : bm_FR B7 11 4 0 = some 19 := (fr_FS (fr0_f h7.1) f8_0 11 4 rfl).trans r8_2
  have r13_3 : bm_FR B7 11 5 0 = some 20 := (fr_FS (fr0_f h7.1) f8_0 11 5 rfl).trans r8_3
  have r13_4 : bm_FR B7 11 6 0 = some 21 := (fr_FS (fr0_f h7.1) f8_0 11 6 rfl).trans r8_4
  have w13_0 : bm_AL B7 19 = 6 := (fr_AL (fr0_f h7.1) f8_3).trans w8_0
  have w13_1 : bm_AL B7 20 = 6 := (fr_AL (fr0_f h7.1) f8_4).trans w8_1
  have w13_2 : bm_AL B7 21 = 6 := (fr_AL (fr0_f h7.1) f8_5).trans w8_2
  show bm_G _ _ _ 203 _ [.ref ((431 + 209 * k)), .int (nI k), .ref 20] B7 _
  refine g_aast (t := 3) (pc' := 204) cd_Ho_init rfl rfl f13_4 g13_4 (by decide) rfl rfl h7.2.2.2.1 h7.2.2.2.2 (by rw [show bm_AL B7 20 = 6 from w13_1]; exact vp_in_nI hk (by decide)) ?_
  rw [show (nI k).toNatClampNeg = k from nI_clamp (by omega)]
  refine g_inc (y := nI (k + 1)) (pc' := 207) cd_Ho_init rfl l1 (by decide) (nI_add k 1) rfl (fun lv el => ?_)
  have l0 := tm_lk el l0 rfl (by decide)
  have l1 : lv.lookup 1 = some (.int (nI (k + 1))) := tm_lks el
  clear el
  refine g_pure (pc' := 116) (st' := []) cd_Ho_init rfl rfl (fun _ _ => rfl) ?_
  exact kk _ lv (HI_next hk h hx ht ⟨hT3, hK3, f3, n3, s3⟩ h4 h7) l0 l1
theorem l_Ho2 {sc : tm_X} {d : Nat} {Q : bm_H → Prop} (kk : ∀ B', HI 6 B' → Q B') : ∀ (r k : Nat) (B : bm_H) (lv : tm_L), r + k = 6 → HI k B → lv.lookup 0 = some (.ref 0) → lv.lookup 1 = some (.int (nI k)) → bm_G sc (d + 5) 0 116 lv [] B (fun r B' => r = none ∧ Q B') := by
  intro r
  induction r with
  | zero =>
    intro k B lv e h l0 l1
    have hk : k = 6 := by omega
    subst hk
    refine g_ild (pc' := 117) cd_Ho_init rfl (Or.inr ⟨_, rfl, rfl, rfl⟩) l1 rfl ?_
    refine g_k2 (v := 6) (pc' := 119) cd_Ho_init rfl (by decide) rfl ?_
    refine g_if2 (t := 210) (pc' := 122) cd_Ho_init rfl rfl rfl (fun c => ?_) (fun c => ?_)
    · exact g_retv cd_Ho_init rfl ⟨rfl, kk _ h⟩
    · exact absurd (show (6 : Int32) ≤ nI 6 by decide) c
  | succ r ih =>
    intro k B lv e h l0 l1
    refine g_ild (pc' := 117) cd_Ho_init rfl (Or.inr ⟨_, rfl, rfl, rfl⟩) l1 rfl ?_
    refine g_k2 (v := 6) (pc' := 119) cd_Ho_init rfl (by decide) rfl ?_
    refine g_if2 (t := 210) (pc' := 122) cd_Ho_init rfl rfl rfl (fun c => ?_) (fun c => ?_)
    · exact absurd c (n6 (by omega))
    · exact l_Ho (by omega) h l0 l1 (fun B' lv h' a b => ih (k + 1) B' lv (by omega) h' a b)
