/-! Session -/
def SeS (B : bm_H) (s : Nat) : Prop := (s < bm_n B ∧ bm_K B s = 7) ∧ bm_FR B 7 0 s = some (s + 1) ∧ InS B (s + 1)
def RSe (B : bm_H) (T : List Tm) (s : Nat) : SS → Prop
  | (I, ba, ro, mi, se, n, b, br, bp, bo, on) => ((s < bm_n B ∧ bm_K B s = 7) ∧ bm_FR B 7 0 s = some (s + 1)) ∧ RIn B T (s + 1) I ∧ (tv T (bm_FI B 7 1 s) ba ∧ tv T (bm_FI B 7 2 s) ro ∧ tv T (bm_FI B 7 3 s) mi ∧ tv T (bm_FI B 7 4 s) se) ∧ (bm_FI B 7 5 s = n ∧ bm_FI B 7 6 s = b) ∧ (bm_FI B 7 7 s = bz br ∧ (br = true → tv T (bm_FI B 7 8 s) bp ∧ tv T (bm_FI B 7 9 s) bo)) ∧ bm_FI B 7 10 s = bz on
theorem tvq {T : List Tm} {x v : Int32} {A : Tm} (h : x = v) (q : tv T v A) : tv T x A := h ▸ q
theorem SeS_fr {X : Nat → Prop} {B B' : bm_H} {s : Nat} (h : SeS B s) (hf : fr X B B') : SeS B' s := ⟨⟨fr_lt hf h.1.1, (fr_K hf h.1.1).trans h.1.2⟩, (fr_FS hf h.1.1 7 0 rfl).trans h.2.1, InS_fr h.2.2 hf⟩
theorem RSe_S {B : bm_H} {T : List Tm} {s : Nat} {S : SS} (h : RSe B T s S) : SeS B s := by
  obtain ⟨I, ba, ro, mi, se, n, b, br, bp, bo, on⟩ := S
  exact ⟨h.1.1, h.1.2, h.2.1.1⟩
theorem RSe_fr {X : Nat → Prop} {B B' : bm_H} {T T' : List Tm} {s : Nat} {S : SS} (h : RSe B T s S) (hf : fr X B B') (n1 : ¬ X s) (n2 : ¬ X (s + 1)) (n3 : ¬ X (s + 1 + 1)) (hT : T <+: T') : RSe B' T' s S := by
  obtain ⟨I, ba, ro, mi, se, n, b, br, bp, bo, on⟩ := S
  obtain ⟨⟨⟨h1, h2⟩, h3⟩, h4, ⟨t1, t2, t3, t4⟩, ⟨i1, i2⟩, ⟨i3, i4⟩, i5⟩ := h
  have e := fun k => fr_FI hf h1 n1 7 k
  exact ⟨⟨⟨fr_lt hf h1, (fr_K hf h1).trans h2⟩, (fr_FS hf h1 7 0 rfl).trans h3⟩, RIn_fr h4 hf n2 n3 hT, ⟨tvq (e 1) (tv_mono hT t1), tvq (e 2) (tv_mono hT t2), tvq (e 3) (tv_mono hT t3), tvq (e 4) (tv_mono hT t4)⟩, ⟨(e 5).trans i1, (e 6).trans i2⟩, ⟨(e 7).trans i3, fun q => ⟨tvq (e 8) (tv_mono hT (i4 q).1), tvq (e 9) (tv_mono hT (i4 q).2)⟩⟩, (e 10).trans i5⟩
theorem ss_turn_t {I : IB} {ba ro mi se : Tm} {n b : Int32} {br : Bool} {bp bo : Tm} {on : Bool} {new : Tm} (h : se = tz) : ss_turn (I, ba, ro, mi, se, n, b, br, bp, bo, on) new = (I, ba, Tmx 4 ro (Tsh new (pt I.1 0)), new, Tmx 5 ro (Tsh new (pt I.1 0)), 0, n, br, bp, bo, on) := cif_t h
theorem ss_turn_f {I : IB} {ba ro mi se : Tm} {n b : Int32} {br : Bool} {bp bo : Tm} {on : Bool} {new : Tm} (h : se ≠ tz) : ss_turn (I, ba, ro, mi, se, n, b, br, bp, bo, on) new = (I, ba, ro, mi, se, n, b, br, bp, bo, on) := cif_f h
theorem tt_draft_fr (B : bm_H) (a ca ba da : Nat) (k n0 n1 n2 n3 : Int32) : te_fr B (tt_draft B da k n0 n1 n2 n3) a ca ba da := te_dset_fr _ _ _ _ _ _
def sxs (a ca ba da s : Nat) (y : Nat) : Prop := tcs a ca ba da y ∨ y = s ∨ y = s + 1 ∨ y = s + 1 + 1
set_option maxRecDepth 100000 in
theorem t_bear {sc : tm_X} {d : Nat} {a ca ba da rm dr s : Nat} {B : bm_H} {T : List Tm} {I : IB} {xb xr xm xs : Tm} {n b : Int32} {br : Bool} {bp bo : Tm} {on : Bool} {p o : Int32} {P O : Tm} {Q : bm_H → Prop} (hT : TI B a ca ba da rm dr T) (hR : RSe B T s (I, xb, xr, xm, xs, n, b, br, bp, bo, on)) (hn1 : ¬ tcs a ca ba da s) (hn2 : ¬ tcs a ca ba da (s + 1)) (hn3 : ¬ tcs a ca ba da (s + 1 + 1)) (hrm : T.length + 3 < rm) (hp : tv T p P) (ho : tv T o O) (hk1 : kd xm = 1) (hk2 : kd (pt P 0) = 1) (kk : ∀ B' T', T <+: T' → T'.length ≤ T.length + 3 → TI B' a ca ba da rm dr T' → RSe B' T' s (ss_bear (I, xb, xr, xm, xs, n, b, br, bp, bo, on) P O) → fz (sxs a ca ba da s) B B' → Q B') : bm_Gv sc (d + 3) 83 [.ref s, .ref a, .int p, .int o] B Q := by
  have hc8 := hR.2.1.2.1.2
  show bm_G sc (d + 3) 83 0 [(0, .ref s), (1, .ref a), (2, .int p), (3, .int o)] [] B _
  generalize elv : ([(0, .ref s), (1, .ref a), (2, .int p), (3, .int o)] : tm_L) = lv
  have l0 : lv.lookup 0 = some (.ref s) := by rw [← elv]; rfl
  have l1 : lv.lookup 1 = some (.ref a) := by rw [← elv]; rfl
  have l2 : lv.lookup 2 = some (.int p) := by rw [← elv]; rfl
  have l3 : lv.lookup 3 = some (.int o) := by rw [← elv]; rfl
  clear elv
  refine g_ald (pc' := 1) cd_Se_bear rfl (Or.inr ⟨_, rfl, rfl, rfl⟩) l1 rfl rfl ?_
  refine g_ald (pc' := 2) cd_Se_bear rfl (Or.inr ⟨_, rfl, rfl, rfl⟩) l0 rfl rfl ?_
  refine g_fI (c := 7) (k := 3) (x := (bm_FI B 7 3 s)) (pc' := 5) cd_Se_bear rfl rfl rfl rfl rfl (by decide) hR.1.1.1 hR.1.1.2 rfl ?_
  refine g_ild (pc' := 6) cd_Se_bear rfl (Or.inr ⟨_, rfl, rfl, rfl⟩) l2 rfl ?_
  refine g_calli (pc' := 9) cd_Se_bear rfl rfl rfl rfl rfl (tm_invV rfl rfl cd_Te_shared rfl (Nat.le_of_ble_eq_true rfl) (by decide) hT.1.1.1 hT.1.1.2) (t_shared hT (by omega) hR.2.2.1.2.2.1 hp hk1 hk2 (fun B1 T1 r1 hx1 ht1 => ?_))
  have hT1 := hx1.2.2.1
  have hl1 := hx1.2.1
  have hf1 := (fz_te hx1.2.2.2).1
  have hz1 := fz_te hx1.2.2.2
  have f2_0 := fr_lt hf1 hR.1.1.1
  have g2_0 := (fr_K hf1 hR.1.1.1).trans hR.1.1.2
  have f2_1 := fr_lt hf1 hR.2.1.1.1.1
  have g2_1 := (fr_K hf1 hR.2.1.1.1.1).trans hR.2.1.1.1.2
  have f2_2 := fr_lt hf1 hR.2.1.1.2.2.1
  have g2_2 := (fr_K hf1 hR.2.1.1.2.2.1).trans hR.2.1.1.2.2.2.1
  have f2_3 := fr_lt hf1 hT.1.1.1
  have g2_3 := (fr_K hf1 hT.1.1.1).trans hT.1.1.2
  have q2_0 : bm_FI B1 7 1 s = (bm_FI B 7 1 s) := (fr_FI hf1 hR.1.1.1 hn1 7 1).trans rfl
  have q2_1 : bm_FI B1 7 2 s = (bm_FI B 7 2 s) := (fr_FI hf1 hR.1.1.1 hn1 7 2).trans rfl
  have q2_2 : bm_FI B1 7 3 s = (bm_FI B 7 3 s) := (fr_FI hf1 hR.1.1.1 hn1 7 3).trans rfl
  have q2_3 : bm_FI B1 7 4 s = (bm_FI B 7 4 s) := (fr_FI hf1 hR.1.1.1 hn1 7 4).trans rfl
  have q2_4 : bm_FI B1 7 8 s = (bm_FI B 7 8 s) := (fr_FI hf1 hR.1.1.1 hn1 7 8).trans rfl
  have q2_5 : bm_FI B1 7 9 s = (bm_FI B 7 9 s) := (fr_FI hf1 hR.1.1.1 hn1 7 9).trans rfl
  have q2_6 : bm_FI B1 7 5 s = n := (fr_FI hf1 hR.1.1.1 hn1 7 5).trans hR.2.2.2.1.1
  have q2_7 : bm_FI B1 7 6 s = b := (fr_FI hf1 hR.1.1.1 hn1 7 6).trans hR.2.2.2.1.2
  have q2_8 : bm_FI B1 7 7 s = bz br := (fr_FI hf1 hR.1.1.1 hn1 7 7).trans hR.2.2.2.2.1.1
  have q2_9 : bm_FI B1 7 10 s = bz on := (fr_FI hf1 hR.1.1.1 hn1 7 10).trans hR.2.2.2.2.2
  have q2_10 : bm_FI B1 2 1 (s + 1) = (nI I.2.2.2.length) := (fr_FI hf1 hR.2.1.1.1.1 hn2 2 1).trans hR.2.1.2.1.1
  have q2_11 : bm_FI B1 2 2 (s + 1) = (bm_FI B 2 2 (s + 1)) := (fr_FI hf1 hR.2.1.1.1.1 hn2 2 2).trans rfl
  have q2_12 : bm_FI B1 2 3 (s + 1) = (bm_FI B 2 3 (s + 1)) := (fr_FI hf1 hR.2.1.1.1.1 hn2 2 3).trans rfl
  have q2_13 : bm_FI B1 2 4 (s + 1) = I.2.2.1 := (fr_FI hf1 hR.2.1.1.1.1 hn2 2 4).trans hR.2.1.2.2.1.2.2
  have r2_0 : bm_FR B1 7 0 s = some (s + 1) := (fr_FR hf1 hR.1.1.1 hn1 7 0).trans hR.1.2
  have r2_1 : bm_FR B1 2 0 (s + 1) = some (s + 1 + 1) := (fr_FR hf1 hR.2.1.1.1.1 hn2 2 0).trans hR.2.1.1.2.1
  have u2_0 : bm_AI B1 (s + 1 + 1) = (bm_AI B (s + 1 + 1)) := (fr_AI hf1 hR.2.1.1.2.2.1 hn3).trans rfl
  have w2_0 : bm_AL B1 (s + 1 + 1) = 24 := (fr_AL hf1 hR.2.1.1.2.2.1).trans hR.2.1.1.2.2.2.2
  have tv3_0 := tv_mono hx1.1 hR.2.2.1.1
  have tv3_1 := tv_mono hx1.1 hR.2.2.1.2.1
  have tv3_2 := tv_mono hx1.1 hR.2.2.1.2.2.1
  have tv3_3 := tv_mono hx1.1 hR.2.2.1.2.2.2
  have tv3_4 := tv_mono hx1.1 hR.2.1.2.2.1.1
  have tv3_5 := tv_mono hx1.1 hR.2.1.2.2.1.2.1
  have tv3_6 := tv_mono hx1.1 hp
  have tv3_7 := tv_mono hx1.1 ho
  have Z4 : fz (sxs a ca ba da s) B B1 := fz_trans (fz_rfl _ B) (fz_mono (fun _ q => Or.inl q) hz1)
  show bm_G _ _ _ 9 _ [.int r1] B1 _
  refine g_ist (pc' := 11) cd_Se_bear rfl (Or.inl ⟨rfl, rfl⟩) (by decide) rfl (fun lv el => ?_)
  have l0 := tm_lk el l0 rfl (by decide)
  have l1 := tm_lk el l1 rfl (by decide)
  have l2 := tm_lk el l2 rfl (by decide)
  have l3 := tm_lk el l3 rfl (by decide)
  have l4 : lv.lookup 4 = some (.int r1) := tm_lks el
  clear el
  refine g_ald (pc' := 12) cd_Se_bear rfl (Or.inr ⟨_, rfl, rfl, rfl⟩) l0 rfl rfl ?_
  refine g_ald (pc' := 13) cd_Se_bear rfl (Or.inr ⟨_, rfl, rfl, rfl⟩) l1 rfl rfl ?_
  refine g_k1 (v := 5) (pc' := 14) cd_Se_bear rfl (by decide) rfl ?_
  refine g_ald (pc' := 15) cd_Se_bear rfl (Or.inr ⟨_, rfl, rfl, rfl⟩) l0 rfl rfl ?_
  refine g_fI (c := 7) (k := 2) (x := (bm_FI B 7 2 s)) (pc' := 18) cd_Se_bear rfl rfl rfl rfl rfl (by decide) f2_0 g2_0 q2_1 ?_
  refine g_ild (pc' := 20) cd_Se_bear rfl (Or.inl ⟨rfl, rfl⟩) l4 rfl ?_
  refine g_calli (pc' := 23) cd_Se_bear rfl rfl rfl rfl rfl (tm_invV rfl rfl cd_Te_mix rfl (Nat.le_of_ble_eq_true rfl) (by decide) f2_3 g2_3) (t_mix (n := 5) hT1 (by omega) tv3_1 ht1 (fun B5 T5 r5 hx5 ht5 => ?_))
  have hT5 := hx5.2.2.1
  have hl5 := hx5.2.1
  have hf5 := (fz_te hx5.2.2.2).1
  have hz5 := fz_te hx5.2.2.2
  have f6_0 := fr_lt hf5 f2_0
  have g6_0 := (fr_K hf5 f2_0).trans g2_0
  have f6_1 := fr_lt hf5 f2_1
  have g6_1 := (fr_K hf5 f2_1).trans g2_1
  have f6_2 := fr_lt hf5 f2_2
  have g6_2 := (fr_K hf5 f2_2).trans g2_2
  have f6_3 := fr_lt hf5 f2_3
  have g6_3 := (fr_K hf5 f2_3).trans g2_3
  have q6_0 : bm_FI B5 7 1 s = (bm_FI B 7 1 s) := (fr_FI hf5 f2_0 hn1 7 1).trans q2_0
  have q6_1 : bm_FI B5 7 2 s = (bm_FI B 7 2 s) := (fr_FI hf5 f2_0 hn1 7 2).trans q2_1
  have q6_2 : bm_FI B5 7 3 s = (bm_FI B 7 3 s) := (fr_FI hf5 f2_0 hn1 7 3).trans q2_2
  have q6_3 : bm_FI B5 7 4 s = (bm_FI B 7 4 s) := (fr_FI hf5 f2_0 hn1 7 4).trans q2_3
  have q6_4 : bm_FI B5 7 8 s = (bm_FI B 7 8 s) := (fr_FI hf5 f2_0 hn1 7 8).trans q2_4
  have q6_5 : bm_FI B5 7 9 s = (bm_FI B 7 9 s) := (fr_FI hf5 f2_0 hn1 7 9).trans q2_5
  have q6_6 : bm_FI B5 7 5 s = n := (fr_FI hf5 f2_0 hn1 7 5).trans q2_6
  have q6_7 : bm_FI B5 7 6 s = b := (fr_FI hf5 f2_0 hn1 7 6).trans q2_7
  have q6_8 : bm_FI B5 7 7 s = bz br := (fr_FI hf5 f2_0 hn1 7 7).trans q2_8
  have q6_9 : bm_FI B5 7 10 s = bz on := (fr_FI hf5 f2_0 hn1 7 10).trans q2_9
  have q6_10 : bm_FI B5 2 1 (s + 1) = (nI I.2.2.2.length) := (fr_FI hf5 f2_1 hn2 2 1).trans q2_10
  have q6_11 : bm_FI B5 2 2 (s + 1) = (bm_FI B 2 2 (s + 1)) := (fr_FI hf5 f2_1 hn2 2 2).trans q2_11
  have q6_12 : bm_FI B5 2 3 (s + 1) = (bm_FI B 2 3 (s + 1)) := (fr_FI hf5 f2_1 hn2 2 3).trans q2_12
  have q6_13 : bm_FI B5 2 4 (s + 1) = I.2.2.1 := (fr_FI hf5 f2_1 hn2 2 4).trans q2_13
  have r6_0 : bm_FR B5 7 0 s = some (s + 1) := (fr_FR hf5 f2_0 hn1 7 0).trans r2_0
  have r6_1 : bm_FR B5 2 0 (s + 1) = some (s + 1 + 1) := (fr_FR hf5 f2_1 hn2 2 0).trans r2_1
  have u6_0 : bm_AI B5 (s + 1 + 1) = (bm_AI B (s + 1 + 1)) := (fr_AI hf5 f2_2 hn3).trans u2_0
  have w6_0 : bm_AL B5 (s + 1 + 1) = 24 := (fr_AL hf5 f2_2).trans w2_0
  have tv7_0 := tv_mono hx5.1 tv3_0
  have tv7_1 := tv_mono hx5.1 tv3_1
  have tv7_2 := tv_mono hx5.1 tv3_2
  have tv7_3 := tv_mono hx5.1 tv3_3
  have tv7_4 := tv_mono hx5.1 tv3_4
  have tv7_5 := tv_mono hx5.1 tv3_5
  have tv7_6 := tv_mono hx5.1 tv3_6
  have tv7_7 := tv_mono hx5.1 tv3_7
  have tv7_8 := tv_mono hx5.1 ht1
  have Z8 : fz (sxs a ca ba da s) B B5 := fz_trans Z4 (fz_mono (fun _ q => Or.inl q) hz5)
  show bm_G _ _ _ 23 _ [.int r5, .ref s] B5 _
  refine g_putI (c := 7) (k := 4) (pc' := 26) cd_Se_bear rfl rfl rfl rfl (by simp [tm_okV, narrow, fits]) (Or.inl rfl) rfl (by decide) f6_0 g6_0 ?_
  have P9 : bm_FI (bm_putI B5 7 4 s r5) 7 4 s = r5 := if_pos ⟨rfl, rfl, rfl⟩
  have Z10 : fz (sxs a ca ba da s) B (bm_putI B5 7 4 s r5) := fz_trans Z8 ⟨fr_mono (fun _ q => Or.inr (Or.inl q)) (fr_putI _ 7 4 s _), rfl, rfl⟩
  refine g_ald (pc' := 27) cd_Se_bear rfl (Or.inr ⟨_, rfl, rfl, rfl⟩) l0 rfl rfl ?_
  refine g_ald (pc' := 28) cd_Se_bear rfl (Or.inr ⟨_, rfl, rfl, rfl⟩) l1 rfl rfl ?_
  refine g_k1 (v := 4) (pc' := 29) cd_Se_bear rfl (by decide) rfl ?_
  refine g_ald (pc' := 30) cd_Se_bear rfl (Or.inr ⟨_, rfl, rfl, rfl⟩) l0 rfl rfl ?_
  refine g_fI (c := 7) (k := 2) (x := (bm_FI B 7 2 s)) (pc' := 33) cd_Se_bear rfl rfl rfl rfl rfl (by decide) f6_0 g6_0 q6_1 ?_
  refine g_ild (pc' := 35) cd_Se_bear rfl (Or.inl ⟨rfl, rfl⟩) l4 rfl ?_
  have hT11 : TI (bm_putI B5 7 4 s r5) a ca ba da rm dr T5 := hT5
  refine g_calli (pc' := 38) cd_Se_bear rfl rfl rfl rfl rfl (tm_invV rfl rfl cd_Te_mix rfl (Nat.le_of_ble_eq_true rfl) (by decide) f6_3 g6_3) (t_mix (n := 4) hT11 (by omega) tv7_1 tv7_8 (fun B12 T12 r12 hx12 ht12 => ?_))
  have hT12 := hx12.2.2.1
  have hl12 := hx12.2.1
  have hf12 := (fz_te hx12.2.2.2).1
  have hz12 := fz_te hx12.2.2.2
  have f13_0 := fr_lt hf12 f6_0
  have g13_0 := (fr_K hf12 f6_0).trans g6_0
  have f13_1 := fr_lt hf12 f6_1
  have g13_1 := (fr_K hf12 f6_1).trans g6_1
  have f13_2 := fr_lt hf12 f6_2
  have g13_2 := (fr_K hf12 f6_2).trans g6_2
  have f13_3 := fr_lt hf12 f6_3
  have g13_3 := (fr_K hf12 f6_3).trans g6_3
  have q13_0 : bm_FI B12 7 1 s = (bm_FI B 7 1 s) := (fr_FI hf12 f6_0 hn1 7 1).trans q6_0
  have q13_1 : bm_FI B12 7 2 s = (bm_FI B 7 2 s) := (fr_FI hf12 f6_0 hn1 7 2).trans q6_1
  have q13_2 : bm_FI B12 7 3 s = (bm_FI B 7 3 s) := (fr_FI hf12 f6_0 hn1 7 3).trans q6_2
  have q13_3 : bm_FI B12 7 4 s = r5 := (fr_FI hf12 f6_0 hn1 7 4).trans P9
  have q13_4 : bm_FI B12 7 8 s = (bm_FI B 7 8 s) := (fr_FI hf12 f6_0 hn1 7 8).trans q6_4
  have q13_5 : bm_FI B12 7 9 s = (bm_FI B 7 9 s) := (fr_FI hf12 f6_0 hn1 7 9).trans q6_5
  have q13_6 : bm_FI B12 7 5 s = n := (fr_FI hf12 f6_0 hn1 7 5).trans q6_6
  have q13_7 : bm_FI B12 7 6 s = b := (fr_FI hf12 f6_0 hn1 7 6).trans q6_7
  have q13_8 : bm_FI B12 7 7 s = bz br := (fr_FI hf12 f6_0 hn1 7 7).trans q6_8
  have q13_9 : bm_FI B12 7 10 s = bz on := (fr_FI hf12 f6_0 hn1 7 10).trans q6_9
  have q13_10 : bm_FI B12 2 1 (s + 1) = (nI I.2.2.2.length) := (fr_FI hf12 f6_1 hn2 2 1).trans q6_10
  have q13_11 : bm_FI B12 2 2 (s + 1) = (bm_FI B 2 2 (s + 1)) := (fr_FI hf12 f6_1 hn2 2 2).trans q6_11
  have q13_12 : bm_FI B12 2 3 (s + 1) = (bm_FI B 2 3 (s + 1)) := (fr_FI hf12 f6_1 hn2 2 3).trans q6_12
  have q13_13 : bm_FI B12 2 4 (s + 1) = I.2.2.1 := (fr_FI hf12 f6_1 hn2 2 4).trans q6_13
  have r13_0 : bm_FR B12 7 0 s = some (s + 1) := (fr_FR hf12 f6_0 hn1 7 0).trans r6_0
  have r13_1 : bm_FR B12 2 0 (s + 1) = some (s + 1 + 1) := (fr_FR hf12 f6_1 hn2 2 0).trans r6_1
  have u13_0 : bm_AI B12 (s + 1 + 1) = (bm_AI B (s + 1 + 1)) := (fr_AI hf12 f6_2 hn3).trans u6_0
  have w13_0 : bm_AL B12 (s + 1 + 1) = 24 := (fr_AL hf12 f6_2).trans w6_0
  have tv14_0 := tv_mono hx12.1 tv7_0
  have tv14_1 := tv_mono hx12.1 tv7_1
  have tv14_2 := tv_mono hx12.1 tv7_2
  have tv14_3 := tv_mono hx12.1 tv7_3
  have tv14_4 := tv_mono hx12.1 tv7_4
  have tv14_5 := tv_mono hx12.1 tv7_5
  have tv14_6 := tv_mono hx12.1 tv7_6
  have tv14_7 := tv_mono hx12.1 tv7_7
  have tv14_8 := tv_mono hx12.1 tv7_8
  have tv14_9 := tv_mono hx12.1 ht5
  have Z15 : fz (sxs a ca ba da s) B B12 := fz_trans Z10 (fz_mono (fun _ q => Or.inl q) hz12)
  show bm_G _ _ _ 38 _ [.int r12, .ref s] B12 _
  refine g_putI (c := 7) (k := 2) (pc' := 41) cd_Se_bear rfl rfl rfl rfl (by simp [tm_okV, narrow, fits]) (Or.inl rfl) rfl (by decide) f13_0 g13_0 ?_
  have P16 : bm_FI (bm_putI B12 7 2 s r12) 7 2 s = r12 := if_pos ⟨rfl, rfl, rfl⟩
  have Z17 : fz (sxs a ca ba da s) B (bm_putI B12 7 2 s r12) := fz_trans Z15 ⟨fr_mono (fun _ q => Or.inr (Or.inl q)) (fr_putI _ 7 2 s _), rfl, rfl⟩
  refine g_ald (pc' := 42) cd_Se_bear rfl (Or.inr ⟨_, rfl, rfl, rfl⟩) l0 rfl rfl ?_
  refine g_fR (c := 7) (k := 0) (x := (s + 1)) (pc' := 45) cd_Se_bear rfl rfl rfl rfl rfl (by decide) f13_0 g13_0 r13_0 ?_
  refine g_ild (pc' := 46) cd_Se_bear rfl (Or.inr ⟨_, rfl, rfl, rfl⟩) l2 rfl ?_
  refine g_putI (c := 2) (k := 2) (pc' := 49) cd_Se_bear rfl rfl rfl rfl (by simp [tm_okV, narrow, fits]) (Or.inl rfl) rfl (by decide) f13_1 g13_1 ?_
  have P18 : bm_FI (bm_putI (bm_putI B12 7 2 s r12) 2 2 (s + 1) p) 2 2 (s + 1) = p := if_pos ⟨rfl, rfl, rfl⟩
  have Z19 : fz (sxs a ca ba da s) B (bm_putI (bm_putI B12 7 2 s r12) 2 2 (s + 1) p) := fz_trans Z17 ⟨fr_mono (fun _ q => Or.inr (Or.inr (Or.inl q))) (fr_putI _ 2 2 (s + 1) _), rfl, rfl⟩
  refine g_ald (pc' := 50) cd_Se_bear rfl (Or.inr ⟨_, rfl, rfl, rfl⟩) l0 rfl rfl ?_
  refine g_k1 (v := 1) (pc' := 51) cd_Se_bear rfl (by decide) rfl ?_
  refine g_putI (c := 7) (k := 7) (pc' := 54) cd_Se_bear rfl rfl rfl rfl (by decide) (Or.inl rfl) rfl (by decide) f13_0 g13_0 ?_
  have P20 : bm_FI (bm_putI (bm_putI (bm_putI B12 7 2 s r12) 2 2 (s + 1) p) 7 7 s 1) 7 7 s = 1 := if_pos ⟨rfl, rfl, rfl⟩
  have Z21 : fz (sxs a ca ba da s) B (bm_putI (bm_putI (bm_putI B12 7 2 s r12) 2 2 (s + 1) p) 7 7 s 1) := fz_trans Z19 ⟨fr_mono (fun _ q => Or.inr (Or.inl q)) (fr_putI _ 7 7 s _), rfl, rfl⟩
  refine g_ald (pc' := 55) cd_Se_bear rfl (Or.inr ⟨_, rfl, rfl, rfl⟩) l0 rfl rfl ?_
  refine g_ild (pc' := 56) cd_Se_bear rfl (Or.inr ⟨_, rfl, rfl, rfl⟩) l2 rfl ?_
  refine g_putI (c := 7) (k := 8) (pc' := 59) cd_Se_bear rfl rfl rfl rfl (by simp [tm_okV, narrow, fits]) (Or.inl rfl) rfl (by decide) f13_0 g13_0 ?_
  have P22 : bm_FI (bm_putI (bm_putI (bm_putI (bm_putI B12 7 2 s r12) 2 2 (s + 1) p) 7 7 s 1) 7 8 s p) 7 8 s = p := if_pos ⟨rfl, rfl, rfl⟩
  have Z23 : fz (sxs a ca ba da s) B (bm_putI (bm_putI (bm_putI (bm_putI B12 7 2 s r12) 2 2 (s + 1) p) 7 7 s 1) 7 8 s p) := fz_trans Z21 ⟨fr_mono (fun _ q => Or.inr (Or.inl q)) (fr_putI _ 7 8 s _), rfl, rfl⟩
  refine g_ald (pc' := 60) cd_Se_bear rfl (Or.inr ⟨_, rfl, rfl, rfl⟩) l0 rfl rfl ?_
  refine g_ild (pc' := 61) cd_Se_bear rfl (Or.inr ⟨_, rfl, rfl, rfl⟩) l3 rfl ?_
  refine g_putI (c := 7) (k := 9) (pc' := 64) cd_Se_bear rfl rfl rfl rfl (by simp [tm_okV, narrow, fits]) (Or.inl rfl) rfl (by decide) f13_0 g13_0 ?_
  have P24 : bm_FI (bm_putI (bm_putI (bm_putI (bm_putI (bm_putI B12 7 2 s r12) 2 2 (s + 1) p) 7 7 s 1) 7 8 s p) 7 9 s o) 7 9 s = o := if_pos ⟨rfl, rfl, rfl⟩
  have Z25 : fz (sxs a ca ba da s) B (bm_putI (bm_putI (bm_putI (bm_putI (bm_putI B12 7 2 s r12) 2 2 (s + 1) p) 7 7 s 1) 7 8 s p) 7 9 s o) := fz_trans Z23 ⟨fr_mono (fun _ q => Or.inr (Or.inl q)) (fr_putI _ 7 9 s _), rfl, rfl⟩
  exact g_retv cd_Se_bear rfl ⟨rfl, (kk _ _ ((hx1.1.trans hx5.1).trans hx12.1) (by omega) hT12 ⟨⟨⟨f13_0, g13_0⟩, r13_0⟩, (RIn_mk (J := (P, I.2)) hR.2.1.1 Z25.1 q13_10 P18 q13_12 q13_13 u13_0 rfl hR.2.1.2.1.2 tv14_6 tv14_5 rfl (fun i e he => ⟨tv_mono ((hx1.1.trans hx5.1).trans hx12.1) (hR.2.1.2.2.2 i e he).1, (hR.2.1.2.2.2 i e he).2.1, tv_mono ((hx1.1.trans hx5.1).trans hx12.1) (hR.2.1.2.2.2 i e he).2.2⟩)), ⟨(tvq q13_0 tv14_0), (tvq P16 ht12), (tvq q13_2 tv14_2), (tvq q13_3 tv14_9)⟩, ⟨q13_6, q13_7⟩, ⟨P20, (fun _ => ⟨tvq P22 tv14_6, tvq P24 tv14_7⟩)⟩, q13_9⟩ Z25)⟩
set_option maxRecDepth 100000 in
theorem t_turnToSend {sc : tm_X} {d : Nat} {a ca ba da rm dr s : Nat} {B : bm_H} {T : List Tm} {I : IB} {xb xr xm xs : Tm} {n b : Int32} {br : Bool} {bp bo : Tm} {on : Bool} {v : Int32} {Q : bm_H → Prop} (hT : TI B a ca ba da rm dr T) (hR : RSe B T s (I, xb, xr, xm, xs, n, b, br, bp, bo, on)) (hn1 : ¬ tcs a ca ba da s) (hn2 : ¬ tcs a ca ba da (s + 1)) (hn3 : ¬ tcs a ca ba da (s + 1 + 1)) (hrm : T.length + 6 < rm) (hdr : dr < 100000) (hk2 : kd (pt I.1 0) = 1) (kk0 : xs ≠ tz → Q B) (kk : ∀ B' T', xs = tz → T <+: T' → T'.length ≤ T.length + 5 → TI B' a ca ba da rm (dr + 1) T' → RSe B' T' s (ss_turn (I, xb, xr, xm, xs, n, b, br, bp, bo, on) (Tsec (nI dr) v 2)) → fz (sxs a ca ba da s) B B' → Q B') : bm_Gv sc (d + 3) 86 [.ref s, .ref a, .int v] B Q := by
  have hc8 := hR.2.1.2.1.2
  show bm_G sc (d + 3) 86 0 [(0, .ref s), (1, .ref a), (2, .int v)] [] B _
  generalize elv : ([(0, .ref s), (1, .ref a), (2, .int v)] : tm_L) = lv
  have l0 : lv.lookup 0 = some (.ref s) := by rw [← elv]; rfl
  have l1 : lv.lookup 1 = some (.ref a) := by rw [← elv]; rfl
  have l2 : lv.lookup 2 = some (.int v) := by rw [← elv]; rfl
  clear elv
  refine g_ald (pc' := 1) cd_Se_turnToSend rfl (Or.inr ⟨_, rfl, rfl, rfl⟩) l0 rfl rfl ?_
  refine g_fI (c := 7) (k := 4) (x := (bm_FI B 7 4 s)) (pc' := 4) cd_Se_turnToSend rfl rfl rfl rfl rfl (by decide) hR.1.1.1 hR.1.1.2 rfl ?_
  refine g_if1 (t := 8) (pc' := 7) cd_Se_turnToSend rfl rfl rfl (fun c4 => ?_) (fun c4 => ?_)
  · have c4 : (bm_FI B 7 4 s) = 0 := c4
    have hse : xs = tz := (TI_0 hT hR.2.2.1.2.2.2).mp c4
    refine g_ald (pc' := 9) cd_Se_turnToSend rfl (Or.inr ⟨_, rfl, rfl, rfl⟩) l0 rfl rfl ?_
    refine g_ald (pc' := 10) cd_Se_turnToSend rfl (Or.inr ⟨_, rfl, rfl, rfl⟩) l0 rfl rfl ?_
    refine g_fI (c := 7) (k := 5) (x := n) (pc' := 13) cd_Se_turnToSend rfl rfl rfl rfl rfl (by decide) hR.1.1.1 hR.1.1.2 hR.2.2.2.1.1 ?_
    refine g_putI (c := 7) (k := 6) (pc' := 16) cd_Se_turnToSend rfl rfl rfl rfl (by simp [tm_okV, narrow, fits]) (Or.inl rfl) rfl (by decide) hR.1.1.1 hR.1.1.2 ?_
    have P26 : bm_FI (bm_putI B 7 6 s n) 7 6 s = n := if_pos ⟨rfl, rfl, rfl⟩
    have Z27 : fz (sxs a ca ba da s) B (bm_putI B 7 6 s n) := fz_trans (fz_rfl _ B) ⟨fr_mono (fun _ q => Or.inr (Or.inl q)) (fr_putI _ 7 6 s _), rfl, rfl⟩
    refine g_ald (pc' := 17) cd_Se_turnToSend rfl (Or.inr ⟨_, rfl, rfl, rfl⟩) l0 rfl rfl ?_
    refine g_k1 (v := 0) (pc' := 18) cd_Se_turnToSend rfl (by decide) rfl ?_
    refine g_putI (c := 7) (k := 5) (pc' := 21) cd_Se_turnToSend rfl rfl rfl rfl (by simp [tm_okV, narrow, fits]) (Or.inl rfl) rfl (by decide) hR.1.1.1 hR.1.1.2 ?_
    have P28 : bm_FI (bm_putI (bm_putI B 7 6 s n) 7 5 s 0) 7 5 s = 0 := if_pos ⟨rfl, rfl, rfl⟩
    have Z29 : fz (sxs a ca ba da s) B (bm_putI (bm_putI B 7 6 s n) 7 5 s 0) := fz_trans Z27 ⟨fr_mono (fun _ q => Or.inr (Or.inl q)) (fr_putI _ 7 5 s _), rfl, rfl⟩
    refine g_ald (pc' := 22) cd_Se_turnToSend rfl (Or.inr ⟨_, rfl, rfl, rfl⟩) l0 rfl rfl ?_
    refine g_ald (pc' := 23) cd_Se_turnToSend rfl (Or.inr ⟨_, rfl, rfl, rfl⟩) l1 rfl rfl ?_
    refine g_ild (pc' := 24) cd_Se_turnToSend rfl (Or.inr ⟨_, rfl, rfl, rfl⟩) l2 rfl ?_
    refine g_k1 (v := 2) (pc' := 25) cd_Se_turnToSend rfl (by decide) rfl ?_
    have hT30 : TI (bm_putI (bm_putI B 7 6 s n) 7 5 s 0) a ca ba da rm dr T := hT
    refine g_calli (pc' := 28) cd_Se_turnToSend rfl rfl rfl rfl rfl (tm_invV rfl rfl cd_Te_secret rfl (Nat.le_of_ble_eq_true rfl) (by decide) hT.1.1.1 hT.1.1.2) (t_secret (xd := v) (xp := 2) hT30 (by omega) (by omega) (fun B31 r31 hx31 ht31 => ?_))
    have hT31 := hx31.2.2.1
    have hl31 := hx31.2.1
    have hf31 := (fz_te hx31.2.2.2).1
    have hz31 := fz_te hx31.2.2.2
    have f32_0 := fr_lt hf31 hR.1.1.1
    have g32_0 := (fr_K hf31 hR.1.1.1).trans hR.1.1.2
    have f32_1 := fr_lt hf31 hR.2.1.1.1.1
    have g32_1 := (fr_K hf31 hR.2.1.1.1.1).trans hR.2.1.1.1.2
    have f32_2 := fr_lt hf31 hR.2.1.1.2.2.1
    have g32_2 := (fr_K hf31 hR.2.1.1.2.2.1).trans hR.2.1.1.2.2.2.1
    have f32_3 := fr_lt hf31 hT.1.1.1
    have g32_3 := (fr_K hf31 hT.1.1.1).trans hT.1.1.2
    have q32_0 : bm_FI B31 7 1 s = (bm_FI B 7 1 s) := (fr_FI hf31 hR.1.1.1 hn1 7 1).trans rfl
    have q32_1 : bm_FI B31 7 2 s = (bm_FI B 7 2 s) := (fr_FI hf31 hR.1.1.1 hn1 7 2).trans rfl
    have q32_2 : bm_FI B31 7 3 s = (bm_FI B 7 3 s) := (fr_FI hf31 hR.1.1.1 hn1 7 3).trans rfl
    have q32_3 : bm_FI B31 7 4 s = (bm_FI B 7 4 s) := (fr_FI hf31 hR.1.1.1 hn1 7 4).trans rfl
    have q32_4 : bm_FI B31 7 8 s = (bm_FI B 7 8 s) := (fr_FI hf31 hR.1.1.1 hn1 7 8).trans rfl
    have q32_5 : bm_FI B31 7 9 s = (bm_FI B 7 9 s) := (fr_FI hf31 hR.1.1.1 hn1 7 9).trans rfl
    have q32_6 : bm_FI B31 7 5 s = 0 := (fr_FI hf31 hR.1.1.1 hn1 7 5).trans P28
    have q32_7 : bm_FI B31 7 6 s = n := (fr_FI hf31 hR.1.1.1 hn1 7 6).trans P26
    have q32_8 : bm_FI B31 7 7 s = bz br := (fr_FI hf31 hR.1.1.1 hn1 7 7).trans hR.2.2.2.2.1.1
    have q32_9 : bm_FI B31 7 10 s = bz on := (fr_FI hf31 hR.1.1.1 hn1 7 10).trans hR.2.2.2.2.2
    have q32_10 : bm_FI B31 2 1 (s + 1) = (nI I.2.2.2.length) := (fr_FI hf31 hR.2.1.1.1.1 hn2 2 1).trans hR.2.1.2.1.1
    have q32_11 : bm_FI B31 2 2 (s + 1) = (bm_FI B 2 2 (s + 1)) := (fr_FI hf31 hR.2.1.1.1.1 hn2 2 2).trans rfl
    have q32_12 : bm_FI B31 2 3 (s + 1) = (bm_FI B 2 3 (s + 1)) := (fr_FI hf31 hR.2.1.1.1.1 hn2 2 3).trans rfl
    have q32_13 : bm_FI B31 2 4 (s + 1) = I.2.2.1 := (fr_FI hf31 hR.2.1.1.1.1 hn2 2 4).trans hR.2.1.2.2.1.2.2
    have r32_0 : bm_FR B31 7 0 s = some (s + 1) := (fr_FR hf31 hR.1.1.1 hn1 7 0).trans hR.1.2
    have r32_1 : bm_FR B31 2 0 (s + 1) = some (s + 1 + 1) := (fr_FR hf31 hR.2.1.1.1.1 hn2 2 0).trans hR.2.1.1.2.1
    have u32_0 : bm_AI B31 (s + 1 + 1) = (bm_AI B (s + 1 + 1)) := (fr_AI hf31 hR.2.1.1.2.2.1 hn3).trans rfl
    have w32_0 : bm_AL B31 (s + 1 + 1) = 24 := (fr_AL hf31 hR.2.1.1.2.2.1).trans hR.2.1.1.2.2.2.2
    have tv33_0 := tv_mono hx31.1 hR.2.2.1.1
    have tv33_1 := tv_mono hx31.1 hR.2.2.1.2.1
    have tv33_2 := tv_mono hx31.1 hR.2.2.1.2.2.1
    have tv33_3 := tv_mono hx31.1 hR.2.2.1.2.2.2
    have tv33_4 := tv_mono hx31.1 hR.2.1.2.2.1.1
    have tv33_5 := tv_mono hx31.1 hR.2.1.2.2.1.2.1
    have Z34 : fz (sxs a ca ba da s) B B31 := fz_trans Z29 (fz_mono (fun _ q => Or.inl q) hz31)
    show bm_G _ _ _ 28 _ [.int r31, .ref s] B31 _
    refine g_putI (c := 7) (k := 3) (pc' := 31) cd_Se_turnToSend rfl rfl rfl rfl (by simp [tm_okV, narrow, fits]) (Or.inl rfl) rfl (by decide) f32_0 g32_0 ?_
    have P35 : bm_FI (bm_putI B31 7 3 s r31) 7 3 s = r31 := if_pos ⟨rfl, rfl, rfl⟩
    have Z36 : fz (sxs a ca ba da s) B (bm_putI B31 7 3 s r31) := fz_trans Z34 ⟨fr_mono (fun _ q => Or.inr (Or.inl q)) (fr_putI _ 7 3 s _), rfl, rfl⟩
    refine g_ald (pc' := 32) cd_Se_turnToSend rfl (Or.inr ⟨_, rfl, rfl, rfl⟩) l1 rfl rfl ?_
    refine g_ald (pc' := 33) cd_Se_turnToSend rfl (Or.inr ⟨_, rfl, rfl, rfl⟩) l0 rfl rfl ?_
    refine g_fI (c := 7) (k := 3) (x := r31) (pc' := 36) cd_Se_turnToSend rfl rfl rfl rfl rfl (by decide) f32_0 g32_0 P35 ?_
    refine g_ald (pc' := 37) cd_Se_turnToSend rfl (Or.inr ⟨_, rfl, rfl, rfl⟩) l0 rfl rfl ?_
    refine g_fR (c := 7) (k := 0) (x := (s + 1)) (pc' := 40) cd_Se_turnToSend rfl rfl rfl rfl rfl (by decide) f32_0 g32_0 r32_0 ?_
    refine g_fI (c := 2) (k := 2) (x := (bm_FI B 2 2 (s + 1))) (pc' := 43) cd_Se_turnToSend rfl rfl rfl rfl rfl (by decide) f32_1 g32_1 q32_11 ?_
    have hT37 : TI (bm_putI B31 7 3 s r31) a ca ba da rm (dr + 1) (T ++ [Tsec (nI dr) v 2, Tpub (Tsec (nI dr) v 2)]) := hT31
    refine g_calli (pc' := 46) cd_Se_turnToSend rfl rfl rfl rfl rfl (tm_invV rfl rfl cd_Te_shared rfl (Nat.le_of_ble_eq_true rfl) (by decide) f32_3 g32_3) (t_shared hT37 (by omega) ht31 tv33_4 rfl hk2 (fun B38 T38 r38 hx38 ht38 => ?_))
    have hT38 := hx38.2.2.1
    have hl38 := hx38.2.1
    have hf38 := (fz_te hx38.2.2.2).1
    have hz38 := fz_te hx38.2.2.2
    have f39_0 := fr_lt hf38 f32_0
    have g39_0 := (fr_K hf38 f32_0).trans g32_0
    have f39_1 := fr_lt hf38 f32_1
    have g39_1 := (fr_K hf38 f32_1).trans g32_1
    have f39_2 := fr_lt hf38 f32_2
    have g39_2 := (fr_K hf38 f32_2).trans g32_2
    have f39_3 := fr_lt hf38 f32_3
    have g39_3 := (fr_K hf38 f32_3).trans g32_3
    have q39_0 : bm_FI B38 7 1 s = (bm_FI B 7 1 s) := (fr_FI hf38 f32_0 hn1 7 1).trans q32_0
    have q39_1 : bm_FI B38 7 2 s = (bm_FI B 7 2 s) := (fr_FI hf38 f32_0 hn1 7 2).trans q32_1
    have q39_2 : bm_FI B38 7 3 s = r31 := (fr_FI hf38 f32_0 hn1 7 3).trans P35
    have q39_3 : bm_FI B38 7 4 s = (bm_FI B 7 4 s) := (fr_FI hf38 f32_0 hn1 7 4).trans q32_3
    have q39_4 : bm_FI B38 7 8 s = (bm_FI B 7 8 s) := (fr_FI hf38 f32_0 hn1 7 8).trans q32_4
    have q39_5 : bm_FI B38 7 9 s = (bm_FI B 7 9 s) := (fr_FI hf38 f32_0 hn1 7 9).trans q32_5
    have q39_6 : bm_FI B38 7 5 s = 0 := (fr_FI hf38 f32_0 hn1 7 5).trans q32_6
    have q39_7 : bm_FI B38 7 6 s = n := (fr_FI hf38 f32_0 hn1 7 6).trans q32_7
    have q39_8 : bm_FI B38 7 7 s = bz br := (fr_FI hf38 f32_0 hn1 7 7).trans q32_8
    have q39_9 : bm_FI B38 7 10 s = bz on := (fr_FI hf38 f32_0 hn1 7 10).trans q32_9
    have q39_10 : bm_FI B38 2 1 (s + 1) = (nI I.2.2.2.length) := (fr_FI hf38 f32_1 hn2 2 1).trans q32_10
    have q39_11 : bm_FI B38 2 2 (s + 1) = (bm_FI B 2 2 (s + 1)) := (fr_FI hf38 f32_1 hn2 2 2).trans q32_11
    have q39_12 : bm_FI B38 2 3 (s + 1) = (bm_FI B 2 3 (s + 1)) := (fr_FI hf38 f32_1 hn2 2 3).trans q32_12
    have q39_13 : bm_FI B38 2 4 (s + 1) = I.2.2.1 := (fr_FI hf38 f32_1 hn2 2 4).trans q32_13
    have r39_0 : bm_FR B38 7 0 s = some (s + 1) := (fr_FR hf38 f32_0 hn1 7 0).trans r32_0
    have r39_1 : bm_FR B38 2 0 (s + 1) = some (s + 1 + 1) := (fr_FR hf38 f32_1 hn2 2 0).trans r32_1
    have u39_0 : bm_AI B38 (s + 1 + 1) = (bm_AI B (s + 1 + 1)) := (fr_AI hf38 f32_2 hn3).trans u32_0
    have w39_0 : bm_AL B38 (s + 1 + 1) = 24 := (fr_AL hf38 f32_2).trans w32_0
    have tv40_0 := tv_mono hx38.1 tv33_0
    have tv40_1 := tv_mono hx38.1 tv33_1
    have tv40_2 := tv_mono hx38.1 tv33_2
    have tv40_3 := tv_mono hx38.1 tv33_3
    have tv40_4 := tv_mono hx38.1 tv33_4
    have tv40_5 := tv_mono hx38.1 tv33_5
    have tv40_6 := tv_mono hx38.1 ht31
    have Z41 : fz (sxs a ca ba da s) B B38 := fz_trans Z36 (fz_mono (fun _ q => Or.inl q) hz38)
    show bm_G _ _ _ 46 _ [.int r38] B38 _
    refine g_ist (pc' := 47) cd_Se_turnToSend rfl (Or.inr ⟨_, rfl, rfl, rfl⟩) (by decide) rfl (fun lv el => ?_)
    have l0 := tm_lk el l0 rfl (by decide)
    have l1 := tm_lk el l1 rfl (by decide)
    have l2 := tm_lk el l2 rfl (by decide)
    have l3 : lv.lookup 3 = some (.int r38) := tm_lks el
    clear el
    refine g_ald (pc' := 48) cd_Se_turnToSend rfl (Or.inr ⟨_, rfl, rfl, rfl⟩) l0 rfl rfl ?_
    refine g_ald (pc' := 49) cd_Se_turnToSend rfl (Or.inr ⟨_, rfl, rfl, rfl⟩) l1 rfl rfl ?_
    refine g_k1 (v := 5) (pc' := 50) cd_Se_turnToSend rfl (by decide) rfl ?_
    refine g_ald (pc' := 51) cd_Se_turnToSend rfl (Or.inr ⟨_, rfl, rfl, rfl⟩) l0 rfl rfl ?_
    refine g_fI (c := 7) (k := 2) (x := (bm_FI B 7 2 s)) (pc' := 54) cd_Se_turnToSend rfl rfl rfl rfl rfl (by decide) f39_0 g39_0 q39_1 ?_
    refine g_ild (pc' := 55) cd_Se_turnToSend rfl (Or.inr ⟨_, rfl, rfl, rfl⟩) l3 rfl ?_
    refine g_calli (pc' := 58) cd_Se_turnToSend rfl rfl rfl rfl rfl (tm_invV rfl rfl cd_Te_mix rfl (Nat.le_of_ble_eq_true rfl) (by decide) f39_3 g39_3) (t_mix (n := 5) hT38 (by omega) tv40_1 ht38 (fun B42 T42 r42 hx42 ht42 => ?_))
    have hT42 := hx42.2.2.1
    have hl42 := hx42.2.1
    have hf42 := (fz_te hx42.2.2.2).1
    have hz42 := fz_te hx42.2.2.2
    have f43_0 := fr_lt hf42 f39_0
    have g43_0 := (fr_K hf42 f39_0).trans g39_0
    have f43_1 := fr_lt hf42 f39_1
    have g43_1 := (fr_K hf42 f39_1).trans g39_1
    have f43_2 := fr_lt hf42 f39_2
    have g43_2 := (fr_K hf42 f39_2).trans g39_2
    have f43_3 := fr_lt hf42 f39_3
    have g43_3 := (fr_K hf42 f39_3).trans g39_3
    have q43_0 : bm_FI B42 7 1 s = (bm_FI B 7 1 s) := (fr_FI hf42 f39_0 hn1 7 1).trans q39_0
    have q43_1 : bm_FI B42 7 2 s = (bm_FI B 7 2 s) := (fr_FI hf42 f39_0 hn1 7 2).trans q39_1
    have q43_2 : bm_FI B42 7 3 s = r31 := (fr_FI hf42 f39_0 hn1 7 3).trans q39_2
    have q43_3 : bm_FI B42 7 4 s = (bm_FI B 7 4 s) := (fr_FI hf42 f39_0 hn1 7 4).trans q39_3
    have q43_4 : bm_FI B42 7 8 s = (bm_FI B 7 8 s) := (fr_FI hf42 f39_0 hn1 7 8).trans q39_4
    have q43_5 : bm_FI B42 7 9 s = (bm_FI B 7 9 s) := (fr_FI hf42 f39_0 hn1 7 9).trans q39_5
    have q43_6 : bm_FI B42 7 5 s = 0 := (fr_FI hf42 f39_0 hn1 7 5).trans q39_6
    have q43_7 : bm_FI B42 7 6 s = n := (fr_FI hf42 f39_0 hn1 7 6).trans q39_7
    have q43_8 : bm_FI B42 7 7 s = bz br := (fr_FI hf42 f39_0 hn1 7 7).trans q39_8
    have q43_9 : bm_FI B42 7 10 s = bz on := (fr_FI hf42 f39_0 hn1 7 10).trans q39_9
    have q43_10 : bm_FI B42 2 1 (s + 1) = (nI I.2.2.2.length) := (fr_FI hf42 f39_1 hn2 2 1).trans q39_10
    have q43_11 : bm_FI B42 2 2 (s + 1) = (bm_FI B 2 2 (s + 1)) := (fr_FI hf42 f39_1 hn2 2 2).trans q39_11
    have q43_12 : bm_FI B42 2 3 (s + 1) = (bm_FI B 2 3 (s + 1)) := (fr_FI hf42 f39_1 hn2 2 3).trans q39_12
    have q43_13 : bm_FI B42 2 4 (s + 1) = I.2.2.1 := (fr_FI hf42 f39_1 hn2 2 4).trans q39_13
    have r43_0 : bm_FR B42 7 0 s = some (s + 1) := (fr_FR hf42 f39_0 hn1 7 0).trans r39_0
    have r43_1 : bm_FR B42 2 0 (s + 1) = some (s + 1 + 1) := (fr_FR hf42 f39_1 hn2 2 0).trans r39_1
    have u43_0 : bm_AI B42 (s + 1 + 1) = (bm_AI B (s + 1 + 1)) := (fr_AI hf42 f39_2 hn3).trans u39_0
    have w43_0 : bm_AL B42 (s + 1 + 1) = 24 := (fr_AL hf42 f39_2).trans w39_0
    have tv44_0 := tv_mono hx42.1 tv40_0
    have tv44_1 := tv_mono hx42.1 tv40_1
    have tv44_2 := tv_mono hx42.1 tv40_2
    have tv44_3 := tv_mono hx42.1 tv40_3
    have tv44_4 := tv_mono hx42.1 tv40_4
    have tv44_5 := tv_mono hx42.1 tv40_5
    have tv44_6 := tv_mono hx42.1 tv40_6
    have tv44_7 := tv_mono hx42.1 ht38
    have Z45 : fz (sxs a ca ba da s) B B42 := fz_trans Z41 (fz_mono (fun _ q => Or.inl q) hz42)
    show bm_G _ _ _ 58 _ [.int r42, .ref s] B42 _
    refine g_putI (c := 7) (k := 4) (pc' := 61) cd_Se_turnToSend rfl rfl rfl rfl (by simp [tm_okV, narrow, fits]) (Or.inl rfl) rfl (by decide) f43_0 g43_0 ?_
    have P46 : bm_FI (bm_putI B42 7 4 s r42) 7 4 s = r42 := if_pos ⟨rfl, rfl, rfl⟩
    have Z47 : fz (sxs a ca ba da s) B (bm_putI B42 7 4 s r42) := fz_trans Z45 ⟨fr_mono (fun _ q => Or.inr (Or.inl q)) (fr_putI _ 7 4 s _), rfl, rfl⟩
    refine g_ald (pc' := 62) cd_Se_turnToSend rfl (Or.inr ⟨_, rfl, rfl, rfl⟩) l0 rfl rfl ?_
    refine g_ald (pc' := 63) cd_Se_turnToSend rfl (Or.inr ⟨_, rfl, rfl, rfl⟩) l1 rfl rfl ?_
    refine g_k1 (v := 4) (pc' := 64) cd_Se_turnToSend rfl (by decide) rfl ?_
    refine g_ald (pc' := 65) cd_Se_turnToSend rfl (Or.inr ⟨_, rfl, rfl, rfl⟩) l0 rfl rfl ?_
    refine g_fI (c := 7) (k := 2) (x := (bm_FI B 7 2 s)) (pc' := 68) cd_Se_turnToSend rfl rfl rfl rfl rfl (by decide) f43_0 g43_0 q43_1 ?_
    refine g_ild (pc' := 69) cd_Se_turnToSend rfl (Or.inr ⟨_, rfl, rfl, rfl⟩) l3 rfl ?_
    have hT48 : TI (bm_putI B42 7 4 s r42) a ca ba da rm (dr + 1) T42 := hT42
    refine g_calli (pc' := 72) cd_Se_turnToSend rfl rfl rfl rfl rfl (tm_invV rfl rfl cd_Te_mix rfl (Nat.le_of_ble_eq_true rfl) (by decide) f43_3 g43_3) (t_mix (n := 4) hT48 (by omega) tv44_1 tv44_7 (fun B49 T49 r49 hx49 ht49 => ?_))
    have hT49 := hx49.2.2.1
    have hl49 := hx49.2.1
    have hf49 := (fz_te hx49.2.2.2).1
    have hz49 := fz_te hx49.2.2.2
    have f50_0 := fr_lt hf49 f43_0
    have g50_0 := (fr_K hf49 f43_0).trans g43_0
    have f50_1 := fr_lt hf49 f43_1
    have g50_1 := (fr_K hf49 f43_1).trans g43_1
    have f50_2 := fr_lt hf49 f43_2
    have g50_2 := (fr_K hf49 f43_2).trans g43_2
    have f50_3 := fr_lt hf49 f43_3
    have g50_3 := (fr_K hf49 f43_3).trans g43_3
    have q50_0 : bm_FI B49 7 1 s = (bm_FI B 7 1 s) := (fr_FI hf49 f43_0 hn1 7 1).trans q43_0
    have q50_1 : bm_FI B49 7 2 s = (bm_FI B 7 2 s) := (fr_FI hf49 f43_0 hn1 7 2).trans q43_1
    have q50_2 : bm_FI B49 7 3 s = r31 := (fr_FI hf49 f43_0 hn1 7 3).trans q43_2
    have q50_3 : bm_FI B49 7 4 s = r42 := (fr_FI hf49 f43_0 hn1 7 4).trans P46
    have q50_4 : bm_FI B49 7 8 s = (bm_FI B 7 8 s) := (fr_FI hf49 f43_0 hn1 7 8).trans q43_4
    have q50_5 : bm_FI B49 7 9 s = (bm_FI B 7 9 s) := (fr_FI hf49 f43_0 hn1 7 9).trans q43_5
    have q50_6 : bm_FI B49 7 5 s = 0 := (fr_FI hf49 f43_0 hn1 7 5).trans q43_6
    have q50_7 : bm_FI B49 7 6 s = n := (fr_FI hf49 f43_0 hn1 7 6).trans q43_7
    have q50_8 : bm_FI B49 7 7 s = bz br := (fr_FI hf49 f43_0 hn1 7 7).trans q43_8
    have q50_9 : bm_FI B49 7 10 s = bz on := (fr_FI hf49 f43_0 hn1 7 10).trans q43_9
    have q50_10 : bm_FI B49 2 1 (s + 1) = (nI I.2.2.2.length) := (fr_FI hf49 f43_1 hn2 2 1).trans q43_10
    have q50_11 : bm_FI B49 2 2 (s + 1) = (bm_FI B 2 2 (s + 1)) := (fr_FI hf49 f43_1 hn2 2 2).trans q43_11
    have q50_12 : bm_FI B49 2 3 (s + 1) = (bm_FI B 2 3 (s + 1)) := (fr_FI hf49 f43_1 hn2 2 3).trans q43_12
    have q50_13 : bm_FI B49 2 4 (s + 1) = I.2.2.1 := (fr_FI hf49 f43_1 hn2 2 4).trans q43_13
    have r50_0 : bm_FR B49 7 0 s = some (s + 1) := (fr_FR hf49 f43_0 hn1 7 0).trans r43_0
    have r50_1 : bm_FR B49 2 0 (s + 1) = some (s + 1 + 1) := (fr_FR hf49 f43_1 hn2 2 0).trans r43_1
    have u50_0 : bm_AI B49 (s + 1 + 1) = (bm_AI B (s + 1 + 1)) := (fr_AI hf49 f43_2 hn3).trans u43_0
    have w50_0 : bm_AL B49 (s + 1 + 1) = 24 := (fr_AL hf49 f43_2).trans w43_0
    have tv51_0 := tv_mono hx49.1 tv44_0
    have tv51_1 := tv_mono hx49.1 tv44_1
    have tv51_2 := tv_mono hx49.1 tv44_2
    have tv51_3 := tv_mono hx49.1 tv44_3
    have tv51_4 := tv_mono hx49.1 tv44_4
    have tv51_5 := tv_mono hx49.1 tv44_5
    have tv51_6 := tv_mono hx49.1 tv44_6
    have tv51_7 := tv_mono hx49.1 tv44_7
    have tv51_8 := tv_mono hx49.1 ht42
    have Z52 : fz (sxs a ca ba da s) B B49 := fz_trans Z47 (fz_mono (fun _ q => Or.inl q) hz49)
    show bm_G _ _ _ 72 _ [.int r49, .ref s] B49 _
    refine g_putI (c := 7) (k := 2) (pc' := 75) cd_Se_turnToSend rfl rfl rfl rfl (by simp [tm_okV, narrow, fits]) (Or.inl rfl) rfl (by decide) f50_0 g50_0 ?_
    have P53 : bm_FI (bm_putI B49 7 2 s r49) 7 2 s = r49 := if_pos ⟨rfl, rfl, rfl⟩
    have Z54 : fz (sxs a ca ba da s) B (bm_putI B49 7 2 s r49) := fz_trans Z52 ⟨fr_mono (fun _ q => Or.inr (Or.inl q)) (fr_putI _ 7 2 s _), rfl, rfl⟩
    exact g_retv cd_Se_turnToSend rfl ⟨rfl, (kk _ _ hse (((hx31.1.trans hx38.1).trans hx42.1).trans hx49.1) (by simp at *; omega) hT49 (by rw [ss_turn_t hse]; exact ⟨⟨⟨f50_0, g50_0⟩, r50_0⟩, (RIn_mk (J := I) hR.2.1.1 Z54.1 q50_10 q50_11 q50_12 q50_13 u50_0 rfl hR.2.1.2.1.2 tv51_4 tv51_5 rfl (fun i e he => ⟨tv_mono (((hx31.1.trans hx38.1).trans hx42.1).trans hx49.1) (hR.2.1.2.2.2 i e he).1, (hR.2.1.2.2.2 i e he).2.1, tv_mono (((hx31.1.trans hx38.1).trans hx42.1).trans hx49.1) (hR.2.1.2.2.2 i e he).2.2⟩)), ⟨(tvq q50_0 tv51_0), (tvq P53 ht49), (tvq q50_2 tv51_6), (tvq q50_3 tv51_8)⟩, ⟨q50_6, q50_7⟩, ⟨q50_8, (fun q => ⟨tvq q50_4 (tv_mono (((hx31.1.trans hx38.1).trans hx42.1).trans hx49.1) (hR.2.2.2.2.1.2 q).1), tvq q50_5 (tv_mono (((hx31.1.trans hx38.1).trans hx42.1).trans hx49.1) (hR.2.2.2.2.1.2 q).2)⟩)⟩, q50_9⟩) Z54)⟩
  · have c4 : ¬ (bm_FI B 7 4 s) = 0 := c4
    exact g_retv cd_Se_turnToSend rfl ⟨rfl, (kk0 (fun q => c4 ((TI_0 hT hR.2.2.1.2.2.2).mpr q)))⟩
set_option maxRecDepth 100000 in
theorem t_nextWire {sc : tm_X} {d : Nat} {a ca ba da rm dr s : Nat} {B : bm_H} {T : List Tm} {I : IB} {xb xr xm xs : Tm} {n b : Int32} {br : Bool} {bp bo : Tm} {on : Bool} {v w y : Int32} {Y : Tm} {Q : Int32 → bm_H → Prop} (hT : TI B a ca ba da rm dr T) (hR : RSe B T s (I, xb, xr, xm, xs, n, b, br, bp, bo, on)) (hn1 : ¬ tcs a ca ba da s) (hn2 : ¬ tcs a ca ba da (s + 1)) (hn3 : ¬ tcs a ca ba da (s + 1 + 1)) (hrm : T.length + 4 < rm) (hy : tv T y Y) (hk1 : kd xm = 1) (kk : ∀ B' T' r, T <+: T' → T'.length ≤ T.length + 4 → TI B' a ca ba da rm dr T' → tv T' r (ss_wire (I, xb, xr, xm, xs, n, b, br, bp, bo, on) v w Y) → RSe B' T' s (ss_sent (I, xb, xr, xm, xs, n, b, br, bp, bo, on)) → fz (sxs a ca ba da s) B B' → Q r B') : bm_Gi sc (d + 3) 88 [.ref s, .ref a, .int v, .int w, .int y] B Q := by
  have hc8 := hR.2.1.2.1.2
  show bm_G sc (d + 3) 88 0 [(0, .ref s), (1, .ref a), (2, .int v), (3, .int w), (4, .int y)] [] B _
  generalize elv : ([(0, .ref s), (1, .ref a), (2, .int v), (3, .int w), (4, .int y)] : tm_L) = lv
  have l0 : lv.lookup 0 = some (.ref s) := by rw [← elv]; rfl
  have l1 : lv.lookup 1 = some (.ref a) := by rw [← elv]; rfl
  have l2 : lv.lookup 2 = some (.int v) := by rw [← elv]; rfl
  have l3 : lv.lookup 3 = some (.int w) := by rw [← elv]; rfl
  have l4 : lv.lookup 4 = some (.int y) := by rw [← elv]; rfl
  clear elv
  refine g_ald (pc' := 1) cd_Se_nextWire rfl (Or.inr ⟨_, rfl, rfl, rfl⟩) l0 rfl rfl ?_
  refine g_fI (c := 7) (k := 7) (x := bz br) (pc' := 4) cd_Se_nextWire rfl rfl rfl rfl rfl (by decide) hR.1.1.1 hR.1.1.2 hR.2.2.2.2.1.1 ?_
  refine g_if1 (t := 14) (pc' := 7) cd_Se_nextWire rfl rfl rfl (fun c4 => ?_) (fun c4 => ?_)
  · have c4 : br = false := bz_f c4
    have hbr : br = false := c4
    refine g_k1 (v := 0) (pc' := 15) cd_Se_nextWire rfl (by decide) rfl ?_
    refine g_ist (pc' := 17) cd_Se_nextWire rfl (Or.inl ⟨rfl, rfl⟩) (by decide) rfl (fun lv el => ?_)
    have l0 := tm_lk el l0 rfl (by decide)
    have l1 := tm_lk el l1 rfl (by decide)
    have l2 := tm_lk el l2 rfl (by decide)
    have l3 := tm_lk el l3 rfl (by decide)
    have l4 := tm_lk el l4 rfl (by decide)
    have l5 : lv.lookup 5 = some (.int 0) := tm_lks el
    clear el
    refine g_ald (pc' := 18) cd_Se_nextWire rfl (Or.inr ⟨_, rfl, rfl, rfl⟩) l0 rfl rfl ?_
    refine g_fI (c := 7) (k := 7) (x := bz br) (pc' := 21) cd_Se_nextWire rfl rfl rfl rfl rfl (by decide) hR.1.1.1 hR.1.1.2 hR.2.2.2.2.1.1 ?_
    refine g_if1 (t := 31) (pc' := 24) cd_Se_nextWire rfl rfl rfl (fun c21 => ?_) (fun c21 => ?_)
    · have c21 : br = false := bz_f c21
      refine g_k1 (v := 0) (pc' := 32) cd_Se_nextWire rfl (by decide) rfl ?_
      refine g_ist (pc' := 34) cd_Se_nextWire rfl (Or.inl ⟨rfl, rfl⟩) (by decide) rfl (fun lv el => ?_)
      have l0 := tm_lk el l0 rfl (by decide)
      have l1 := tm_lk el l1 rfl (by decide)
      have l2 := tm_lk el l2 rfl (by decide)
      have l3 := tm_lk el l3 rfl (by decide)
      have l4 := tm_lk el l4 rfl (by decide)
      have l5 := tm_lk el l5 rfl (by decide)
      have l6 : lv.lookup 6 = some (.int 0) := tm_lks el
      clear el
      refine g_ald (pc' := 35) cd_Se_nextWire rfl (Or.inr ⟨_, rfl, rfl, rfl⟩) l1 rfl rfl ?_
      refine g_k1 (v := 3) (pc' := 36) cd_Se_nextWire rfl (by decide) rfl ?_
      refine g_ild (pc' := 37) cd_Se_nextWire rfl (Or.inr ⟨_, rfl, rfl, rfl⟩) l2 rfl ?_
      refine g_ild (pc' := 38) cd_Se_nextWire rfl (Or.inr ⟨_, rfl, rfl, rfl⟩) l3 rfl ?_
      refine g_ald (pc' := 39) cd_Se_nextWire rfl (Or.inr ⟨_, rfl, rfl, rfl⟩) l0 rfl rfl ?_
      refine g_fI (c := 7) (k := 5) (x := n) (pc' := 42) cd_Se_nextWire rfl rfl rfl rfl rfl (by decide) hR.1.1.1 hR.1.1.2 hR.2.2.2.1.1 ?_
      refine g_ald (pc' := 43) cd_Se_nextWire rfl (Or.inr ⟨_, rfl, rfl, rfl⟩) l0 rfl rfl ?_
      refine g_fI (c := 7) (k := 6) (x := b) (pc' := 46) cd_Se_nextWire rfl rfl rfl rfl rfl (by decide) hR.1.1.1 hR.1.1.2 hR.2.2.2.1.2 ?_
      refine g_callv (pc' := 49) cd_Se_nextWire rfl rfl rfl rfl rfl (tm_invV rfl rfl cd_Te_startRow rfl (Nat.le_of_ble_eq_true rfl) (by decide) hT.1.1.1 hT.1.1.2) (t_startRow hT ?_)
      have f55_0 := fr_lt (fz_te (tt_draft_fr B a ca ba da 3 v w n b)).1 hR.1.1.1
      have g55_0 := (fr_K (fz_te (tt_draft_fr B a ca ba da 3 v w n b)).1 hR.1.1.1).trans hR.1.1.2
      have f55_1 := fr_lt (fz_te (tt_draft_fr B a ca ba da 3 v w n b)).1 hR.2.1.1.1.1
      have g55_1 := (fr_K (fz_te (tt_draft_fr B a ca ba da 3 v w n b)).1 hR.2.1.1.1.1).trans hR.2.1.1.1.2
      have f55_2 := fr_lt (fz_te (tt_draft_fr B a ca ba da 3 v w n b)).1 hR.2.1.1.2.2.1
      have g55_2 := (fr_K (fz_te (tt_draft_fr B a ca ba da 3 v w n b)).1 hR.2.1.1.2.2.1).trans hR.2.1.1.2.2.2.1
      have f55_3 := fr_lt (fz_te (tt_draft_fr B a ca ba da 3 v w n b)).1 hT.1.1.1
      have g55_3 := (fr_K (fz_te (tt_draft_fr B a ca ba da 3 v w n b)).1 hT.1.1.1).trans hT.1.1.2
      have q55_0 : bm_FI (tt_draft B da 3 v w n b) 7 1 s = (bm_FI B 7 1 s) := (fr_FI (fz_te (tt_draft_fr B a ca ba da 3 v w n b)).1 hR.1.1.1 hn1 7 1).trans rfl
      have q55_1 : bm_FI (tt_draft B da 3 v w n b) 7 2 s = (bm_FI B 7 2 s) := (fr_FI (fz_te (tt_draft_fr B a ca ba da 3 v w n b)).1 hR.1.1.1 hn1 7 2).trans rfl
      have q55_2 : bm_FI (tt_draft B da 3 v w n b) 7 3 s = (bm_FI B 7 3 s) := (fr_FI (fz_te (tt_draft_fr B a ca ba da 3 v w n b)).1 hR.1.1.1 hn1 7 3).trans rfl
      have q55_3 : bm_FI (tt_draft B da 3 v w n b) 7 4 s = (bm_FI B 7 4 s) := (fr_FI (fz_te (tt_draft_fr B a ca ba da 3 v w n b)).1 hR.1.1.1 hn1 7 4).trans rfl
      have q55_4 : bm_FI (tt_draft B da 3 v w n b) 7 8 s = (bm_FI B 7 8 s) := (fr_FI (fz_te (tt_draft_fr B a ca ba da 3 v w n b)).1 hR.1.1.1 hn1 7 8).trans rfl
      have q55_5 : bm_FI (tt_draft B da 3 v w n b) 7 9 s = (bm_FI B 7 9 s) := (fr_FI (fz_te (tt_draft_fr B a ca ba da 3 v w n b)).1 hR.1.1.1 hn1 7 9).trans rfl
      have q55_6 : bm_FI (tt_draft B da 3 v w n b) 7 5 s = n := (fr_FI (fz_te (tt_draft_fr B a ca ba da 3 v w n b)).1 hR.1.1.1 hn1 7 5).trans hR.2.2.2.1.1
      have q55_7 : bm_FI (tt_draft B da 3 v w n b) 7 6 s = b := (fr_FI (fz_te (tt_draft_fr B a ca ba da 3 v w n b)).1 hR.1.1.1 hn1 7 6).trans hR.2.2.2.1.2
      have q55_8 : bm_FI (tt_draft B da 3 v w n b) 7 7 s = bz br := (fr_FI (fz_te (tt_draft_fr B a ca ba da 3 v w n b)).1 hR.1.1.1 hn1 7 7).trans hR.2.2.2.2.1.1
      have q55_9 : bm_FI (tt_draft B da 3 v w n b) 7 10 s = bz on := (fr_FI (fz_te (tt_draft_fr B a ca ba da 3 v w n b)).1 hR.1.1.1 hn1 7 10).trans hR.2.2.2.2.2
      have q55_10 : bm_FI (tt_draft B da 3 v w n b) 2 1 (s + 1) = (nI I.2.2.2.length) := (fr_FI (fz_te (tt_draft_fr B a ca ba da 3 v w n b)).1 hR.2.1.1.1.1 hn2 2 1).trans hR.2.1.2.1.1
      have q55_11 : bm_FI (tt_draft B da 3 v w n b) 2 2 (s + 1) = (bm_FI B 2 2 (s + 1)) := (fr_FI (fz_te (tt_draft_fr B a ca ba da 3 v w n b)).1 hR.2.1.1.1.1 hn2 2 2).trans rfl
      have q55_12 : bm_FI (tt_draft B da 3 v w n b) 2 3 (s + 1) = (bm_FI B 2 3 (s + 1)) := (fr_FI (fz_te (tt_draft_fr B a ca ba da 3 v w n b)).1 hR.2.1.1.1.1 hn2 2 3).trans rfl
      have q55_13 : bm_FI (tt_draft B da 3 v w n b) 2 4 (s + 1) = I.2.2.1 := (fr_FI (fz_te (tt_draft_fr B a ca ba da 3 v w n b)).1 hR.2.1.1.1.1 hn2 2 4).trans hR.2.1.2.2.1.2.2
      have r55_0 : bm_FR (tt_draft B da 3 v w n b) 7 0 s = some (s + 1) := (fr_FR (fz_te (tt_draft_fr B a ca ba da 3 v w n b)).1 hR.1.1.1 hn1 7 0).trans hR.1.2
      have r55_1 : bm_FR (tt_draft B da 3 v w n b) 2 0 (s + 1) = some (s + 1 + 1) := (fr_FR (fz_te (tt_draft_fr B a ca ba da 3 v w n b)).1 hR.2.1.1.1.1 hn2 2 0).trans hR.2.1.1.2.1
      have u55_0 : bm_AI (tt_draft B da 3 v w n b) (s + 1 + 1) = (bm_AI B (s + 1 + 1)) := (fr_AI (fz_te (tt_draft_fr B a ca ba da 3 v w n b)).1 hR.2.1.1.2.2.1 hn3).trans rfl
      have w55_0 : bm_AL (tt_draft B da 3 v w n b) (s + 1 + 1) = 24 := (fr_AL (fz_te (tt_draft_fr B a ca ba da 3 v w n b)).1 hR.2.1.1.2.2.1).trans hR.2.1.1.2.2.2.2
      show bm_G _ _ _ 49 _ [] (tt_draft B da 3 v w n b) _
      refine g_ald (pc' := 50) cd_Se_nextWire rfl (Or.inr ⟨_, rfl, rfl, rfl⟩) l1 rfl rfl ?_
      refine g_ald (pc' := 51) cd_Se_nextWire rfl (Or.inr ⟨_, rfl, rfl, rfl⟩) l0 rfl rfl ?_
      refine g_fI (c := 7) (k := 1) (x := (bm_FI B 7 1 s)) (pc' := 54) cd_Se_nextWire rfl rfl rfl rfl rfl (by decide) f55_0 g55_0 q55_0 ?_
      refine g_ald (pc' := 55) cd_Se_nextWire rfl (Or.inr ⟨_, rfl, rfl, rfl⟩) l1 rfl rfl ?_
      refine g_ald (pc' := 56) cd_Se_nextWire rfl (Or.inr ⟨_, rfl, rfl, rfl⟩) l0 rfl rfl ?_
      refine g_fI (c := 7) (k := 3) (x := (bm_FI B 7 3 s)) (pc' := 59) cd_Se_nextWire rfl rfl rfl rfl rfl (by decide) f55_0 g55_0 q55_2 ?_
      refine g_calli (pc' := 62) cd_Se_nextWire rfl rfl rfl rfl rfl (tm_invV rfl rfl cd_Te_publicOf rfl (Nat.le_of_ble_eq_true rfl) (by decide) f55_3 g55_3) (t_publicOf (tt_draft_TI hT) hR.2.2.1.2.2.1 (fun r56 ht56 => ?_))
      rw [if_pos hk1] at ht56
      show bm_G _ _ _ 62 _ [.int r56, .int ((bm_FI B 7 1 s)), .ref a] (tt_draft B da 3 v w n b) _
      refine g_ild (pc' := 64) cd_Se_nextWire rfl (Or.inl ⟨rfl, rfl⟩) l5 rfl ?_
      refine g_ild (pc' := 66) cd_Se_nextWire rfl (Or.inl ⟨rfl, rfl⟩) l6 rfl ?_
      refine g_calli (pc' := 69) cd_Se_nextWire rfl rfl rfl rfl rfl (tm_invV rfl rfl cd_Te_endRow rfl (Nat.le_of_ble_eq_true rfl) (by decide) f55_3 g55_3) (t_endRow hT (by omega) hR.2.2.1.1 ht56 (TI_z hT) (TI_z hT) (fun B57 T57 r57 hx57 ht57 => ?_))
      have hT57 := hx57.2.2.1
      have hl57 := hx57.2.1
      have hf57 := (fz_te hx57.2.2.2).1
      have hz57 := fz_te hx57.2.2.2
      have f58_0 := fr_lt hf57 hR.1.1.1
      have g58_0 := (fr_K hf57 hR.1.1.1).trans hR.1.1.2
      have f58_1 := fr_lt hf57 hR.2.1.1.1.1
      have g58_1 := (fr_K hf57 hR.2.1.1.1.1).trans hR.2.1.1.1.2
      have f58_2 := fr_lt hf57 hR.2.1.1.2.2.1
      have g58_2 := (fr_K hf57 hR.2.1.1.2.2.1).trans hR.2.1.1.2.2.2.1
      have f58_3 := fr_lt hf57 hT.1.1.1
      have g58_3 := (fr_K hf57 hT.1.1.1).trans hT.1.1.2
      have q58_0 : bm_FI B57 7 1 s = (bm_FI B 7 1 s) := (fr_FI hf57 hR.1.1.1 hn1 7 1).trans rfl
      have q58_1 : bm_FI B57 7 2 s = (bm_FI B 7 2 s) := (fr_FI hf57 hR.1.1.1 hn1 7 2).trans rfl
      have q58_2 : bm_FI B57 7 3 s = (bm_FI B 7 3 s) := (fr_FI hf57 hR.1.1.1 hn1 7 3).trans rfl
      have q58_3 : bm_FI B57 7 4 s = (bm_FI B 7 4 s) := (fr_FI hf57 hR.1.1.1 hn1 7 4).trans rfl
      have q58_4 : bm_FI B57 7 8 s = (bm_FI B 7 8 s) := (fr_FI hf57 hR.1.1.1 hn1 7 8).trans rfl
      have q58_5 : bm_FI B57 7 9 s = (bm_FI B 7 9 s) := (fr_FI hf57 hR.1.1.1 hn1 7 9).trans rfl
      have q58_6 : bm_FI B57 7 5 s = n := (fr_FI hf57 hR.1.1.1 hn1 7 5).trans hR.2.2.2.1.1
      have q58_7 : bm_FI B57 7 6 s = b := (fr_FI hf57 hR.1.1.1 hn1 7 6).trans hR.2.2.2.1.2
      have q58_8 : bm_FI B57 7 7 s = bz br := (fr_FI hf57 hR.1.1.1 hn1 7 7).trans hR.2.2.2.2.1.1
      have q58_9 : bm_FI B57 7 10 s = bz on := (fr_FI hf57 hR.1.1.1 hn1 7 10).trans hR.2.2.2.2.2
      have q58_10 : bm_FI B57 2 1 (s + 1) = (nI I.2.2.2.length) := (fr_FI hf57 hR.2.1.1.1.1 hn2 2 1).trans hR.2.1.2.1.1
      have q58_11 : bm_FI B57 2 2 (s + 1) = (bm_FI B 2 2 (s + 1)) := (fr_FI hf57 hR.2.1.1.1.1 hn2 2 2).trans rfl
      have q58_12 : bm_FI B57 2 3 (s + 1) = (bm_FI B 2 3 (s + 1)) := (fr_FI hf57 hR.2.1.1.1.1 hn2 2 3).trans rfl
      have q58_13 : bm_FI B57 2 4 (s + 1) = I.2.2.1 := (fr_FI hf57 hR.2.1.1.1.1 hn2 2 4).trans hR.2.1.2.2.1.2.2
      have r58_0 : bm_FR B57 7 0 s = some (s + 1) := (fr_FR hf57 hR.1.1.1 hn1 7 0).trans hR.1.2
      have r58_1 : bm_FR B57 2 0 (s + 1) = some (s + 1 + 1) := (fr_FR hf57 hR.2.1.1.1.1 hn2 2 0).trans hR.2.1.1.2.1
      have u58_0 : bm_AI B57 (s + 1 + 1) = (bm_AI B (s + 1 + 1)) := (fr_AI hf57 hR.2.1.1.2.2.1 hn3).trans rfl
      have w58_0 : bm_AL B57 (s + 1 + 1) = 24 := (fr_AL hf57 hR.2.1.1.2.2.1).trans hR.2.1.1.2.2.2.2
      have tv59_0 := tv_mono hx57.1 hR.2.2.1.1
      have tv59_1 := tv_mono hx57.1 hR.2.2.1.2.1
      have tv59_2 := tv_mono hx57.1 hR.2.2.1.2.2.1
      have tv59_3 := tv_mono hx57.1 hR.2.2.1.2.2.2
      have tv59_4 := tv_mono hx57.1 hR.2.1.2.2.1.1
      have tv59_5 := tv_mono hx57.1 hR.2.1.2.2.1.2.1
      have tv59_6 := tv_mono hx57.1 hy
      have tv59_7 := tv_mono hx57.1 ht56
      have Z60 : fz (sxs a ca ba da s) B B57 := fz_trans (fz_rfl _ B) (fz_mono (fun _ q => Or.inl q) hz57)
      show bm_G _ _ _ 69 _ [.int r57] B57 _
      refine g_ist (pc' := 71) cd_Se_nextWire rfl (Or.inl ⟨rfl, rfl⟩) (by decide) rfl (fun lv el => ?_)
      have l0 := tm_lk el l0 rfl (by decide)
      have l1 := tm_lk el l1 rfl (by decide)
      have l2 := tm_lk el l2 rfl (by decide)
      have l3 := tm_lk el l3 rfl (by decide)
      have l4 := tm_lk el l4 rfl (by decide)
      have l5 := tm_lk el l5 rfl (by decide)
      have l6 := tm_lk el l6 rfl (by decide)
      have l7 : lv.lookup 7 = some (.int r57) := tm_lks el
      clear el
      refine g_ald (pc' := 72) cd_Se_nextWire rfl (Or.inr ⟨_, rfl, rfl, rfl⟩) l1 rfl rfl ?_
      refine g_k2 (v := 6) (pc' := 74) cd_Se_nextWire rfl (by decide) rfl ?_
      refine g_ald (pc' := 75) cd_Se_nextWire rfl (Or.inr ⟨_, rfl, rfl, rfl⟩) l0 rfl rfl ?_
      refine g_fI (c := 7) (k := 4) (x := (bm_FI B 7 4 s)) (pc' := 78) cd_Se_nextWire rfl rfl rfl rfl rfl (by decide) f58_0 g58_0 q58_3 ?_
      refine g_k1 (v := 0) (pc' := 79) cd_Se_nextWire rfl (by decide) rfl ?_
      refine g_calli (pc' := 82) cd_Se_nextWire rfl rfl rfl rfl rfl (tm_invV rfl rfl cd_Te_mix rfl (Nat.le_of_ble_eq_true rfl) (by decide) f58_3 g58_3) (t_mix (n := 6) hT57 (by omega) tv59_3 (TI_z hT57) (fun B61 T61 r61 hx61 ht61 => ?_))
      have hT61 := hx61.2.2.1
      have hl61 := hx61.2.1
      have hf61 := (fz_te hx61.2.2.2).1
      have hz61 := fz_te hx61.2.2.2
      have f62_0 := fr_lt hf61 f58_0
      have g62_0 := (fr_K hf61 f58_0).trans g58_0
      have f62_1 := fr_lt hf61 f58_1
      have g62_1 := (fr_K hf61 f58_1).trans g58_1
      have f62_2 := fr_lt hf61 f58_2
      have g62_2 := (fr_K hf61 f58_2).trans g58_2
      have f62_3 := fr_lt hf61 f58_3
      have g62_3 := (fr_K hf61 f58_3).trans g58_3
      have q62_0 : bm_FI B61 7 1 s = (bm_FI B 7 1 s) := (fr_FI hf61 f58_0 hn1 7 1).trans q58_0
      have q62_1 : bm_FI B61 7 2 s = (bm_FI B 7 2 s) := (fr_FI hf61 f58_0 hn1 7 2).trans q58_1
      have q62_2 : bm_FI B61 7 3 s = (bm_FI B 7 3 s) := (fr_FI hf61 f58_0 hn1 7 3).trans q58_2
      have q62_3 : bm_FI B61 7 4 s = (bm_FI B 7 4 s) := (fr_FI hf61 f58_0 hn1 7 4).trans q58_3
      have q62_4 : bm_FI B61 7 8 s = (bm_FI B 7 8 s) := (fr_FI hf61 f58_0 hn1 7 8).trans q58_4
      have q62_5 : bm_FI B61 7 9 s = (bm_FI B 7 9 s) := (fr_FI hf61 f58_0 hn1 7 9).trans q58_5
      have q62_6 : bm_FI B61 7 5 s = n := (fr_FI hf61 f58_0 hn1 7 5).trans q58_6
      have q62_7 : bm_FI B61 7 6 s = b := (fr_FI hf61 f58_0 hn1 7 6).trans q58_7
      have q62_8 : bm_FI B61 7 7 s = bz br := (fr_FI hf61 f58_0 hn1 7 7).trans q58_8
      have q62_9 : bm_FI B61 7 10 s = bz on := (fr_FI hf61 f58_0 hn1 7 10).trans q58_9
      have q62_10 : bm_FI B61 2 1 (s + 1) = (nI I.2.2.2.length) := (fr_FI hf61 f58_1 hn2 2 1).trans q58_10
      have q62_11 : bm_FI B61 2 2 (s + 1) = (bm_FI B 2 2 (s + 1)) := (fr_FI hf61 f58_1 hn2 2 2).trans q58_11
      have q62_12 : bm_FI B61 2 3 (s + 1) = (bm_FI B 2 3 (s + 1)) := (fr_FI hf61 f58_1 hn2 2 3).trans q58_12
      have q62_13 : bm_FI B61 2 4 (s + 1) = I.2.2.1 := (fr_FI hf61 f58_1 hn2 2 4).trans q58_13
      have r62_0 : bm_FR B61 7 0 s = some (s + 1) := (fr_FR hf61 f58_0 hn1 7 0).trans r58_0
      have r62_1 : bm_FR B61 2 0 (s + 1) = some (s + 1 + 1) := (fr_FR hf61 f58_1 hn2 2 0).trans r58_1
      have u62_0 : bm_AI B61 (s + 1 + 1) = (bm_AI B (s + 1 + 1)) := (fr_AI hf61 f58_2 hn3).trans u58_0
      have w62_0 : bm_AL B61 (s + 1 + 1) = 24 := (fr_AL hf61 f58_2).trans w58_0
      have tv63_0 := tv_mono hx61.1 tv59_0
      have tv63_1 := tv_mono hx61.1 tv59_1
      have tv63_2 := tv_mono hx61.1 tv59_2
      have tv63_3 := tv_mono hx61.1 tv59_3
      have tv63_4 := tv_mono hx61.1 tv59_4
      have tv63_5 := tv_mono hx61.1 tv59_5
      have tv63_6 := tv_mono hx61.1 tv59_6
      have tv63_7 := tv_mono hx61.1 tv59_7
      have tv63_8 := tv_mono hx61.1 ht57
      have Z64 : fz (sxs a ca ba da s) B B61 := fz_trans Z60 (fz_mono (fun _ q => Or.inl q) hz61)
      show bm_G _ _ _ 82 _ [.int r61] B61 _
      refine g_ist (pc' := 84) cd_Se_nextWire rfl (Or.inl ⟨rfl, rfl⟩) (by decide) rfl (fun lv el => ?_)
      have l0 := tm_lk el l0 rfl (by decide)
      have l1 := tm_lk el l1 rfl (by decide)
      have l2 := tm_lk el l2 rfl (by decide)
      have l3 := tm_lk el l3 rfl (by decide)
      have l4 := tm_lk el l4 rfl (by decide)
      have l5 := tm_lk el l5 rfl (by decide)
      have l6 := tm_lk el l6 rfl (by decide)
      have l7 := tm_lk el l7 rfl (by decide)
      have l8 : lv.lookup 8 = some (.int r61) := tm_lks el
      clear el
      refine g_ald (pc' := 85) cd_Se_nextWire rfl (Or.inr ⟨_, rfl, rfl, rfl⟩) l0 rfl rfl ?_
      refine g_ald (pc' := 86) cd_Se_nextWire rfl (Or.inr ⟨_, rfl, rfl, rfl⟩) l1 rfl rfl ?_
      refine g_k2 (v := 7) (pc' := 88) cd_Se_nextWire rfl (by decide) rfl ?_
      refine g_ald (pc' := 89) cd_Se_nextWire rfl (Or.inr ⟨_, rfl, rfl, rfl⟩) l0 rfl rfl ?_
      refine g_fI (c := 7) (k := 4) (x := (bm_FI B 7 4 s)) (pc' := 92) cd_Se_nextWire rfl rfl rfl rfl rfl (by decide) f62_0 g62_0 q62_3 ?_
      refine g_k1 (v := 0) (pc' := 93) cd_Se_nextWire rfl (by decide) rfl ?_
      refine g_calli (pc' := 96) cd_Se_nextWire rfl rfl rfl rfl rfl (tm_invV rfl rfl cd_Te_mix rfl (Nat.le_of_ble_eq_true rfl) (by decide) f62_3 g62_3) (t_mix (n := 7) hT61 (by omega) tv63_3 (TI_z hT61) (fun B65 T65 r65 hx65 ht65 => ?_))
      have hT65 := hx65.2.2.1
      have hl65 := hx65.2.1
      have hf65 := (fz_te hx65.2.2.2).1
      have hz65 := fz_te hx65.2.2.2
      have f66_0 := fr_lt hf65 f62_0
      have g66_0 := (fr_K hf65 f62_0).trans g62_0
      have f66_1 := fr_lt hf65 f62_1
      have g66_1 := (fr_K hf65 f62_1).trans g62_1
      have f66_2 := fr_lt hf65 f62_2
      have g66_2 := (fr_K hf65 f62_2).trans g62_2
      have f66_3 := fr_lt hf65 f62_3
      have g66_3 := (fr_K hf65 f62_3).trans g62_3
      have q66_0 : bm_FI B65 7 1 s = (bm_FI B 7 1 s) := (fr_FI hf65 f62_0 hn1 7 1).trans q62_0
      have q66_1 : bm_FI B65 7 2 s = (bm_FI B 7 2 s) := (fr_FI hf65 f62_0 hn1 7 2).trans q62_1
      have q66_2 : bm_FI B65 7 3 s = (bm_FI B 7 3 s) := (fr_FI hf65 f62_0 hn1 7 3).trans q62_2
      have q66_3 : bm_FI B65 7 4 s = (bm_FI B 7 4 s) := (fr_FI hf65 f62_0 hn1 7 4).trans q62_3
      have q66_4 : bm_FI B65 7 8 s = (bm_FI B 7 8 s) := (fr_FI hf65 f62_0 hn1 7 8).trans q62_4
      have q66_5 : bm_FI B65 7 9 s = (bm_FI B 7 9 s) := (fr_FI hf65 f62_0 hn1 7 9).trans q62_5
      have q66_6 : bm_FI B65 7 5 s = n := (fr_FI hf65 f62_0 hn1 7 5).trans q62_6
      have q66_7 : bm_FI B65 7 6 s = b := (fr_FI hf65 f62_0 hn1 7 6).trans q62_7
      have q66_8 : bm_FI B65 7 7 s = bz br := (fr_FI hf65 f62_0 hn1 7 7).trans q62_8
      have q66_9 : bm_FI B65 7 10 s = bz on := (fr_FI hf65 f62_0 hn1 7 10).trans q62_9
      have q66_10 : bm_FI B65 2 1 (s + 1) = (nI I.2.2.2.length) := (fr_FI hf65 f62_1 hn2 2 1).trans q62_10
      have q66_11 : bm_FI B65 2 2 (s + 1) = (bm_FI B 2 2 (s + 1)) := (fr_FI hf65 f62_1 hn2 2 2).trans q62_11
      have q66_12 : bm_FI B65 2 3 (s + 1) = (bm_FI B 2 3 (s + 1)) := (fr_FI hf65 f62_1 hn2 2 3).trans q62_12
      have q66_13 : bm_FI B65 2 4 (s + 1) = I.2.2.1 := (fr_FI hf65 f62_1 hn2 2 4).trans q62_13
      have r66_0 : bm_FR B65 7 0 s = some (s + 1) := (fr_FR hf65 f62_0 hn1 7 0).trans r62_0
      have r66_1 : bm_FR B65 2 0 (s + 1) = some (s + 1 + 1) := (fr_FR hf65 f62_1 hn2 2 0).trans r62_1
      have u66_0 : bm_AI B65 (s + 1 + 1) = (bm_AI B (s + 1 + 1)) := (fr_AI hf65 f62_2 hn3).trans u62_0
      have w66_0 : bm_AL B65 (s + 1 + 1) = 24 := (fr_AL hf65 f62_2).trans w62_0
      have tv67_0 := tv_mono hx65.1 tv63_0
      have tv67_1 := tv_mono hx65.1 tv63_1
      have tv67_2 := tv_mono hx65.1 tv63_2
      have tv67_3 := tv_mono hx65.1 tv63_3
      have tv67_4 := tv_mono hx65.1 tv63_4
      have tv67_5 := tv_mono hx65.1 tv63_5
      have tv67_6 := tv_mono hx65.1 tv63_6
      have tv67_7 := tv_mono hx65.1 tv63_7
      have tv67_8 := tv_mono hx65.1 tv63_8
      have tv67_9 := tv_mono hx65.1 ht61
      have Z68 : fz (sxs a ca ba da s) B B65 := fz_trans Z64 (fz_mono (fun _ q => Or.inl q) hz65)
      show bm_G _ _ _ 96 _ [.int r65, .ref s] B65 _
      refine g_putI (c := 7) (k := 4) (pc' := 99) cd_Se_nextWire rfl rfl rfl rfl (by simp [tm_okV, narrow, fits]) (Or.inl rfl) rfl (by decide) f66_0 g66_0 ?_
      have P69 : bm_FI (bm_putI B65 7 4 s r65) 7 4 s = r65 := if_pos ⟨rfl, rfl, rfl⟩
      have Z70 : fz (sxs a ca ba da s) B (bm_putI B65 7 4 s r65) := fz_trans Z68 ⟨fr_mono (fun _ q => Or.inr (Or.inl q)) (fr_putI _ 7 4 s _), rfl, rfl⟩
      refine g_ald (pc' := 100) cd_Se_nextWire rfl (Or.inr ⟨_, rfl, rfl, rfl⟩) l0 rfl rfl ?_
      refine g_pure (pc' := 101) (st' := [.ref s, .ref s]) cd_Se_nextWire rfl rfl (fun _ _ => rfl) ?_
      refine g_fI (c := 7) (k := 5) (x := n) (pc' := 104) cd_Se_nextWire rfl rfl rfl rfl rfl (by decide) f66_0 g66_0 q66_6 ?_
      refine g_k1 (v := 1) (pc' := 105) cd_Se_nextWire rfl (by decide) rfl ?_
      refine g_pure (pc' := 106) (st' := [.int (n + 1), .ref s]) cd_Se_nextWire rfl rfl (fun _ _ => rfl) ?_
      refine g_putI (c := 7) (k := 5) (pc' := 109) cd_Se_nextWire rfl rfl rfl rfl (by simp [tm_okV, narrow, fits]) (Or.inl rfl) rfl (by decide) f66_0 g66_0 ?_
      have P71 : bm_FI (bm_putI (bm_putI B65 7 4 s r65) 7 5 s (n + 1)) 7 5 s = n + 1 := if_pos ⟨rfl, rfl, rfl⟩
      have Z72 : fz (sxs a ca ba da s) B (bm_putI (bm_putI B65 7 4 s r65) 7 5 s (n + 1)) := fz_trans Z70 ⟨fr_mono (fun _ q => Or.inr (Or.inl q)) (fr_putI _ 7 5 s _), rfl, rfl⟩
      refine g_ald (pc' := 110) cd_Se_nextWire rfl (Or.inr ⟨_, rfl, rfl, rfl⟩) l1 rfl rfl ?_
      refine g_ild (pc' := 112) cd_Se_nextWire rfl (Or.inl ⟨rfl, rfl⟩) l8 rfl ?_
      refine g_ild (pc' := 114) cd_Se_nextWire rfl (Or.inl ⟨rfl, rfl⟩) l7 rfl ?_
      refine g_ild (pc' := 116) cd_Se_nextWire rfl (Or.inl ⟨rfl, rfl⟩) l4 rfl ?_
      have hT73 : TI (bm_putI (bm_putI B65 7 4 s r65) 7 5 s (n + 1)) a ca ba da rm dr T65 := hT65
      refine g_calli (pc' := 119) cd_Se_nextWire rfl rfl rfl rfl rfl (tm_invV rfl rfl cd_Te_sealed rfl (Nat.le_of_ble_eq_true rfl) (by decide) f66_3 g66_3) (t_sealed hT73 (by omega) tv67_9 tv67_8 tv67_6 (fun B74 T74 r74 hx74 ht74 => ?_))
      have hT74 := hx74.2.2.1
      have hl74 := hx74.2.1
      have hf74 := (fz_te hx74.2.2.2).1
      have hz74 := fz_te hx74.2.2.2
      have f75_0 := fr_lt hf74 f66_0
      have g75_0 := (fr_K hf74 f66_0).trans g66_0
      have f75_1 := fr_lt hf74 f66_1
      have g75_1 := (fr_K hf74 f66_1).trans g66_1
      have f75_2 := fr_lt hf74 f66_2
      have g75_2 := (fr_K hf74 f66_2).trans g66_2
      have f75_3 := fr_lt hf74 f66_3
      have g75_3 := (fr_K hf74 f66_3).trans g66_3
      have q75_0 : bm_FI B74 7 1 s = (bm_FI B 7 1 s) := (fr_FI hf74 f66_0 hn1 7 1).trans q66_0
      have q75_1 : bm_FI B74 7 2 s = (bm_FI B 7 2 s) := (fr_FI hf74 f66_0 hn1 7 2).trans q66_1
      have q75_2 : bm_FI B74 7 3 s = (bm_FI B 7 3 s) := (fr_FI hf74 f66_0 hn1 7 3).trans q66_2
      have q75_3 : bm_FI B74 7 4 s = r65 := (fr_FI hf74 f66_0 hn1 7 4).trans P69
      have q75_4 : bm_FI B74 7 8 s = (bm_FI B 7 8 s) := (fr_FI hf74 f66_0 hn1 7 8).trans q66_4
      have q75_5 : bm_FI B74 7 9 s = (bm_FI B 7 9 s) := (fr_FI hf74 f66_0 hn1 7 9).trans q66_5
      have q75_6 : bm_FI B74 7 5 s = n + 1 := (fr_FI hf74 f66_0 hn1 7 5).trans P71
      have q75_7 : bm_FI B74 7 6 s = b := (fr_FI hf74 f66_0 hn1 7 6).trans q66_7
      have q75_8 : bm_FI B74 7 7 s = bz br := (fr_FI hf74 f66_0 hn1 7 7).trans q66_8
      have q75_9 : bm_FI B74 7 10 s = bz on := (fr_FI hf74 f66_0 hn1 7 10).trans q66_9
      have q75_10 : bm_FI B74 2 1 (s + 1) = (nI I.2.2.2.length) := (fr_FI hf74 f66_1 hn2 2 1).trans q66_10
      have q75_11 : bm_FI B74 2 2 (s + 1) = (bm_FI B 2 2 (s + 1)) := (fr_FI hf74 f66_1 hn2 2 2).trans q66_11
      have q75_12 : bm_FI B74 2 3 (s + 1) = (bm_FI B 2 3 (s + 1)) := (fr_FI hf74 f66_1 hn2 2 3).trans q66_12
      have q75_13 : bm_FI B74 2 4 (s + 1) = I.2.2.1 := (fr_FI hf74 f66_1 hn2 2 4).trans q66_13
      have r75_0 : bm_FR B74 7 0 s = some (s + 1) := (fr_FR hf74 f66_0 hn1 7 0).trans r66_0
      have r75_1 : bm_FR B74 2 0 (s + 1) = some (s + 1 + 1) := (fr_FR hf74 f66_1 hn2 2 0).trans r66_1
      have u75_0 : bm_AI B74 (s + 1 + 1) = (bm_AI B (s + 1 + 1)) := (fr_AI hf74 f66_2 hn3).trans u66_0
      have w75_0 : bm_AL B74 (s + 1 + 1) = 24 := (fr_AL hf74 f66_2).trans w66_0
      have tv76_0 := tv_mono hx74.1 tv67_0
      have tv76_1 := tv_mono hx74.1 tv67_1
      have tv76_2 := tv_mono hx74.1 tv67_2
      have tv76_3 := tv_mono hx74.1 tv67_3
      have tv76_4 := tv_mono hx74.1 tv67_4
      have tv76_5 := tv_mono hx74.1 tv67_5
      have tv76_6 := tv_mono hx74.1 tv67_6
      have tv76_7 := tv_mono hx74.1 tv67_7
      have tv76_8 := tv_mono hx74.1 tv67_8
      have tv76_9 := tv_mono hx74.1 tv67_9
      have tv76_10 := tv_mono hx74.1 ht65
      have Z77 : fz (sxs a ca ba da s) B B74 := fz_trans Z72 (fz_mono (fun _ q => Or.inl q) hz74)
      show bm_G _ _ _ 119 _ [.int r74] B74 _
      exact g_reti cd_Se_nextWire rfl ⟨_, rfl, (kk _ _ _ (((hx57.1.trans hx61.1).trans hx65.1).trans hx74.1) (by omega) hT74 (by unfold ss_wire; rw [hbr]; exact ht74) ⟨⟨⟨f75_0, g75_0⟩, r75_0⟩, (RIn_mk (J := I) hR.2.1.1 Z77.1 q75_10 q75_11 q75_12 q75_13 u75_0 rfl hR.2.1.2.1.2 tv76_4 tv76_5 rfl (fun i e he => ⟨tv_mono (((hx57.1.trans hx61.1).trans hx65.1).trans hx74.1) (hR.2.1.2.2.2 i e he).1, (hR.2.1.2.2.2 i e he).2.1, tv_mono (((hx57.1.trans hx61.1).trans hx65.1).trans hx74.1) (hR.2.1.2.2.2 i e he).2.2⟩)), ⟨(tvq q75_0 tv76_0), (tvq q75_1 tv76_1), (tvq q75_2 tv76_2), (tvq q75_3 tv76_10)⟩, ⟨q75_6, q75_7⟩, ⟨q75_8, (fun q => ⟨tvq q75_4 (tv_mono (((hx57.1.trans hx61.1).trans hx65.1).trans hx74.1) (hR.2.2.2.2.1.2 q).1), tvq q75_5 (tv_mono (((hx57.1.trans hx61.1).trans hx65.1).trans hx74.1) (hR.2.2.2.2.1.2 q).2)⟩)⟩, q75_9⟩ Z77)⟩
    · have c21 : br = true := bz_t c21
      exact absurd (hbr.symm.trans c21) (by decide)
  · have c4 : br = true := bz_t c4
    have hbr : br = true := c4
    refine g_ald (pc' := 8) cd_Se_nextWire rfl (Or.inr ⟨_, rfl, rfl, rfl⟩) l0 rfl rfl ?_
    refine g_fI (c := 7) (k := 8) (x := (bm_FI B 7 8 s)) (pc' := 11) cd_Se_nextWire rfl rfl rfl rfl rfl (by decide) hR.1.1.1 hR.1.1.2 rfl ?_
    refine g_pure (pc' := 15) (st' := [.int ((bm_FI B 7 8 s))]) cd_Se_nextWire rfl rfl (fun _ _ => rfl) ?_
    refine g_ist (pc' := 17) cd_Se_nextWire rfl (Or.inl ⟨rfl, rfl⟩) (by decide) rfl (fun lv el => ?_)
    have l0 := tm_lk el l0 rfl (by decide)
    have l1 := tm_lk el l1 rfl (by decide)
    have l2 := tm_lk el l2 rfl (by decide)
    have l3 := tm_lk el l3 rfl (by decide)
    have l4 := tm_lk el l4 rfl (by decide)
    have l5 : lv.lookup 5 = some (.int ((bm_FI B 7 8 s))) := tm_lks el
    clear el
    refine g_ald (pc' := 18) cd_Se_nextWire rfl (Or.inr ⟨_, rfl, rfl, rfl⟩) l0 rfl rfl ?_
    refine g_fI (c := 7) (k := 7) (x := bz br) (pc' := 21) cd_Se_nextWire rfl rfl rfl rfl rfl (by decide) hR.1.1.1 hR.1.1.2 hR.2.2.2.2.1.1 ?_
    refine g_if1 (t := 31) (pc' := 24) cd_Se_nextWire rfl rfl rfl (fun c21 => ?_) (fun c21 => ?_)
    · have c21 : br = false := bz_f c21
      exact absurd (hbr.symm.trans c21) (by decide)
    · have c21 : br = true := bz_t c21
      refine g_ald (pc' := 25) cd_Se_nextWire rfl (Or.inr ⟨_, rfl, rfl, rfl⟩) l0 rfl rfl ?_
      refine g_fI (c := 7) (k := 9) (x := (bm_FI B 7 9 s)) (pc' := 28) cd_Se_nextWire rfl rfl rfl rfl rfl (by decide) hR.1.1.1 hR.1.1.2 rfl ?_
      refine g_pure (pc' := 32) (st' := [.int ((bm_FI B 7 9 s))]) cd_Se_nextWire rfl rfl (fun _ _ => rfl) ?_
      refine g_ist (pc' := 34) cd_Se_nextWire rfl (Or.inl ⟨rfl, rfl⟩) (by decide) rfl (fun lv el => ?_)
      have l0 := tm_lk el l0 rfl (by decide)
      have l1 := tm_lk el l1 rfl (by decide)
      have l2 := tm_lk el l2 rfl (by decide)
      have l3 := tm_lk el l3 rfl (by decide)
      have l4 := tm_lk el l4 rfl (by decide)
      have l5 := tm_lk el l5 rfl (by decide)
      have l6 : lv.lookup 6 = some (.int ((bm_FI B 7 9 s))) := tm_lks el
      clear el
      refine g_ald (pc' := 35) cd_Se_nextWire rfl (Or.inr ⟨_, rfl, rfl, rfl⟩) l1 rfl rfl ?_
      refine g_k1 (v := 3) (pc' := 36) cd_Se_nextWire rfl (by decide) rfl ?_
      refine g_ild (pc' := 37) cd_Se_nextWire rfl (Or.inr ⟨_, rfl, rfl, rfl⟩) l2 rfl ?_
      refine g_ild (pc' := 38) cd_Se_nextWire rfl (Or.inr ⟨_, rfl, rfl, rfl⟩) l3 rfl ?_
      refine g_ald (pc' := 39) cd_Se_nextWire rfl (Or.inr ⟨_, rfl, rfl, rfl⟩) l0 rfl rfl ?_
      refine g_fI (c := 7) (k := 5) (x := n) (pc' := 42) cd_Se_nextWire rfl rfl rfl rfl rfl (by decide) hR.1.1.1 hR.1.1.2 hR.2.2.2.1.1 ?_
      refine g_ald (pc' := 43) cd_Se_nextWire rfl (Or.inr ⟨_, rfl, rfl, rfl⟩) l0 rfl rfl ?_
      refine g_fI (c := 7) (k := 6) (x := b) (pc' := 46) cd_Se_nextWire rfl rfl rfl rfl rfl (by decide) hR.1.1.1 hR.1.1.2 hR.2.2.2.1.2 ?_
      refine g_callv (pc' := 49) cd_Se_nextWire rfl rfl rfl rfl rfl (tm_invV rfl rfl cd_Te_startRow rfl (Nat.le_of_ble_eq_true rfl) (by decide) hT.1.1.1 hT.1.1.2) (t_startRow hT ?_)
      have f78_0 := fr_lt (fz_te (tt_draft_fr B a ca ba da 3 v w n b)).1 hR.1.1.1
      have g78_0 := (fr_K (fz_te (tt_draft_fr B a ca ba da 3 v w n b)).1 hR.1.1.1).trans hR.1.1.2
      have f78_1 := fr_lt (fz_te (tt_draft_fr B a ca ba da 3 v w n b)).1 hR.2.1.1.1.1
      have g78_1 := (fr_K (fz_te (tt_draft_fr B a ca ba da 3 v w n b)).1 hR.2.1.1.1.1).trans hR.2.1.1.1.2
      have f78_2 := fr_lt (fz_te (tt_draft_fr B a ca ba da 3 v w n b)).1 hR.2.1.1.2.2.1
      have g78_2 := (fr_K (fz_te (tt_draft_fr B a ca ba da 3 v w n b)).1 hR.2.1.1.2.2.1).trans hR.2.1.1.2.2.2.1
      have f78_3 := fr_lt (fz_te (tt_draft_fr B a ca ba da 3 v w n b)).1 hT.1.1.1
      have g78_3 := (fr_K (fz_te (tt_draft_fr B a ca ba da 3 v w n b)).1 hT.1.1.1).trans hT.1.1.2
      have q78_0 : bm_FI (tt_draft B da 3 v w n b) 7 1 s = (bm_FI B 7 1 s) := (fr_FI (fz_te (tt_draft_fr B a ca ba da 3 v w n b)).1 hR.1.1.1 hn1 7 1).trans rfl
      have q78_1 : bm_FI (tt_draft B da 3 v w n b) 7 2 s = (bm_FI B 7 2 s) := (fr_FI (fz_te (tt_draft_fr B a ca ba da 3 v w n b)).1 hR.1.1.1 hn1 7 2).trans rfl
      have q78_2 : bm_FI (tt_draft B da 3 v w n b) 7 3 s = (bm_FI B 7 3 s) := (fr_FI (fz_te (tt_draft_fr B a ca ba da 3 v w n b)).1 hR.1.1.1 hn1 7 3).trans rfl
      have q78_3 : bm_FI (tt_draft B da 3 v w n b) 7 4 s = (bm_FI B 7 4 s) := (fr_FI (fz_te (tt_draft_fr B a ca ba da 3 v w n b)).1 hR.1.1.1 hn1 7 4).trans rfl
      have q78_4 : bm_FI (tt_draft B da 3 v w n b) 7 8 s = (bm_FI B 7 8 s) := (fr_FI (fz_te (tt_draft_fr B a ca ba da 3 v w n b)).1 hR.1.1.1 hn1 7 8).trans rfl
      have q78_5 : bm_FI (tt_draft B da 3 v w n b) 7 9 s = (bm_FI B 7 9 s) := (fr_FI (fz_te (tt_draft_fr B a ca ba da 3 v w n b)).1 hR.1.1.1 hn1 7 9).trans rfl
      have q78_6 : bm_FI (tt_draft B da 3 v w n b) 7 5 s = n := (fr_FI (fz_te (tt_draft_fr B a ca ba da 3 v w n b)).1 hR.1.1.1 hn1 7 5).trans hR.2.2.2.1.1
      have q78_7 : bm_FI (tt_draft B da 3 v w n b) 7 6 s = b := (fr_FI (fz_te (tt_draft_fr B a ca ba da 3 v w n b)).1 hR.1.1.1 hn1 7 6).trans hR.2.2.2.1.2
      have q78_8 : bm_FI (tt_draft B da 3 v w n b) 7 7 s = bz br := (fr_FI (fz_te (tt_draft_fr B a ca ba da 3 v w n b)).1 hR.1.1.1 hn1 7 7).trans hR.2.2.2.2.1.1
      have q78_9 : bm_FI (tt_draft B da 3 v w n b) 7 10 s = bz on := (fr_FI (fz_te (tt_draft_fr B a ca ba da 3 v w n b)).1 hR.1.1.1 hn1 7 10).trans hR.2.2.2.2.2
      have q78_10 : bm_FI (tt_draft B da 3 v w n b) 2 1 (s + 1) = (nI I.2.2.2.length) := (fr_FI (fz_te (tt_draft_fr B a ca ba da 3 v w n b)).1 hR.2.1.1.1.1 hn2 2 1).trans hR.2.1.2.1.1
      have q78_11 : bm_FI (tt_draft B da 3 v w n b) 2 2 (s + 1) = (bm_FI B 2 2 (s + 1)) := (fr_FI (fz_te (tt_draft_fr B a ca ba da 3 v w n b)).1 hR.2.1.1.1.1 hn2 2 2).trans rfl
      have q78_12 : bm_FI (tt_draft B da 3 v w n b) 2 3 (s + 1) = (bm_FI B 2 3 (s + 1)) := (fr_FI (fz_te (tt_draft_fr B a ca ba da 3 v w n b)).1 hR.2.1.1.1.1 hn2 2 3).trans rfl
      have q78_13 : bm_FI (tt_draft B da 3 v w n b) 2 4 (s + 1) = I.2.2.1 := (fr_FI (fz_te (tt_draft_fr B a ca ba da 3 v w n b)).1 hR.2.1.1.1.1 hn2 2 4).trans hR.2.1.2.2.1.2.2
      have r78_0 : bm_FR (tt_draft B da 3 v w n b) 7 0 s = some (s + 1) := (fr_FR (fz_te (tt_draft_fr B a ca ba da 3 v w n b)).1 hR.1.1.1 hn1 7 0).trans hR.1.2
      have r78_1 : bm_FR (tt_draft B da 3 v w n b) 2 0 (s + 1) = some (s + 1 + 1) := (fr_FR (fz_te (tt_draft_fr B a ca ba da 3 v w n b)).1 hR.2.1.1.1.1 hn2 2 0).trans hR.2.1.1.2.1
      have u78_0 : bm_AI (tt_draft B da 3 v w n b) (s + 1 + 1) = (bm_AI B (s + 1 + 1)) := (fr_AI (fz_te (tt_draft_fr B a ca ba da 3 v w n b)).1 hR.2.1.1.2.2.1 hn3).trans rfl
      have w78_0 : bm_AL (tt_draft B da 3 v w n b) (s + 1 + 1) = 24 := (fr_AL (fz_te (tt_draft_fr B a ca ba da 3 v w n b)).1 hR.2.1.1.2.2.1).trans hR.2.1.1.2.2.2.2
      show bm_G _ _ _ 49 _ [] (tt_draft B da 3 v w n b) _
      refine g_ald (pc' := 50) cd_Se_nextWire rfl (Or.inr ⟨_, rfl, rfl, rfl⟩) l1 rfl rfl ?_
      refine g_ald (pc' := 51) cd_Se_nextWire rfl (Or.inr ⟨_, rfl, rfl, rfl⟩) l0 rfl rfl ?_
      refine g_fI (c := 7) (k := 1) (x := (bm_FI B 7 1 s)) (pc' := 54) cd_Se_nextWire rfl rfl rfl rfl rfl (by decide) f78_0 g78_0 q78_0 ?_
      refine g_ald (pc' := 55) cd_Se_nextWire rfl (Or.inr ⟨_, rfl, rfl, rfl⟩) l1 rfl rfl ?_
      refine g_ald (pc' := 56) cd_Se_nextWire rfl (Or.inr ⟨_, rfl, rfl, rfl⟩) l0 rfl rfl ?_
      refine g_fI (c := 7) (k := 3) (x := (bm_FI B 7 3 s)) (pc' := 59) cd_Se_nextWire rfl rfl rfl rfl rfl (by decide) f78_0 g78_0 q78_2 ?_
      refine g_calli (pc' := 62) cd_Se_nextWire rfl rfl rfl rfl rfl (tm_invV rfl rfl cd_Te_publicOf rfl (Nat.le_of_ble_eq_true rfl) (by decide) f78_3 g78_3) (t_publicOf (tt_draft_TI hT) hR.2.2.1.2.2.1 (fun r79 ht79 => ?_))
      rw [if_pos hk1] at ht79
      show bm_G _ _ _ 62 _ [.int r79, .int ((bm_FI B 7 1 s)), .ref a] (tt_draft B da 3 v w n b) _
      refine g_ild (pc' := 64) cd_Se_nextWire rfl (Or.inl ⟨rfl, rfl⟩) l5 rfl ?_
      refine g_ild (pc' := 66) cd_Se_nextWire rfl (Or.inl ⟨rfl, rfl⟩) l6 rfl ?_
      refine g_calli (pc' := 69) cd_Se_nextWire rfl rfl rfl rfl rfl (tm_invV rfl rfl cd_Te_endRow rfl (Nat.le_of_ble_eq_true rfl) (by decide) f78_3 g78_3) (t_endRow hT (by omega) hR.2.2.1.1 ht79 (hR.2.2.2.2.1.2 hbr).1 (hR.2.2.2.2.1.2 hbr).2 (fun B80 T80 r80 hx80 ht80 => ?_))
      have hT80 := hx80.2.2.1
      have hl80 := hx80.2.1
      have hf80 := (fz_te hx80.2.2.2).1
      have hz80 := fz_te hx80.2.2.2
      have f81_0 := fr_lt hf80 hR.1.1.1
      have g81_0 := (fr_K hf80 hR.1.1.1).trans hR.1.1.2
      have f81_1 := fr_lt hf80 hR.2.1.1.1.1
      have g81_1 := (fr_K hf80 hR.2.1.1.1.1).trans hR.2.1.1.1.2
      have f81_2 := fr_lt hf80 hR.2.1.1.2.2.1
      have g81_2 := (fr_K hf80 hR.2.1.1.2.2.1).trans hR.2.1.1.2.2.2.1
      have f81_3 := fr_lt hf80 hT.1.1.1
      have g81_3 := (fr_K hf80 hT.1.1.1).trans hT.1.1.2
      have q81_0 : bm_FI B80 7 1 s = (bm_FI B 7 1 s) := (fr_FI hf80 hR.1.1.1 hn1 7 1).trans rfl
      have q81_1 : bm_FI B80 7 2 s = (bm_FI B 7 2 s) := (fr_FI hf80 hR.1.1.1 hn1 7 2).trans rfl
      have q81_2 : bm_FI B80 7 3 s = (bm_FI B 7 3 s) := (fr_FI hf80 hR.1.1.1 hn1 7 3).trans rfl
      have q81_3 : bm_FI B80 7 4 s = (bm_FI B 7 4 s) := (fr_FI hf80 hR.1.1.1 hn1 7 4).trans rfl
      have q81_4 : bm_FI B80 7 8 s = (bm_FI B 7 8 s) := (fr_FI hf80 hR.1.1.1 hn1 7 8).trans rfl
      have q81_5 : bm_FI B80 7 9 s = (bm_FI B 7 9 s) := (fr_FI hf80 hR.1.1.1 hn1 7 9).trans rfl
      have q81_6 : bm_FI B80 7 5 s = n := (fr_FI hf80 hR.1.1.1 hn1 7 5).trans hR.2.2.2.1.1
      have q81_7 : bm_FI B80 7 6 s = b := (fr_FI hf80 hR.1.1.1 hn1 7 6).trans hR.2.2.2.1.2
      have q81_8 : bm_FI B80 7 7 s = bz br := (fr_FI hf80 hR.1.1.1 hn1 7 7).trans hR.2.2.2.2.1.1
      have q81_9 : bm_FI B80 7 10 s = bz on := (fr_FI hf80 hR.1.1.1 hn1 7 10).trans hR.2.2.2.2.2
      have q81_10 : bm_FI B80 2 1 (s + 1) = (nI I.2.2.2.length) := (fr_FI hf80 hR.2.1.1.1.1 hn2 2 1).trans hR.2.1.2.1.1
      have q81_11 : bm_FI B80 2 2 (s + 1) = (bm_FI B 2 2 (s + 1)) := (fr_FI hf80 hR.2.1.1.1.1 hn2 2 2).trans rfl
      have q81_12 : bm_FI B80 2 3 (s + 1) = (bm_FI B 2 3 (s + 1)) := (fr_FI hf80 hR.2.1.1.1.1 hn2 2 3).trans rfl
      have q81_13 : bm_FI B80 2 4 (s + 1) = I.2.2.1 := (fr_FI hf80 hR.2.1.1.1.1 hn2 2 4).trans hR.2.1.2.2.1.2.2
      have r81_0 : bm_FR B80 7 0 s = some (s + 1) := (fr_FR hf80 hR.1.1.1 hn1 7 0).trans hR.1.2
      have r81_1 : bm_FR B80 2 0 (s + 1) = some (s + 1 + 1) := (fr_FR hf80 hR.2.1.1.1.1 hn2 2 0).trans hR.2.1.1.2.1
      have u81_0 : bm_AI B80 (s + 1 + 1) = (bm_AI B (s + 1 + 1)) := (fr_AI hf80 hR.2.1.1.2.2.1 hn3).trans rfl
      have w81_0 : bm_AL B80 (s + 1 + 1) = 24 := (fr_AL hf80 hR.2.1.1.2.2.1).trans hR.2.1.1.2.2.2.2
      have tv82_0 := tv_mono hx80.1 hR.2.2.1.1
      have tv82_1 := tv_mono hx80.1 hR.2.2.1.2.1
      have tv82_2 := tv_mono hx80.1 hR.2.2.1.2.2.1
      have tv82_3 := tv_mono hx80.1 hR.2.2.1.2.2.2
      have tv82_4 := tv_mono hx80.1 hR.2.1.2.2.1.1
      have tv82_5 := tv_mono hx80.1 hR.2.1.2.2.1.2.1
      have tv82_6 := tv_mono hx80.1 hy
      have tv82_7 := tv_mono hx80.1 (hR.2.2.2.2.1.2 hbr).1
      have tv82_8 := tv_mono hx80.1 (hR.2.2.2.2.1.2 hbr).2
      have tv82_9 := tv_mono hx80.1 ht79
      have Z83 : fz (sxs a ca ba da s) B B80 := fz_trans (fz_rfl _ B) (fz_mono (fun _ q => Or.inl q) hz80)
      show bm_G _ _ _ 69 _ [.int r80] B80 _
      refine g_ist (pc' := 71) cd_Se_nextWire rfl (Or.inl ⟨rfl, rfl⟩) (by decide) rfl (fun lv el => ?_)
      have l0 := tm_lk el l0 rfl (by decide)
      have l1 := tm_lk el l1 rfl (by decide)
      have l2 := tm_lk el l2 rfl (by decide)
      have l3 := tm_lk el l3 rfl (by decide)
      have l4 := tm_lk el l4 rfl (by decide)
      have l5 := tm_lk el l5 rfl (by decide)
      have l6 := tm_lk el l6 rfl (by decide)
      have l7 : lv.lookup 7 = some (.int r80) := tm_lks el
      clear el
      refine g_ald (pc' := 72) cd_Se_nextWire rfl (Or.inr ⟨_, rfl, rfl, rfl⟩) l1 rfl rfl ?_
      refine g_k2 (v := 6) (pc' := 74) cd_Se_nextWire rfl (by decide) rfl ?_
      refine g_ald (pc' := 75) cd_Se_nextWire rfl (Or.inr ⟨_, rfl, rfl, rfl⟩) l0 rfl rfl ?_
      refine g_fI (c := 7) (k := 4) (x := (bm_FI B 7 4 s)) (pc' := 78) cd_Se_nextWire rfl rfl rfl rfl rfl (by decide) f81_0 g81_0 q81_3 ?_
      refine g_k1 (v := 0) (pc' := 79) cd_Se_nextWire rfl (by decide) rfl ?_
      refine g_calli (pc' := 82) cd_Se_nextWire rfl rfl rfl rfl rfl (tm_invV rfl rfl cd_Te_mix rfl (Nat.le_of_ble_eq_true rfl) (by decide) f81_3 g81_3) (t_mix (n := 6) hT80 (by omega) tv82_3 (TI_z hT80) (fun B84 T84 r84 hx84 ht84 => ?_))
      have hT84 := hx84.2.2.1
      have hl84 := hx84.2.1
      have hf84 := (fz_te hx84.2.2.2).1
      have hz84 := fz_te hx84.2.2.2
      have f85_0 := fr_lt hf84 f81_0
      have g85_0 := (fr_K hf84 f81_0).trans g81_0
      have f85_1 := fr_lt hf84 f81_1
      have g85_1 := (fr_K hf84 f81_1).trans g81_1
      have f85_2 := fr_lt hf84 f81_2
      have g85_2 := (fr_K hf84 f81_2).trans g81_2
      have f85_3 := fr_lt hf84 f81_3
      have g85_3 := (fr_K hf84 f81_3).trans g81_3
      have q85_0 : bm_FI B84 7 1 s = (bm_FI B 7 1 s) := (fr_FI hf84 f81_0 hn1 7 1).trans q81_0
      have q85_1 : bm_FI B84 7 2 s = (bm_FI B 7 2 s) := (fr_FI hf84 f81_0 hn1 7 2).trans q81_1
      have q85_2 : bm_FI B84 7 3 s = (bm_FI B 7 3 s) := (fr_FI hf84 f81_0 hn1 7 3).trans q81_2
      have q85_3 : bm_FI B84 7 4 s = (bm_FI B 7 4 s) := (fr_FI hf84 f81_0 hn1 7 4).trans q81_3
      have q85_4 : bm_FI B84 7 8 s = (bm_FI B 7 8 s) := (fr_FI hf84 f81_0 hn1 7 8).trans q81_4
      have q85_5 : bm_FI B84 7 9 s = (bm_FI B 7 9 s) := (fr_FI hf84 f81_0 hn1 7 9).trans q81_5
      have q85_6 : bm_FI B84 7 5 s = n := (fr_FI hf84 f81_0 hn1 7 5).trans q81_6
      have q85_7 : bm_FI B84 7 6 s = b := (fr_FI hf84 f81_0 hn1 7 6).trans q81_7
      have q85_8 : bm_FI B84 7 7 s = bz br := (fr_FI hf84 f81_0 hn1 7 7).trans q81_8
      have q85_9 : bm_FI B84 7 10 s = bz on := (fr_FI hf84 f81_0 hn1 7 10).trans q81_9
      have q85_10 : bm_FI B84 2 1 (s + 1) = (nI I.2.2.2.length) := (fr_FI hf84 f81_1 hn2 2 1).trans q81_10
      have q85_11 : bm_FI B84 2 2 (s + 1) = (bm_FI B 2 2 (s + 1)) := (fr_FI hf84 f81_1 hn2 2 2).trans q81_11
      have q85_12 : bm_FI B84 2 3 (s + 1) = (bm_FI B 2 3 (s + 1)) := (fr_FI hf84 f81_1 hn2 2 3).trans q81_12
      have q85_13 : bm_FI B84 2 4 (s + 1) = I.2.2.1 := (fr_FI hf84 f81_1 hn2 2 4).trans q81_13
      have r85_0 : bm_FR B84 7 0 s = some (s + 1) := (fr_FR hf84 f81_0 hn1 7 0).trans r81_0
      have r85_1 : bm_FR B84 2 0 (s + 1) = some (s + 1 + 1) := (fr_FR hf84 f81_1 hn2 2 0).trans r81_1
      have u85_0 : bm_AI B84 (s + 1 + 1) = (bm_AI B (s + 1 + 1)) := (fr_AI hf84 f81_2 hn3).trans u81_0
      have w85_0 : bm_AL B84 (s + 1 + 1) = 24 := (fr_AL hf84 f81_2).trans w81_0
      have tv86_0 := tv_mono hx84.1 tv82_0
      have tv86_1 := tv_mono hx84.1 tv82_1
      have tv86_2 := tv_mono hx84.1 tv82_2
      have tv86_3 := tv_mono hx84.1 tv82_3
      have tv86_4 := tv_mono hx84.1 tv82_4
      have tv86_5 := tv_mono hx84.1 tv82_5
      have tv86_6 := tv_mono hx84.1 tv82_6
      have tv86_7 := tv_mono hx84.1 tv82_7
      have tv86_8 := tv_mono hx84.1 tv82_8
      have tv86_9 := tv_mono hx84.1 tv82_9
      have tv86_10 := tv_mono hx84.1 ht80
      have Z87 : fz (sxs a ca ba da s) B B84 := fz_trans Z83 (fz_mono (fun _ q => Or.inl q) hz84)
      show bm_G _ _ _ 82 _ [.int r84] B84 _
      refine g_ist (pc' := 84) cd_Se_nextWire rfl (Or.inl ⟨rfl, rfl⟩) (by decide) rfl (fun lv el => ?_)
      have l0 := tm_lk el l0 rfl (by decide)
      have l1 := tm_lk el l1 rfl (by decide)
      have l2 := tm_lk el l2 rfl (by decide)
      have l3 := tm_lk el l3 rfl (by decide)
      have l4 := tm_lk el l4 rfl (by decide)
      have l5 := tm_lk el l5 rfl (by decide)
      have l6 := tm_lk el l6 rfl (by decide)
      have l7 := tm_lk el l7 rfl (by decide)
      have l8 : lv.lookup 8 = some (.int r84) := tm_lks el
      clear el
      refine g_ald (pc' := 85) cd_Se_nextWire rfl (Or.inr ⟨_, rfl, rfl, rfl⟩) l0 rfl rfl ?_
      refine g_ald (pc' := 86) cd_Se_nextWire rfl (Or.inr ⟨_, rfl, rfl, rfl⟩) l1 rfl rfl ?_
      refine g_k2 (v := 7) (pc' := 88) cd_Se_nextWire rfl (by decide) rfl ?_
      refine g_ald (pc' := 89) cd_Se_nextWire rfl (Or.inr ⟨_, rfl, rfl, rfl⟩) l0 rfl rfl ?_
      refine g_fI (c := 7) (k := 4) (x := (bm_FI B 7 4 s)) (pc' := 92) cd_Se_nextWire rfl rfl rfl rfl rfl (by decide) f85_0 g85_0 q85_3 ?_
      refine g_k1 (v := 0) (pc' := 93) cd_Se_nextWire rfl (by decide) rfl ?_
      refine g_calli (pc' := 96) cd_Se_nextWire rfl rfl rfl rfl rfl (tm_invV rfl rfl cd_Te_mix rfl (Nat.le_of_ble_eq_true rfl) (by decide) f85_3 g85_3) (t_mix (n := 7) hT84 (by omega) tv86_3 (TI_z hT84) (fun B88 T88 r88 hx88 ht88 => ?_))
      have hT88 := hx88.2.2.1
      have hl88 := hx88.2.1
      have hf88 := (fz_te hx88.2.2.2).1
      have hz88 := fz_te hx88.2.2.2
      have f89_0 := fr_lt hf88 f85_0
      have g89_0 := (fr_K hf88 f85_0).trans g85_0
      have f89_1 := fr_lt hf88 f85_1
      have g89_1 := (fr_K hf88 f85_1).trans g85_1
      have f89_2 := fr_lt hf88 f85_2
      have g89_2 := (fr_K hf88 f85_2).trans g85_2
      have f89_3 := fr_lt hf88 f85_3
      have g89_3 := (fr_K hf88 f85_3).trans g85_3
      have q89_0 : bm_FI B88 7 1 s = (bm_FI B 7 1 s) := (fr_FI hf88 f85_0 hn1 7 1).trans q85_0
      have q89_1 : bm_FI B88 7 2 s = (bm_FI B 7 2 s) := (fr_FI hf88 f85_0 hn1 7 2).trans q85_1
      have q89_2 : bm_FI B88 7 3 s = (bm_FI B 7 3 s) := (fr_FI hf88 f85_0 hn1 7 3).trans q85_2
      have q89_3 : bm_FI B88 7 4 s = (bm_FI B 7 4 s) := (fr_FI hf88 f85_0 hn1 7 4).trans q85_3
      have q89_4 : bm_FI B88 7 8 s = (bm_FI B 7 8 s) := (fr_FI hf88 f85_0 hn1 7 8).trans q85_4
      have q89_5 : bm_FI B88 7 9 s = (bm_FI B 7 9 s) := (fr_FI hf88 f85_0 hn1 7 9).trans q85_5
      have q89_6 : bm_FI B88 7 5 s = n := (fr_FI hf88 f85_0 hn1 7 5).trans q85_6
      have q89_7 : bm_FI B88 7 6 s = b := (fr_FI hf88 f85_0 hn1 7 6).trans q85_7
      have q89_8 : bm_FI B88 7 7 s = bz br := (fr_FI hf88 f85_0 hn1 7 7).trans q85_8
      have q89_9 : bm_FI B88 7 10 s = bz on := (fr_FI hf88 f85_0 hn1 7 10).trans q85_9
      have q89_10 : bm_FI B88 2 1 (s + 1) = (nI I.2.2.2.length) := (fr_FI hf88 f85_1 hn2 2 1).trans q85_10
      have q89_11 : bm_FI B88 2 2 (s + 1) = (bm_FI B 2 2 (s + 1)) := (fr_FI hf88 f85_1 hn2 2 2).trans q85_11
      have q89_12 : bm_FI B88 2 3 (s + 1) = (bm_FI B 2 3 (s + 1)) := (fr_FI hf88 f85_1 hn2 2 3).trans q85_12
      have q89_13 : bm_FI B88 2 4 (s + 1) = I.2.2.1 := (fr_FI hf88 f85_1 hn2 2 4).trans q85_13
      have r89_0 : bm_FR B88 7 0 s = some (s + 1) := (fr_FR hf88 f85_0 hn1 7 0).trans r85_0
      have r89_1 : bm_FR B88 2 0 (s + 1) = some (s + 1 + 1) := (fr_FR hf88 f85_1 hn2 2 0).trans r85_1
      have u89_0 : bm_AI B88 (s + 1 + 1) = (bm_AI B (s + 1 + 1)) := (fr_AI hf88 f85_2 hn3).trans u85_0
      have w89_0 : bm_AL B88 (s + 1 + 1) = 24 := (fr_AL hf88 f85_2).trans w85_0
      have tv90_0 := tv_mono hx88.1 tv86_0
      have tv90_1 := tv_mono hx88.1 tv86_1
      have tv90_2 := tv_mono hx88.1 tv86_2
      have tv90_3 := tv_mono hx88.1 tv86_3
      have tv90_4 := tv_mono hx88.1 tv86_4
      have tv90_5 := tv_mono hx88.1 tv86_5
      have tv90_6 := tv_mono hx88.1 tv86_6
      have tv90_7 := tv_mono hx88.1 tv86_7
      have tv90_8 := tv_mono hx88.1 tv86_8
      have tv90_9 := tv_mono hx88.1 tv86_9
      have tv90_10 := tv_mono hx88.1 tv86_10
      have tv90_11 := tv_mono hx88.1 ht84
      have Z91 : fz (sxs a ca ba da s) B B88 := fz_trans Z87 (fz_mono (fun _ q => Or.inl q) hz88)
      show bm_G _ _ _ 96 _ [.int r88, .ref s] B88 _
      refine g_putI (c := 7) (k := 4) (pc' := 99) cd_Se_nextWire rfl rfl rfl rfl (by simp [tm_okV, narrow, fits]) (Or.inl rfl) rfl (by decide) f89_0 g89_0 ?_
      have P92 : bm_FI (bm_putI B88 7 4 s r88) 7 4 s = r88 := if_pos ⟨rfl, rfl, rfl⟩
      have Z93 : fz (sxs a ca ba da s) B (bm_putI B88 7 4 s r88) := fz_trans Z91 ⟨fr_mono (fun _ q => Or.inr (Or.inl q)) (fr_putI _ 7 4 s _), rfl, rfl⟩
      refine g_ald (pc' := 100) cd_Se_nextWire rfl (Or.inr ⟨_, rfl, rfl, rfl⟩) l0 rfl rfl ?_
      refine g_pure (pc' := 101) (st' := [.ref s, .ref s]) cd_Se_nextWire rfl rfl (fun _ _ => rfl) ?_
      refine g_fI (c := 7) (k := 5) (x := n) (pc' := 104) cd_Se_nextWire rfl rfl rfl rfl rfl (by decide) f89_0 g89_0 q89_6 ?_
      refine g_k1 (v := 1) (pc' := 105) cd_Se_nextWire rfl (by decide) rfl ?_
      refine g_pure (pc' := 106) (st' := [.int (n + 1), .ref s]) cd_Se_nextWire rfl rfl (fun _ _ => rfl) ?_
      refine g_putI (c := 7) (k := 5) (pc' := 109) cd_Se_nextWire rfl rfl rfl rfl (by simp [tm_okV, narrow, fits]) (Or.inl rfl) rfl (by decide) f89_0 g89_0 ?_
      have P94 : bm_FI (bm_putI (bm_putI B88 7 4 s r88) 7 5 s (n + 1)) 7 5 s = n + 1 := if_pos ⟨rfl, rfl, rfl⟩
      have Z95 : fz (sxs a ca ba da s) B (bm_putI (bm_putI B88 7 4 s r88) 7 5 s (n + 1)) := fz_trans Z93 ⟨fr_mono (fun _ q => Or.inr (Or.inl q)) (fr_putI _ 7 5 s _), rfl, rfl⟩
      refine g_ald (pc' := 110) cd_Se_nextWire rfl (Or.inr ⟨_, rfl, rfl, rfl⟩) l1 rfl rfl ?_
      refine g_ild (pc' := 112) cd_Se_nextWire rfl (Or.inl ⟨rfl, rfl⟩) l8 rfl ?_
      refine g_ild (pc' := 114) cd_Se_nextWire rfl (Or.inl ⟨rfl, rfl⟩) l7 rfl ?_
      refine g_ild (pc' := 116) cd_Se_nextWire rfl (Or.inl ⟨rfl, rfl⟩) l4 rfl ?_
      have hT96 : TI (bm_putI (bm_putI B88 7 4 s r88) 7 5 s (n + 1)) a ca ba da rm dr T88 := hT88
      refine g_calli (pc' := 119) cd_Se_nextWire rfl rfl rfl rfl rfl (tm_invV rfl rfl cd_Te_sealed rfl (Nat.le_of_ble_eq_true rfl) (by decide) f89_3 g89_3) (t_sealed hT96 (by omega) tv90_11 tv90_10 tv90_6 (fun B97 T97 r97 hx97 ht97 => ?_))
      have hT97 := hx97.2.2.1
      have hl97 := hx97.2.1
      have hf97 := (fz_te hx97.2.2.2).1
      have hz97 := fz_te hx97.2.2.2
      have f98_0 := fr_lt hf97 f89_0
      have g98_0 := (fr_K hf97 f89_0).trans g89_0
      have f98_1 := fr_lt hf97 f89_1
      have g98_1 := (fr_K hf97 f89_1).trans g89_1
      have f98_2 := fr_lt hf97 f89_2
      have g98_2 := (fr_K hf97 f89_2).trans g89_2
      have f98_3 := fr_lt hf97 f89_3
      have g98_3 := (fr_K hf97 f89_3).trans g89_3
      have q98_0 : bm_FI B97 7 1 s = (bm_FI B 7 1 s) := (fr_FI hf97 f89_0 hn1 7 1).trans q89_0
      have q98_1 : bm_FI B97 7 2 s = (bm_FI B 7 2 s) := (fr_FI hf97 f89_0 hn1 7 2).trans q89_1
      have q98_2 : bm_FI B97 7 3 s = (bm_FI B 7 3 s) := (fr_FI hf97 f89_0 hn1 7 3).trans q89_2
      have q98_3 : bm_FI B97 7 4 s = r88 := (fr_FI hf97 f89_0 hn1 7 4).trans P92
      have q98_4 : bm_FI B97 7 8 s = (bm_FI B 7 8 s) := (fr_FI hf97 f89_0 hn1 7 8).trans q89_4
      have q98_5 : bm_FI B97 7 9 s = (bm_FI B 7 9 s) := (fr_FI hf97 f89_0 hn1 7 9).trans q89_5
      have q98_6 : bm_FI B97 7 5 s = n + 1 := (fr_FI hf97 f89_0 hn1 7 5).trans P94
      have q98_7 : bm_FI B97 7 6 s = b := (fr_FI hf97 f89_0 hn1 7 6).trans q89_7
      have q98_8 : bm_FI B97 7 7 s = bz br := (fr_FI hf97 f89_0 hn1 7 7).trans q89_8
      have q98_9 : bm_FI B97 7 10 s = bz on := (fr_FI hf97 f89_0 hn1 7 10).trans q89_9
      have q98_10 : bm_FI B97 2 1 (s + 1) = (nI I.2.2.2.length) := (fr_FI hf97 f89_1 hn2 2 1).trans q89_10
      have q98_11 : bm_FI B97 2 2 (s + 1) = (bm_FI B 2 2 (s + 1)) := (fr_FI hf97 f89_1 hn2 2 2).trans q89_11
      have q98_12 : bm_FI B97 2 3 (s + 1) = (bm_FI B 2 3 (s + 1)) := (fr_FI hf97 f89_1 hn2 2 3).trans q89_12
      have q98_13 : bm_FI B97 2 4 (s + 1) = I.2.2.1 := (fr_FI hf97 f89_1 hn2 2 4).trans q89_13
      have r98_0 : bm_FR B97 7 0 s = some (s + 1) := (fr_FR hf97 f89_0 hn1 7 0).trans r89_0
      have r98_1 : bm_FR B97 2 0 (s + 1) = some (s + 1 + 1) := (fr_FR hf97 f89_1 hn2 2 0).trans r89_1
      have u98_0 : bm_AI B97 (s + 1 + 1) = (bm_AI B (s + 1 + 1)) := (fr_AI hf97 f89_2 hn3).trans u89_0
      have w98_0 : bm_AL B97 (s + 1 + 1) = 24 := (fr_AL hf97 f89_2).trans w89_0
      have tv99_0 := tv_mono hx97.1 tv90_0
      have tv99_1 := tv_mono hx97.1 tv90_1
      have tv99_2 := tv_mono hx97.1 tv90_2
      have tv99_3 := tv_mono hx97.1 tv90_3
      have tv99_4 := tv_mono hx97.1 tv90_4
      have tv99_5 := tv_mono hx97.1 tv90_5
      have tv99_6 := tv_mono hx97.1 tv90_6
      have tv99_7 := tv_mono hx97.1 tv90_7
      have tv99_8 := tv_mono hx97.1 tv90_8
      have tv99_9 := tv_mono hx97.1 tv90_9
      have tv99_10 := tv_mono hx97.1 tv90_10
      have tv99_11 := tv_mono hx97.1 tv90_11
      have tv99_12 := tv_mono hx97.1 ht88
      have Z100 : fz (sxs a ca ba da s) B B97 := fz_trans Z95 (fz_mono (fun _ q => Or.inl q) hz97)
      show bm_G _ _ _ 119 _ [.int r97] B97 _
      exact g_reti cd_Se_nextWire rfl ⟨_, rfl, (kk _ _ _ (((hx80.1.trans hx84.1).trans hx88.1).trans hx97.1) (by omega) hT97 (by unfold ss_wire; rw [hbr]; exact ht97) ⟨⟨⟨f98_0, g98_0⟩, r98_0⟩, (RIn_mk (J := I) hR.2.1.1 Z100.1 q98_10 q98_11 q98_12 q98_13 u98_0 rfl hR.2.1.2.1.2 tv99_4 tv99_5 rfl (fun i e he => ⟨tv_mono (((hx80.1.trans hx84.1).trans hx88.1).trans hx97.1) (hR.2.1.2.2.2 i e he).1, (hR.2.1.2.2.2 i e he).2.1, tv_mono (((hx80.1.trans hx84.1).trans hx88.1).trans hx97.1) (hR.2.1.2.2.2 i e he).2.2⟩)), ⟨(tvq q98_0 tv99_0), (tvq q98_1 tv99_1), (tvq q98_2 tv99_2), (tvq q98_3 tv99_12)⟩, ⟨q98_6, q98_7⟩, ⟨q98_8, (fun q => ⟨tvq q98_4 (tv_mono (((hx80.1.trans hx84.1).trans hx88.1).trans hx97.1) (hR.2.2.2.2.1.2 q).1), tvq q98_5 (tv_mono (((hx80.1.trans hx84.1).trans hx88.1).trans hx97.1) (hR.2.2.2.2.1.2 q).2)⟩)⟩, q98_9⟩ Z100)⟩
set_option maxRecDepth 100000 in
theorem t_turnToReceive {sc : tm_X} {d : Nat} {a ca ba da rm dr s : Nat} {B : bm_H} {T : List Tm} {I : IB} {xb xr xm xs : Tm} {n b : Int32} {br : Bool} {bp bo : Tm} {on : Bool} {p : Int32} {P : Tm} {Q : bm_H → Prop} (hT : TI B a ca ba da rm dr T) (hR : RSe B T s (I, xb, xr, xm, xs, n, b, br, bp, bo, on)) (hn1 : ¬ tcs a ca ba da s) (hn2 : ¬ tcs a ca ba da (s + 1)) (hn3 : ¬ tcs a ca ba da (s + 1 + 1)) (hrm : T.length + 3 < rm) (hp : tv T p P) (hk1 : kd xm = 1) (hk2 : kd (pt P 0) = 1) (kk : ∀ B' T', T <+: T' → T'.length ≤ T.length + 3 → TI B' a ca ba da rm dr T' → RSe B' T' s (ss_recv (I, xb, xr, xm, xs, n, b, br, bp, bo, on) P) → fz (sxs a ca ba da s) B B' → Q B') : bm_Gv sc (d + 3) 117 [.ref s, .ref a, .int p] B Q := by
  have hc8 := hR.2.1.2.1.2
  show bm_G sc (d + 3) 117 0 [(0, .ref s), (1, .ref a), (2, .int p)] [] B _
  generalize elv : ([(0, .ref s), (1, .ref a), (2, .int p)] : tm_L) = lv
  have l0 : lv.lookup 0 = some (.ref s) := by rw [← elv]; rfl
  have l1 : lv.lookup 1 = some (.ref a) := by rw [← elv]; rfl
  have l2 : lv.lookup 2 = some (.int p) := by rw [← elv]; rfl
  clear elv
  refine g_ald (pc' := 1) cd_Se_turnToReceive rfl (Or.inr ⟨_, rfl, rfl, rfl⟩) l1 rfl rfl ?_
  refine g_ald (pc' := 2) cd_Se_turnToReceive rfl (Or.inr ⟨_, rfl, rfl, rfl⟩) l0 rfl rfl ?_
  refine g_fI (c := 7) (k := 3) (x := (bm_FI B 7 3 s)) (pc' := 5) cd_Se_turnToReceive rfl rfl rfl rfl rfl (by decide) hR.1.1.1 hR.1.1.2 rfl ?_
  refine g_ild (pc' := 6) cd_Se_turnToReceive rfl (Or.inr ⟨_, rfl, rfl, rfl⟩) l2 rfl ?_
  refine g_calli (pc' := 9) cd_Se_turnToReceive rfl rfl rfl rfl rfl (tm_invV rfl rfl cd_Te_shared rfl (Nat.le_of_ble_eq_true rfl) (by decide) hT.1.1.1 hT.1.1.2) (t_shared hT (by omega) hR.2.2.1.2.2.1 hp hk1 hk2 (fun B101 T101 r101 hx101 ht101 => ?_))
  have hT101 := hx101.2.2.1
  have hl101 := hx101.2.1
  have hf101 := (fz_te hx101.2.2.2).1
  have hz101 := fz_te hx101.2.2.2
  have f102_0 := fr_lt hf101 hR.1.1.1
  have g102_0 := (fr_K hf101 hR.1.1.1).trans hR.1.1.2
  have f102_1 := fr_lt hf101 hR.2.1.1.1.1
  have g102_1 := (fr_K hf101 hR.2.1.1.1.1).trans hR.2.1.1.1.2
  have f102_2 := fr_lt hf101 hR.2.1.1.2.2.1
  have g102_2 := (fr_K hf101 hR.2.1.1.2.2.1).trans hR.2.1.1.2.2.2.1
  have f102_3 := fr_lt hf101 hT.1.1.1
  have g102_3 := (fr_K hf101 hT.1.1.1).trans hT.1.1.2
  have q102_0 : bm_FI B101 7 1 s = (bm_FI B 7 1 s) := (fr_FI hf101 hR.1.1.1 hn1 7 1).trans rfl
  have q102_1 : bm_FI B101 7 2 s = (bm_FI B 7 2 s) := (fr_FI hf101 hR.1.1.1 hn1 7 2).trans rfl
  have q102_2 : bm_FI B101 7 3 s = (bm_FI B 7 3 s) := (fr_FI hf101 hR.1.1.1 hn1 7 3).trans rfl
  have q102_3 : bm_FI B101 7 4 s = (bm_FI B 7 4 s) := (fr_FI hf101 hR.1.1.1 hn1 7 4).trans rfl
  have q102_4 : bm_FI B101 7 8 s = (bm_FI B 7 8 s) := (fr_FI hf101 hR.1.1.1 hn1 7 8).trans rfl
  have q102_5 : bm_FI B101 7 9 s = (bm_FI B 7 9 s) := (fr_FI hf101 hR.1.1.1 hn1 7 9).trans rfl
  have q102_6 : bm_FI B101 7 5 s = n := (fr_FI hf101 hR.1.1.1 hn1 7 5).trans hR.2.2.2.1.1
  have q102_7 : bm_FI B101 7 6 s = b := (fr_FI hf101 hR.1.1.1 hn1 7 6).trans hR.2.2.2.1.2
  have q102_8 : bm_FI B101 7 7 s = bz br := (fr_FI hf101 hR.1.1.1 hn1 7 7).trans hR.2.2.2.2.1.1
  have q102_9 : bm_FI B101 7 10 s = bz on := (fr_FI hf101 hR.1.1.1 hn1 7 10).trans hR.2.2.2.2.2
  have q102_10 : bm_FI B101 2 1 (s + 1) = (nI I.2.2.2.length) := (fr_FI hf101 hR.2.1.1.1.1 hn2 2 1).trans hR.2.1.2.1.1
  have q102_11 : bm_FI B101 2 2 (s + 1) = (bm_FI B 2 2 (s + 1)) := (fr_FI hf101 hR.2.1.1.1.1 hn2 2 2).trans rfl
  have q102_12 : bm_FI B101 2 3 (s + 1) = (bm_FI B 2 3 (s + 1)) := (fr_FI hf101 hR.2.1.1.1.1 hn2 2 3).trans rfl
  have q102_13 : bm_FI B101 2 4 (s + 1) = I.2.2.1 := (fr_FI hf101 hR.2.1.1.1.1 hn2 2 4).trans hR.2.1.2.2.1.2.2
  have r102_0 : bm_FR B101 7 0 s = some (s + 1) := (fr_FR hf101 hR.1.1.1 hn1 7 0).trans hR.1.2
  have r102_1 : bm_FR B101 2 0 (s + 1) = some (s + 1 + 1) := (fr_FR hf101 hR.2.1.1.1.1 hn2 2 0).trans hR.2.1.1.2.1
  have u102_0 : bm_AI B101 (s + 1 + 1) = (bm_AI B (s + 1 + 1)) := (fr_AI hf101 hR.2.1.1.2.2.1 hn3).trans rfl
  have w102_0 : bm_AL B101 (s + 1 + 1) = 24 := (fr_AL hf101 hR.2.1.1.2.2.1).trans hR.2.1.1.2.2.2.2
  have tv103_0 := tv_mono hx101.1 hR.2.2.1.1
  have tv103_1 := tv_mono hx101.1 hR.2.2.1.2.1
  have tv103_2 := tv_mono hx101.1 hR.2.2.1.2.2.1
  have tv103_3 := tv_mono hx101.1 hR.2.2.1.2.2.2
  have tv103_4 := tv_mono hx101.1 hR.2.1.2.2.1.1
  have tv103_5 := tv_mono hx101.1 hR.2.1.2.2.1.2.1
  have tv103_6 := tv_mono hx101.1 hp
  have Z104 : fz (sxs a ca ba da s) B B101 := fz_trans (fz_rfl _ B) (fz_mono (fun _ q => Or.inl q) hz101)
  show bm_G _ _ _ 9 _ [.int r101] B101 _
  refine g_ist (pc' := 10) cd_Se_turnToReceive rfl (Or.inr ⟨_, rfl, rfl, rfl⟩) (by decide) rfl (fun lv el => ?_)
  have l0 := tm_lk el l0 rfl (by decide)
  have l1 := tm_lk el l1 rfl (by decide)
  have l2 := tm_lk el l2 rfl (by decide)
  have l3 : lv.lookup 3 = some (.int r101) := tm_lks el
  clear el
  refine g_ald (pc' := 11) cd_Se_turnToReceive rfl (Or.inr ⟨_, rfl, rfl, rfl⟩) l0 rfl rfl ?_
  refine g_fR (c := 7) (k := 0) (x := (s + 1)) (pc' := 14) cd_Se_turnToReceive rfl rfl rfl rfl rfl (by decide) f102_0 g102_0 r102_0 ?_
  refine g_ald (pc' := 15) cd_Se_turnToReceive rfl (Or.inr ⟨_, rfl, rfl, rfl⟩) l1 rfl rfl ?_
  refine g_k1 (v := 5) (pc' := 16) cd_Se_turnToReceive rfl (by decide) rfl ?_
  refine g_ald (pc' := 17) cd_Se_turnToReceive rfl (Or.inr ⟨_, rfl, rfl, rfl⟩) l0 rfl rfl ?_
  refine g_fI (c := 7) (k := 2) (x := (bm_FI B 7 2 s)) (pc' := 20) cd_Se_turnToReceive rfl rfl rfl rfl rfl (by decide) f102_0 g102_0 q102_1 ?_
  refine g_ild (pc' := 21) cd_Se_turnToReceive rfl (Or.inr ⟨_, rfl, rfl, rfl⟩) l3 rfl ?_
  refine g_calli (pc' := 24) cd_Se_turnToReceive rfl rfl rfl rfl rfl (tm_invV rfl rfl cd_Te_mix rfl (Nat.le_of_ble_eq_true rfl) (by decide) f102_3 g102_3) (t_mix (n := 5) hT101 (by omega) tv103_1 ht101 (fun B105 T105 r105 hx105 ht105 => ?_))
  have hT105 := hx105.2.2.1
  have hl105 := hx105.2.1
  have hf105 := (fz_te hx105.2.2.2).1
  have hz105 := fz_te hx105.2.2.2
  have f106_0 := fr_lt hf105 f102_0
  have g106_0 := (fr_K hf105 f102_0).trans g102_0
  have f106_1 := fr_lt hf105 f102_1
  have g106_1 := (fr_K hf105 f102_1).trans g102_1
  have f106_2 := fr_lt hf105 f102_2
  have g106_2 := (fr_K hf105 f102_2).trans g102_2
  have f106_3 := fr_lt hf105 f102_3
  have g106_3 := (fr_K hf105 f102_3).trans g102_3
  have q106_0 : bm_FI B105 7 1 s = (bm_FI B 7 1 s) := (fr_FI hf105 f102_0 hn1 7 1).trans q102_0
  have q106_1 : bm_FI B105 7 2 s = (bm_FI B 7 2 s) := (fr_FI hf105 f102_0 hn1 7 2).trans q102_1
  have q106_2 : bm_FI B105 7 3 s = (bm_FI B 7 3 s) := (fr_FI hf105 f102_0 hn1 7 3).trans q102_2
  have q106_3 : bm_FI B105 7 4 s = (bm_FI B 7 4 s) := (fr_FI hf105 f102_0 hn1 7 4).trans q102_3
  have q106_4 : bm_FI B105 7 8 s = (bm_FI B 7 8 s) := (fr_FI hf105 f102_0 hn1 7 8).trans q102_4
  have q106_5 : bm_FI B105 7 9 s = (bm_FI B 7 9 s) := (fr_FI hf105 f102_0 hn1 7 9).trans q102_5
  have q106_6 : bm_FI B105 7 5 s = n := (fr_FI hf105 f102_0 hn1 7 5).trans q102_6
  have q106_7 : bm_FI B105 7 6 s = b := (fr_FI hf105 f102_0 hn1 7 6).trans q102_7
  have q106_8 : bm_FI B105 7 7 s = bz br := (fr_FI hf105 f102_0 hn1 7 7).trans q102_8
  have q106_9 : bm_FI B105 7 10 s = bz on := (fr_FI hf105 f102_0 hn1 7 10).trans q102_9
  have q106_10 : bm_FI B105 2 1 (s + 1) = (nI I.2.2.2.length) := (fr_FI hf105 f102_1 hn2 2 1).trans q102_10
  have q106_11 : bm_FI B105 2 2 (s + 1) = (bm_FI B 2 2 (s + 1)) := (fr_FI hf105 f102_1 hn2 2 2).trans q102_11
  have q106_12 : bm_FI B105 2 3 (s + 1) = (bm_FI B 2 3 (s + 1)) := (fr_FI hf105 f102_1 hn2 2 3).trans q102_12
  have q106_13 : bm_FI B105 2 4 (s + 1) = I.2.2.1 := (fr_FI hf105 f102_1 hn2 2 4).trans q102_13
  have r106_0 : bm_FR B105 7 0 s = some (s + 1) := (fr_FR hf105 f102_0 hn1 7 0).trans r102_0
  have r106_1 : bm_FR B105 2 0 (s + 1) = some (s + 1 + 1) := (fr_FR hf105 f102_1 hn2 2 0).trans r102_1
  have u106_0 : bm_AI B105 (s + 1 + 1) = (bm_AI B (s + 1 + 1)) := (fr_AI hf105 f102_2 hn3).trans u102_0
  have w106_0 : bm_AL B105 (s + 1 + 1) = 24 := (fr_AL hf105 f102_2).trans w102_0
  have tv107_0 := tv_mono hx105.1 tv103_0
  have tv107_1 := tv_mono hx105.1 tv103_1
  have tv107_2 := tv_mono hx105.1 tv103_2
  have tv107_3 := tv_mono hx105.1 tv103_3
  have tv107_4 := tv_mono hx105.1 tv103_4
  have tv107_5 := tv_mono hx105.1 tv103_5
  have tv107_6 := tv_mono hx105.1 tv103_6
  have tv107_7 := tv_mono hx105.1 ht101
  have Z108 : fz (sxs a ca ba da s) B B105 := fz_trans Z104 (fz_mono (fun _ q => Or.inl q) hz105)
  show bm_G _ _ _ 24 _ [.int r105, .ref ((s + 1))] B105 _
  refine g_putI (c := 2) (k := 3) (pc' := 27) cd_Se_turnToReceive rfl rfl rfl rfl (by simp [tm_okV, narrow, fits]) (Or.inl rfl) rfl (by decide) f106_1 g106_1 ?_
  have P109 : bm_FI (bm_putI B105 2 3 (s + 1) r105) 2 3 (s + 1) = r105 := if_pos ⟨rfl, rfl, rfl⟩
  have Z110 : fz (sxs a ca ba da s) B (bm_putI B105 2 3 (s + 1) r105) := fz_trans Z108 ⟨fr_mono (fun _ q => Or.inr (Or.inr (Or.inl q))) (fr_putI _ 2 3 (s + 1) _), rfl, rfl⟩
  refine g_ald (pc' := 28) cd_Se_turnToReceive rfl (Or.inr ⟨_, rfl, rfl, rfl⟩) l0 rfl rfl ?_
  refine g_ald (pc' := 29) cd_Se_turnToReceive rfl (Or.inr ⟨_, rfl, rfl, rfl⟩) l1 rfl rfl ?_
  refine g_k1 (v := 4) (pc' := 30) cd_Se_turnToReceive rfl (by decide) rfl ?_
  refine g_ald (pc' := 31) cd_Se_turnToReceive rfl (Or.inr ⟨_, rfl, rfl, rfl⟩) l0 rfl rfl ?_
  refine g_fI (c := 7) (k := 2) (x := (bm_FI B 7 2 s)) (pc' := 34) cd_Se_turnToReceive rfl rfl rfl rfl rfl (by decide) f106_0 g106_0 q106_1 ?_
  refine g_ild (pc' := 35) cd_Se_turnToReceive rfl (Or.inr ⟨_, rfl, rfl, rfl⟩) l3 rfl ?_
  have hT111 : TI (bm_putI B105 2 3 (s + 1) r105) a ca ba da rm dr T105 := hT105
  refine g_calli (pc' := 38) cd_Se_turnToReceive rfl rfl rfl rfl rfl (tm_invV rfl rfl cd_Te_mix rfl (Nat.le_of_ble_eq_true rfl) (by decide) f106_3 g106_3) (t_mix (n := 4) hT111 (by omega) tv107_1 tv107_7 (fun B112 T112 r112 hx112 ht112 => ?_))
  have hT112 := hx112.2.2.1
  have hl112 := hx112.2.1
  have hf112 := (fz_te hx112.2.2.2).1
  have hz112 := fz_te hx112.2.2.2
  have f113_0 := fr_lt hf112 f106_0
  have g113_0 := (fr_K hf112 f106_0).trans g106_0
  have f113_1 := fr_lt hf112 f106_1
  have g113_1 := (fr_K hf112 f106_1).trans g106_1
  have f113_2 := fr_lt hf112 f106_2
  have g113_2 := (fr_K hf112 f106_2).trans g106_2
  have f113_3 := fr_lt hf112 f106_3
  have g113_3 := (fr_K hf112 f106_3).trans g106_3
  have q113_0 : bm_FI B112 7 1 s = (bm_FI B 7 1 s) := (fr_FI hf112 f106_0 hn1 7 1).trans q106_0
  have q113_1 : bm_FI B112 7 2 s = (bm_FI B 7 2 s) := (fr_FI hf112 f106_0 hn1 7 2).trans q106_1
  have q113_2 : bm_FI B112 7 3 s = (bm_FI B 7 3 s) := (fr_FI hf112 f106_0 hn1 7 3).trans q106_2
  have q113_3 : bm_FI B112 7 4 s = (bm_FI B 7 4 s) := (fr_FI hf112 f106_0 hn1 7 4).trans q106_3
  have q113_4 : bm_FI B112 7 8 s = (bm_FI B 7 8 s) := (fr_FI hf112 f106_0 hn1 7 8).trans q106_4
  have q113_5 : bm_FI B112 7 9 s = (bm_FI B 7 9 s) := (fr_FI hf112 f106_0 hn1 7 9).trans q106_5
  have q113_6 : bm_FI B112 7 5 s = n := (fr_FI hf112 f106_0 hn1 7 5).trans q106_6
  have q113_7 : bm_FI B112 7 6 s = b := (fr_FI hf112 f106_0 hn1 7 6).trans q106_7
  have q113_8 : bm_FI B112 7 7 s = bz br := (fr_FI hf112 f106_0 hn1 7 7).trans q106_8
  have q113_9 : bm_FI B112 7 10 s = bz on := (fr_FI hf112 f106_0 hn1 7 10).trans q106_9
  have q113_10 : bm_FI B112 2 1 (s + 1) = (nI I.2.2.2.length) := (fr_FI hf112 f106_1 hn2 2 1).trans q106_10
  have q113_11 : bm_FI B112 2 2 (s + 1) = (bm_FI B 2 2 (s + 1)) := (fr_FI hf112 f106_1 hn2 2 2).trans q106_11
  have q113_12 : bm_FI B112 2 3 (s + 1) = r105 := (fr_FI hf112 f106_1 hn2 2 3).trans P109
  have q113_13 : bm_FI B112 2 4 (s + 1) = I.2.2.1 := (fr_FI hf112 f106_1 hn2 2 4).trans q106_13
  have r113_0 : bm_FR B112 7 0 s = some (s + 1) := (fr_FR hf112 f106_0 hn1 7 0).trans r106_0
  have r113_1 : bm_FR B112 2 0 (s + 1) = some (s + 1 + 1) := (fr_FR hf112 f106_1 hn2 2 0).trans r106_1
  have u113_0 : bm_AI B112 (s + 1 + 1) = (bm_AI B (s + 1 + 1)) := (fr_AI hf112 f106_2 hn3).trans u106_0
  have w113_0 : bm_AL B112 (s + 1 + 1) = 24 := (fr_AL hf112 f106_2).trans w106_0
  have tv114_0 := tv_mono hx112.1 tv107_0
  have tv114_1 := tv_mono hx112.1 tv107_1
  have tv114_2 := tv_mono hx112.1 tv107_2
  have tv114_3 := tv_mono hx112.1 tv107_3
  have tv114_4 := tv_mono hx112.1 tv107_4
  have tv114_5 := tv_mono hx112.1 tv107_5
  have tv114_6 := tv_mono hx112.1 tv107_6
  have tv114_7 := tv_mono hx112.1 tv107_7
  have tv114_8 := tv_mono hx112.1 ht105
  have Z115 : fz (sxs a ca ba da s) B B112 := fz_trans Z110 (fz_mono (fun _ q => Or.inl q) hz112)
  show bm_G _ _ _ 38 _ [.int r112, .ref s] B112 _
  refine g_putI (c := 7) (k := 2) (pc' := 41) cd_Se_turnToReceive rfl rfl rfl rfl (by simp [tm_okV, narrow, fits]) (Or.inl rfl) rfl (by decide) f113_0 g113_0 ?_
  have P116 : bm_FI (bm_putI B112 7 2 s r112) 7 2 s = r112 := if_pos ⟨rfl, rfl, rfl⟩
  have Z117 : fz (sxs a ca ba da s) B (bm_putI B112 7 2 s r112) := fz_trans Z115 ⟨fr_mono (fun _ q => Or.inr (Or.inl q)) (fr_putI _ 7 2 s _), rfl, rfl⟩
  refine g_ald (pc' := 42) cd_Se_turnToReceive rfl (Or.inr ⟨_, rfl, rfl, rfl⟩) l0 rfl rfl ?_
  refine g_fR (c := 7) (k := 0) (x := (s + 1)) (pc' := 45) cd_Se_turnToReceive rfl rfl rfl rfl rfl (by decide) f113_0 g113_0 r113_0 ?_
  refine g_ild (pc' := 46) cd_Se_turnToReceive rfl (Or.inr ⟨_, rfl, rfl, rfl⟩) l2 rfl ?_
  refine g_putI (c := 2) (k := 2) (pc' := 49) cd_Se_turnToReceive rfl rfl rfl rfl (by simp [tm_okV, narrow, fits]) (Or.inl rfl) rfl (by decide) f113_1 g113_1 ?_
  have P118 : bm_FI (bm_putI (bm_putI B112 7 2 s r112) 2 2 (s + 1) p) 2 2 (s + 1) = p := if_pos ⟨rfl, rfl, rfl⟩
  have Z119 : fz (sxs a ca ba da s) B (bm_putI (bm_putI B112 7 2 s r112) 2 2 (s + 1) p) := fz_trans Z117 ⟨fr_mono (fun _ q => Or.inr (Or.inr (Or.inl q))) (fr_putI _ 2 2 (s + 1) _), rfl, rfl⟩
  refine g_ald (pc' := 50) cd_Se_turnToReceive rfl (Or.inr ⟨_, rfl, rfl, rfl⟩) l0 rfl rfl ?_
  refine g_fR (c := 7) (k := 0) (x := (s + 1)) (pc' := 53) cd_Se_turnToReceive rfl rfl rfl rfl rfl (by decide) f113_0 g113_0 r113_0 ?_
  refine g_k1 (v := 0) (pc' := 54) cd_Se_turnToReceive rfl (by decide) rfl ?_
  refine g_putI (c := 2) (k := 4) (pc' := 57) cd_Se_turnToReceive rfl rfl rfl rfl (by simp [tm_okV, narrow, fits]) (Or.inl rfl) rfl (by decide) f113_1 g113_1 ?_
  have P120 : bm_FI (bm_putI (bm_putI (bm_putI B112 7 2 s r112) 2 2 (s + 1) p) 2 4 (s + 1) 0) 2 4 (s + 1) = 0 := if_pos ⟨rfl, rfl, rfl⟩
  have Z121 : fz (sxs a ca ba da s) B (bm_putI (bm_putI (bm_putI B112 7 2 s r112) 2 2 (s + 1) p) 2 4 (s + 1) 0) := fz_trans Z119 ⟨fr_mono (fun _ q => Or.inr (Or.inr (Or.inl q))) (fr_putI _ 2 4 (s + 1) _), rfl, rfl⟩
  refine g_ald (pc' := 58) cd_Se_turnToReceive rfl (Or.inr ⟨_, rfl, rfl, rfl⟩) l0 rfl rfl ?_
  refine g_k1 (v := 0) (pc' := 59) cd_Se_turnToReceive rfl (by decide) rfl ?_
  refine g_putI (c := 7) (k := 4) (pc' := 62) cd_Se_turnToReceive rfl rfl rfl rfl (by simp [tm_okV, narrow, fits]) (Or.inl rfl) rfl (by decide) f113_0 g113_0 ?_
  have P122 : bm_FI (bm_putI (bm_putI (bm_putI (bm_putI B112 7 2 s r112) 2 2 (s + 1) p) 2 4 (s + 1) 0) 7 4 s 0) 7 4 s = 0 := if_pos ⟨rfl, rfl, rfl⟩
  have Z123 : fz (sxs a ca ba da s) B (bm_putI (bm_putI (bm_putI (bm_putI B112 7 2 s r112) 2 2 (s + 1) p) 2 4 (s + 1) 0) 7 4 s 0) := fz_trans Z121 ⟨fr_mono (fun _ q => Or.inr (Or.inl q)) (fr_putI _ 7 4 s _), rfl, rfl⟩
  exact g_retv cd_Se_turnToReceive rfl ⟨rfl, (kk _ _ ((hx101.1.trans hx105.1).trans hx112.1) (by omega) hT112 ⟨⟨⟨f113_0, g113_0⟩, r113_0⟩, (RIn_mk (J := (P, Tmx 5 xr (Tsh xm (pt P 0)), 0, I.2.2.2)) hR.2.1.1 Z123.1 q113_10 P118 q113_12 P120 u113_0 rfl hR.2.1.2.1.2 tv114_6 tv114_8 rfl (fun i e he => ⟨tv_mono ((hx101.1.trans hx105.1).trans hx112.1) (hR.2.1.2.2.2 i e he).1, (hR.2.1.2.2.2 i e he).2.1, tv_mono ((hx101.1.trans hx105.1).trans hx112.1) (hR.2.1.2.2.2 i e he).2.2⟩)), ⟨(tvq q113_0 tv114_0), (tvq P116 ht112), (tvq q113_2 tv114_2), (tvq P122 (TI_z hT112))⟩, ⟨q113_6, q113_7⟩, ⟨q113_8, (fun q => ⟨tvq q113_4 (tv_mono ((hx101.1.trans hx105.1).trans hx112.1) (hR.2.2.2.2.1.2 q).1), tvq q113_5 (tv_mono ((hx101.1.trans hx105.1).trans hx112.1) (hR.2.2.2.2.1.2 q).2)⟩)⟩, q113_9⟩ Z123)⟩
theorem ss_follow_same {S : SS} {p : Tm} {en : Int32} (h1 : p = S.1.1) (h2 : S.1.2.1 ≠ tz) : ss_follow S p en = some S := cif_t ⟨h1, h2⟩
theorem ss_follow_new {S : SS} {p : Tm} {en : Int32} (h : ¬ (p = S.1.1 ∧ S.1.2.1 ≠ tz)) (h2 : ¬ (S.1.2.1 ≠ tz ∧ S.1.2.2.1 < en)) : ss_follow S p en = some (ss_recv S p) := (cif_f h).trans (cif_f h2)
theorem ss_follow_skip {S : SS} {p : Tm} {en : Int32} (h : ¬ (p = S.1.1 ∧ S.1.2.1 ≠ tz)) (h2 : S.1.2.1 ≠ tz ∧ S.1.2.2.1 < en) : ss_follow S p en = (ib_skipTo S.1 en).map fun J => ss_recv (J, S.2) p := (cif_f h).trans (cif_t h2)
theorem RSe_I {B B' : bm_H} {T T' : List Tm} {s : Nat} {X : Nat → Prop} {I J : IB} {ba ro mi se : Tm} {n b : Int32} {br : Bool} {bp bo : Tm} {on : Bool} (h : RSe B T s (I, ba, ro, mi, se, n, b, br, bp, bo, on)) (hf : fr X B B') (n1 : ¬ X s) (hT : T <+: T') (hJ : RIn B' T' (s + 1) J) : RSe B' T' s (J, ba, ro, mi, se, n, b, br, bp, bo, on) := by
  obtain ⟨⟨⟨h1, h2⟩, h3⟩, h4, ⟨t1, t2, t3, t4⟩, ⟨i1, i2⟩, ⟨i3, i4⟩, i5⟩ := h
  have e := fun k => fr_FI hf h1 n1 7 k
  exact ⟨⟨⟨fr_lt hf h1, (fr_K hf h1).trans h2⟩, (fr_FS hf h1 7 0 rfl).trans h3⟩, hJ, ⟨tvq (e 1) (tv_mono hT t1), tvq (e 2) (tv_mono hT t2), tvq (e 3) (tv_mono hT t3), tvq (e 4) (tv_mono hT t4)⟩, ⟨(e 5).trans i1, (e 6).trans i2⟩, ⟨(e 7).trans i3, fun q => ⟨tvq (e 8) (tv_mono hT (i4 q).1), tvq (e 9) (tv_mono hT (i4 q).2)⟩⟩, (e 10).trans i5⟩
set_option maxRecDepth 100000 in
theorem t_follow {sc : tm_X} {d : Nat} {a ca ba da rm dr s : Nat} {B : bm_H} {T : List Tm} {I : IB} {xb xr xm xs : Tm} {n b : Int32} {br : Bool} {bp bo : Tm} {on : Bool} {h : Int32} {H : Tm} {Q : Int32 → bm_H → Prop} (hT : TI B a ca ba da rm dr T) (hR : RSe B T s (I, xb, xr, xm, xs, n, b, br, bp, bo, on)) (hn1 : ¬ tcs a ca ba da s) (hn2 : ¬ tcs a ca ba da (s + 1)) (hn3 : ¬ tcs a ca ba da (s + 1 + 1)) (hrm : T.length + 13 < rm) (hh : tv T h H) (hk1 : kd xm = 1) (hk2 : kd (pt (pt H 1) 0) = 1) (kk0 : ss_follow (I, xb, xr, xm, xs, n, b, br, bp, bo, on) (pt H 1) (nu H 3) = none → Q 0 B) (kk : ∀ S' B' T', ss_follow (I, xb, xr, xm, xs, n, b, br, bp, bo, on) (pt H 1) (nu H 3) = some S' → T <+: T' → T'.length ≤ T.length + 13 → TI B' a ca ba da rm dr T' → RSe B' T' s S' → fz (sxs a ca ba da s) B B' → Q 1 B') : bm_Gi sc (d + 4) 115 [.ref s, .ref a, .int h] B Q := by
  have hc8 := hR.2.1.2.1.2
  show bm_G sc (d + 4) 115 0 [(0, .ref s), (1, .ref a), (2, .int h)] [] B _
  generalize elv : ([(0, .ref s), (1, .ref a), (2, .int h)] : tm_L) = lv
  have l0 : lv.lookup 0 = some (.ref s) := by rw [← elv]; rfl
  have l1 : lv.lookup 1 = some (.ref a) := by rw [← elv]; rfl
  have l2 : lv.lookup 2 = some (.int h) := by rw [← elv]; rfl
  clear elv
  have hch : bm_FI B 2 3 (s + 1) = 0 ↔ I.2.1 = tz := TI_0 hT hR.2.1.2.2.1.2.1
  refine g_ald (pc' := 1) cd_Se_follow rfl (Or.inr ⟨_, rfl, rfl, rfl⟩) l1 rfl rfl ?_
  refine g_ild (pc' := 2) cd_Se_follow rfl (Or.inr ⟨_, rfl, rfl, rfl⟩) l2 rfl ?_
  refine g_k1 (v := 1) (pc' := 3) cd_Se_follow rfl (by decide) rfl ?_
  refine g_calli (pc' := 6) cd_Se_follow rfl rfl rfl rfl rfl (tm_invV rfl rfl cd_Te_partOf rfl (Nat.le_of_ble_eq_true rfl) (by decide) hT.1.1.1 hT.1.1.2) (t_partOf (i := 1) hT hh (by decide) (fun r124 ht124 => ?_))
  show bm_G _ _ _ 6 _ [.int r124] B _
  refine g_ist (pc' := 7) cd_Se_follow rfl (Or.inr ⟨_, rfl, rfl, rfl⟩) (by decide) rfl (fun lv el => ?_)
  have l0 := tm_lk el l0 rfl (by decide)
  have l1 := tm_lk el l1 rfl (by decide)
  have l2 := tm_lk el l2 rfl (by decide)
  have l3 : lv.lookup 3 = some (.int r124) := tm_lks el
  clear el
  refine g_ald (pc' := 8) cd_Se_follow rfl (Or.inr ⟨_, rfl, rfl, rfl⟩) l1 rfl rfl ?_
  refine g_ild (pc' := 9) cd_Se_follow rfl (Or.inr ⟨_, rfl, rfl, rfl⟩) l2 rfl ?_
  refine g_k1 (v := 3) (pc' := 10) cd_Se_follow rfl (by decide) rfl ?_
  refine g_calli (pc' := 13) cd_Se_follow rfl rfl rfl rfl rfl (tm_invV rfl rfl cd_Te_numberOf rfl (Nat.le_of_ble_eq_true rfl) (by decide) hT.1.1.1 hT.1.1.2) (t_numberOf (i := 3) hT hh (by decide) ?_)
  show bm_G _ _ _ 13 _ [.int (nu H 3)] B _
  refine g_ist (pc' := 15) cd_Se_follow rfl (Or.inl ⟨rfl, rfl⟩) (by decide) rfl (fun lv el => ?_)
  have l0 := tm_lk el l0 rfl (by decide)
  have l1 := tm_lk el l1 rfl (by decide)
  have l2 := tm_lk el l2 rfl (by decide)
  have l3 := tm_lk el l3 rfl (by decide)
  have l4 : lv.lookup 4 = some (.int (nu H 3)) := tm_lks el
  clear el
  refine g_ild (pc' := 16) cd_Se_follow rfl (Or.inr ⟨_, rfl, rfl, rfl⟩) l3 rfl ?_
  refine g_ald (pc' := 17) cd_Se_follow rfl (Or.inr ⟨_, rfl, rfl, rfl⟩) l0 rfl rfl ?_
  refine g_fR (c := 7) (k := 0) (x := (s + 1)) (pc' := 20) cd_Se_follow rfl rfl rfl rfl rfl (by decide) hR.1.1.1 hR.1.1.2 hR.1.2 ?_
  refine g_fI (c := 2) (k := 2) (x := (bm_FI B 2 2 (s + 1))) (pc' := 23) cd_Se_follow rfl rfl rfl rfl rfl (by decide) hR.2.1.1.1.1 hR.2.1.1.1.2 rfl ?_
  refine g_if2 (t := 38) (pc' := 26) cd_Se_follow rfl rfl rfl (fun c23 => ?_) (fun c23 => ?_)
  · have c23 : ¬ r124 = (bm_FI B 2 2 (s + 1)) := c23
    refine g_ald (pc' := 39) cd_Se_follow rfl (Or.inr ⟨_, rfl, rfl, rfl⟩) l0 rfl rfl ?_
    refine g_fR (c := 7) (k := 0) (x := (s + 1)) (pc' := 42) cd_Se_follow rfl rfl rfl rfl rfl (by decide) hR.1.1.1 hR.1.1.2 hR.1.2 ?_
    refine g_fI (c := 2) (k := 3) (x := (bm_FI B 2 3 (s + 1))) (pc' := 45) cd_Se_follow rfl rfl rfl rfl rfl (by decide) hR.2.1.1.1.1 hR.2.1.1.1.2 rfl ?_
    refine g_if1 (t := 64) (pc' := 48) cd_Se_follow rfl rfl rfl (fun c45 => ?_) (fun c45 => ?_)
    · have c45 : (bm_FI B 2 3 (s + 1)) = 0 := c45
      refine g_k1 (v := 0) (pc' := 65) cd_Se_follow rfl (by decide) rfl ?_
      refine g_ist (pc' := 67) cd_Se_follow rfl (Or.inl ⟨rfl, rfl⟩) (by decide) rfl (fun lv el => ?_)
      have l0 := tm_lk el l0 rfl (by decide)
      have l1 := tm_lk el l1 rfl (by decide)
      have l2 := tm_lk el l2 rfl (by decide)
      have l3 := tm_lk el l3 rfl (by decide)
      have l4 := tm_lk el l4 rfl (by decide)
      have l5 : lv.lookup 5 = some (.int 0) := tm_lks el
      clear el
      refine g_ild (pc' := 69) cd_Se_follow rfl (Or.inl ⟨rfl, rfl⟩) l5 rfl ?_
      refine g_if1 (t := 87) (pc' := 72) cd_Se_follow rfl rfl rfl (fun c69 => ?_) (fun c69 => ?_)
      · have c69 : (0 : Int32) = 0 := c69
        refine g_ald (pc' := 88) cd_Se_follow rfl (Or.inr ⟨_, rfl, rfl, rfl⟩) l0 rfl rfl ?_
        refine g_ald (pc' := 89) cd_Se_follow rfl (Or.inr ⟨_, rfl, rfl, rfl⟩) l1 rfl rfl ?_
        refine g_ild (pc' := 90) cd_Se_follow rfl (Or.inr ⟨_, rfl, rfl, rfl⟩) l3 rfl ?_
        refine g_callv (pc' := 93) cd_Se_follow rfl rfl rfl rfl rfl (tm_invV rfl rfl cd_Se_turnToReceive rfl (Nat.le_of_ble_eq_true rfl) (by decide) hR.1.1.1 hR.1.1.2) (t_turnToReceive hT hR hn1 hn2 hn3 (by omega) ht124 hk1 hk2 (fun B2 T2 hp2 hl2 hT2 hR2 hz2 => ?_))
        show bm_G _ _ _ 93 _ [] B2 _
        refine g_k1 (v := 1) (pc' := 94) cd_Se_follow rfl (by decide) rfl ?_
        exact g_retz cd_Se_follow rfl (Or.inr rfl) ⟨_, rfl, (kk _ B2 T2 (ss_follow_new (fun q => c23 ((TI_eq hT ht124 hR.2.1.2.2.1.1).mpr q.1)) (fun q => q.1 (hch.mp c45))) hp2 (by omega) hT2 hR2 hz2)⟩
      · exact absurd (show ¬ (0 : Int32) = 0 from c69) (by decide)
    · have c45 : ¬ (bm_FI B 2 3 (s + 1)) = 0 := c45
      refine g_ild (pc' := 50) cd_Se_follow rfl (Or.inl ⟨rfl, rfl⟩) l4 rfl ?_
      refine g_ald (pc' := 51) cd_Se_follow rfl (Or.inr ⟨_, rfl, rfl, rfl⟩) l0 rfl rfl ?_
      refine g_fR (c := 7) (k := 0) (x := (s + 1)) (pc' := 54) cd_Se_follow rfl rfl rfl rfl rfl (by decide) hR.1.1.1 hR.1.1.2 hR.1.2 ?_
      refine g_fI (c := 2) (k := 4) (x := I.2.2.1) (pc' := 57) cd_Se_follow rfl rfl rfl rfl rfl (by decide) hR.2.1.1.1.1 hR.2.1.1.1.2 hR.2.1.2.2.1.2.2 ?_
      refine g_if2 (t := 64) (pc' := 60) cd_Se_follow rfl rfl rfl (fun c57 => ?_) (fun c57 => ?_)
      · have c57 : (nu H 3) ≤ I.2.2.1 := c57
        refine g_k1 (v := 0) (pc' := 65) cd_Se_follow rfl (by decide) rfl ?_
        refine g_ist (pc' := 67) cd_Se_follow rfl (Or.inl ⟨rfl, rfl⟩) (by decide) rfl (fun lv el => ?_)
        have l0 := tm_lk el l0 rfl (by decide)
        have l1 := tm_lk el l1 rfl (by decide)
        have l2 := tm_lk el l2 rfl (by decide)
        have l3 := tm_lk el l3 rfl (by decide)
        have l4 := tm_lk el l4 rfl (by decide)
        have l5 : lv.lookup 5 = some (.int 0) := tm_lks el
        clear el
        refine g_ild (pc' := 69) cd_Se_follow rfl (Or.inl ⟨rfl, rfl⟩) l5 rfl ?_
        refine g_if1 (t := 87) (pc' := 72) cd_Se_follow rfl rfl rfl (fun c69 => ?_) (fun c69 => ?_)
        · have c69 : (0 : Int32) = 0 := c69
          refine g_ald (pc' := 88) cd_Se_follow rfl (Or.inr ⟨_, rfl, rfl, rfl⟩) l0 rfl rfl ?_
          refine g_ald (pc' := 89) cd_Se_follow rfl (Or.inr ⟨_, rfl, rfl, rfl⟩) l1 rfl rfl ?_
          refine g_ild (pc' := 90) cd_Se_follow rfl (Or.inr ⟨_, rfl, rfl, rfl⟩) l3 rfl ?_
          refine g_callv (pc' := 93) cd_Se_follow rfl rfl rfl rfl rfl (tm_invV rfl rfl cd_Se_turnToReceive rfl (Nat.le_of_ble_eq_true rfl) (by decide) hR.1.1.1 hR.1.1.2) (t_turnToReceive hT hR hn1 hn2 hn3 (by omega) ht124 hk1 hk2 (fun B2 T2 hp2 hl2 hT2 hR2 hz2 => ?_))
          show bm_G _ _ _ 93 _ [] B2 _
          refine g_k1 (v := 1) (pc' := 94) cd_Se_follow rfl (by decide) rfl ?_
          exact g_retz cd_Se_follow rfl (Or.inr rfl) ⟨_, rfl, (kk _ B2 T2 (ss_follow_new (fun q => c23 ((TI_eq hT ht124 hR.2.1.2.2.1.1).mpr q.1)) (fun q => absurd q.2 (Int32.not_lt.mpr c57))) hp2 (by omega) hT2 hR2 hz2)⟩
        · exact absurd (show ¬ (0 : Int32) = 0 from c69) (by decide)
      · have c57 : ¬ (nu H 3) ≤ I.2.2.1 := c57
        refine g_k1 (v := 1) (pc' := 61) cd_Se_follow rfl (by decide) rfl ?_
        refine g_pure (pc' := 65) (st' := [.int 1]) cd_Se_follow rfl rfl (fun _ _ => rfl) ?_
        refine g_ist (pc' := 67) cd_Se_follow rfl (Or.inl ⟨rfl, rfl⟩) (by decide) rfl (fun lv el => ?_)
        have l0 := tm_lk el l0 rfl (by decide)
        have l1 := tm_lk el l1 rfl (by decide)
        have l2 := tm_lk el l2 rfl (by decide)
        have l3 := tm_lk el l3 rfl (by decide)
        have l4 := tm_lk el l4 rfl (by decide)
        have l5 : lv.lookup 5 = some (.int 1) := tm_lks el
        clear el
        refine g_ild (pc' := 69) cd_Se_follow rfl (Or.inl ⟨rfl, rfl⟩) l5 rfl ?_
        refine g_if1 (t := 87) (pc' := 72) cd_Se_follow rfl rfl rfl (fun c69 => ?_) (fun c69 => ?_)
        · exact absurd (show (1 : Int32) = 0 from c69) (by decide)
        · have c69 : ¬ (1 : Int32) = 0 := c69
          refine g_ald (pc' := 73) cd_Se_follow rfl (Or.inr ⟨_, rfl, rfl, rfl⟩) l0 rfl rfl ?_
          refine g_fR (c := 7) (k := 0) (x := (s + 1)) (pc' := 76) cd_Se_follow rfl rfl rfl rfl rfl (by decide) hR.1.1.1 hR.1.1.2 hR.1.2 ?_
          refine g_ald (pc' := 77) cd_Se_follow rfl (Or.inr ⟨_, rfl, rfl, rfl⟩) l1 rfl rfl ?_
          refine g_ild (pc' := 79) cd_Se_follow rfl (Or.inl ⟨rfl, rfl⟩) l4 rfl ?_
          refine g_calli (pc' := 82) cd_Se_follow rfl rfl rfl rfl rfl (tm_invV rfl rfl cd_In_skipTo rfl (Nat.le_of_ble_eq_true rfl) (by decide) hR.2.1.1.1.1 hR.2.1.1.1.2) (t_skipTo hT hR.2.1 (by omega) hn2 hn3 (fun hs => ?_) (fun Js Bs Ts hs hps hls hTs hRs hzs => ?_))
          · skip
            show bm_G _ _ _ 82 _ [.int 0] B _
            refine g_if1 (t := 87) (pc' := 85) cd_Se_follow rfl rfl rfl (fun c82 => ?_) (fun c82 => ?_)
            · exact absurd (show ¬ (0 : Int32) = 0 from c82) (by decide)
            · have c82 : (0 : Int32) = 0 := Classical.not_not.mp c82
              refine g_k1 (v := 0) (pc' := 86) cd_Se_follow rfl (by decide) rfl ?_
              exact g_retz cd_Se_follow rfl (Or.inl rfl) ⟨_, rfl, (kk0 ((ss_follow_skip (fun q => c23 ((TI_eq hT ht124 hR.2.1.2.2.1.1).mpr q.1)) ⟨fun q => c45 (hch.mpr q), Int32.not_le.mp c57⟩).trans (by rw [hs]; rfl)))⟩
          · skip
            have hRS := RSe_I hR hzs.1 (fun q => q.elim hn1 (fun q => by omega)) hps hRs
            show bm_G _ _ _ 82 _ [.int 1] Bs _
            refine g_if1 (t := 87) (pc' := 85) cd_Se_follow rfl rfl rfl (fun c82 => ?_) (fun c82 => ?_)
            · have c82 : ¬ (1 : Int32) = 0 := c82
              refine g_ald (pc' := 88) cd_Se_follow rfl (Or.inr ⟨_, rfl, rfl, rfl⟩) l0 rfl rfl ?_
              refine g_ald (pc' := 89) cd_Se_follow rfl (Or.inr ⟨_, rfl, rfl, rfl⟩) l1 rfl rfl ?_
              refine g_ild (pc' := 90) cd_Se_follow rfl (Or.inr ⟨_, rfl, rfl, rfl⟩) l3 rfl ?_
              refine g_callv (pc' := 93) cd_Se_follow rfl rfl rfl rfl rfl (tm_invV rfl rfl cd_Se_turnToReceive rfl (Nat.le_of_ble_eq_true rfl) (by decide) hRS.1.1.1 hRS.1.1.2) (t_turnToReceive hTs hRS hn1 hn2 hn3 (by omega) (tv_mono hps ht124) hk1 hk2 (fun B2 T2 hp2 hl2 hT2 hR2 hz2 => ?_))
              show bm_G _ _ _ 93 _ [] B2 _
              refine g_k1 (v := 1) (pc' := 94) cd_Se_follow rfl (by decide) rfl ?_
              exact g_retz cd_Se_follow rfl (Or.inr rfl) ⟨_, rfl, (kk _ B2 T2 ((ss_follow_skip (fun q => c23 ((TI_eq hT ht124 hR.2.1.2.2.1.1).mpr q.1)) ⟨fun q => c45 (hch.mpr q), Int32.not_le.mp c57⟩).trans (by rw [hs]; rfl)) (hps.trans hp2) (by omega) hT2 hR2 (fz_trans (fz_mono (fun _ q => q.elim Or.inl Or.inr) (fz_mono (fun _ q => q.elim Or.inl (fun q => q.elim (fun q => Or.inr (Or.inr (Or.inl q))) (fun q => Or.inr (Or.inr (Or.inr q))))) hzs)) hz2))⟩
            · exact absurd (show ¬ (¬ (1 : Int32) = 0) from c82) (by decide)
  · have c23 : r124 = (bm_FI B 2 2 (s + 1)) := Classical.not_not.mp c23
    refine g_ald (pc' := 27) cd_Se_follow rfl (Or.inr ⟨_, rfl, rfl, rfl⟩) l0 rfl rfl ?_
    refine g_fR (c := 7) (k := 0) (x := (s + 1)) (pc' := 30) cd_Se_follow rfl rfl rfl rfl rfl (by decide) hR.1.1.1 hR.1.1.2 hR.1.2 ?_
    refine g_fI (c := 2) (k := 3) (x := (bm_FI B 2 3 (s + 1))) (pc' := 33) cd_Se_follow rfl rfl rfl rfl rfl (by decide) hR.2.1.1.1.1 hR.2.1.1.1.2 rfl ?_
    refine g_if1 (t := 38) (pc' := 36) cd_Se_follow rfl rfl rfl (fun c33 => ?_) (fun c33 => ?_)
    · have c33 : (bm_FI B 2 3 (s + 1)) = 0 := c33
      refine g_ald (pc' := 39) cd_Se_follow rfl (Or.inr ⟨_, rfl, rfl, rfl⟩) l0 rfl rfl ?_
      refine g_fR (c := 7) (k := 0) (x := (s + 1)) (pc' := 42) cd_Se_follow rfl rfl rfl rfl rfl (by decide) hR.1.1.1 hR.1.1.2 hR.1.2 ?_
      refine g_fI (c := 2) (k := 3) (x := (bm_FI B 2 3 (s + 1))) (pc' := 45) cd_Se_follow rfl rfl rfl rfl rfl (by decide) hR.2.1.1.1.1 hR.2.1.1.1.2 rfl ?_
      refine g_if1 (t := 64) (pc' := 48) cd_Se_follow rfl rfl rfl (fun c45 => ?_) (fun c45 => ?_)
      · have c45 : (bm_FI B 2 3 (s + 1)) = 0 := c45
        refine g_k1 (v := 0) (pc' := 65) cd_Se_follow rfl (by decide) rfl ?_
        refine g_ist (pc' := 67) cd_Se_follow rfl (Or.inl ⟨rfl, rfl⟩) (by decide) rfl (fun lv el => ?_)
        have l0 := tm_lk el l0 rfl (by decide)
        have l1 := tm_lk el l1 rfl (by decide)
        have l2 := tm_lk el l2 rfl (by decide)
        have l3 := tm_lk el l3 rfl (by decide)
        have l4 := tm_lk el l4 rfl (by decide)
        have l5 : lv.lookup 5 = some (.int 0) := tm_lks el
        clear el
        refine g_ild (pc' := 69) cd_Se_follow rfl (Or.inl ⟨rfl, rfl⟩) l5 rfl ?_
        refine g_if1 (t := 87) (pc' := 72) cd_Se_follow rfl rfl rfl (fun c69 => ?_) (fun c69 => ?_)
        · have c69 : (0 : Int32) = 0 := c69
          refine g_ald (pc' := 88) cd_Se_follow rfl (Or.inr ⟨_, rfl, rfl, rfl⟩) l0 rfl rfl ?_
          refine g_ald (pc' := 89) cd_Se_follow rfl (Or.inr ⟨_, rfl, rfl, rfl⟩) l1 rfl rfl ?_
          refine g_ild (pc' := 90) cd_Se_follow rfl (Or.inr ⟨_, rfl, rfl, rfl⟩) l3 rfl ?_
          refine g_callv (pc' := 93) cd_Se_follow rfl rfl rfl rfl rfl (tm_invV rfl rfl cd_Se_turnToReceive rfl (Nat.le_of_ble_eq_true rfl) (by decide) hR.1.1.1 hR.1.1.2) (t_turnToReceive hT hR hn1 hn2 hn3 (by omega) ht124 hk1 hk2 (fun B2 T2 hp2 hl2 hT2 hR2 hz2 => ?_))
          show bm_G _ _ _ 93 _ [] B2 _
          refine g_k1 (v := 1) (pc' := 94) cd_Se_follow rfl (by decide) rfl ?_
          exact g_retz cd_Se_follow rfl (Or.inr rfl) ⟨_, rfl, (kk _ B2 T2 (ss_follow_new (fun q => q.2 (hch.mp c33)) (fun q => q.1 (hch.mp c45))) hp2 (by omega) hT2 hR2 hz2)⟩
        · exact absurd (show ¬ (0 : Int32) = 0 from c69) (by decide)
      · have c45 : ¬ (bm_FI B 2 3 (s + 1)) = 0 := c45
        refine g_ild (pc' := 50) cd_Se_follow rfl (Or.inl ⟨rfl, rfl⟩) l4 rfl ?_
        refine g_ald (pc' := 51) cd_Se_follow rfl (Or.inr ⟨_, rfl, rfl, rfl⟩) l0 rfl rfl ?_
        refine g_fR (c := 7) (k := 0) (x := (s + 1)) (pc' := 54) cd_Se_follow rfl rfl rfl rfl rfl (by decide) hR.1.1.1 hR.1.1.2 hR.1.2 ?_
        refine g_fI (c := 2) (k := 4) (x := I.2.2.1) (pc' := 57) cd_Se_follow rfl rfl rfl rfl rfl (by decide) hR.2.1.1.1.1 hR.2.1.1.1.2 hR.2.1.2.2.1.2.2 ?_
        refine g_if2 (t := 64) (pc' := 60) cd_Se_follow rfl rfl rfl (fun c57 => ?_) (fun c57 => ?_)
        · have c57 : (nu H 3) ≤ I.2.2.1 := c57
          refine g_k1 (v := 0) (pc' := 65) cd_Se_follow rfl (by decide) rfl ?_
          refine g_ist (pc' := 67) cd_Se_follow rfl (Or.inl ⟨rfl, rfl⟩) (by decide) rfl (fun lv el => ?_)
          have l0 := tm_lk el l0 rfl (by decide)
          have l1 := tm_lk el l1 rfl (by decide)
          have l2 := tm_lk el l2 rfl (by decide)
          have l3 := tm_lk el l3 rfl (by decide)
          have l4 := tm_lk el l4 rfl (by decide)
          have l5 : lv.lookup 5 = some (.int 0) := tm_lks el
          clear el
          refine g_ild (pc' := 69) cd_Se_follow rfl (Or.inl ⟨rfl, rfl⟩) l5 rfl ?_
          refine g_if1 (t := 87) (pc' := 72) cd_Se_follow rfl rfl rfl (fun c69 => ?_) (fun c69 => ?_)
          · have c69 : (0 : Int32) = 0 := c69
            refine g_ald (pc' := 88) cd_Se_follow rfl (Or.inr ⟨_, rfl, rfl, rfl⟩) l0 rfl rfl ?_
            refine g_ald (pc' := 89) cd_Se_follow rfl (Or.inr ⟨_, rfl, rfl, rfl⟩) l1 rfl rfl ?_
            refine g_ild (pc' := 90) cd_Se_follow rfl (Or.inr ⟨_, rfl, rfl, rfl⟩) l3 rfl ?_
            refine g_callv (pc' := 93) cd_Se_follow rfl rfl rfl rfl rfl (tm_invV rfl rfl cd_Se_turnToReceive rfl (Nat.le_of_ble_eq_true rfl) (by decide) hR.1.1.1 hR.1.1.2) (t_turnToReceive hT hR hn1 hn2 hn3 (by omega) ht124 hk1 hk2 (fun B2 T2 hp2 hl2 hT2 hR2 hz2 => ?_))
            show bm_G _ _ _ 93 _ [] B2 _
            refine g_k1 (v := 1) (pc' := 94) cd_Se_follow rfl (by decide) rfl ?_
            exact g_retz cd_Se_follow rfl (Or.inr rfl) ⟨_, rfl, (kk _ B2 T2 (ss_follow_new (fun q => q.2 (hch.mp c33)) (fun q => absurd q.2 (Int32.not_lt.mpr c57))) hp2 (by omega) hT2 hR2 hz2)⟩
          · exact absurd (show ¬ (0 : Int32) = 0 from c69) (by decide)
        · have c57 : ¬ (nu H 3) ≤ I.2.2.1 := c57
          refine g_k1 (v := 1) (pc' := 61) cd_Se_follow rfl (by decide) rfl ?_
          refine g_pure (pc' := 65) (st' := [.int 1]) cd_Se_follow rfl rfl (fun _ _ => rfl) ?_
          refine g_ist (pc' := 67) cd_Se_follow rfl (Or.inl ⟨rfl, rfl⟩) (by decide) rfl (fun lv el => ?_)
          have l0 := tm_lk el l0 rfl (by decide)
          have l1 := tm_lk el l1 rfl (by decide)
          have l2 := tm_lk el l2 rfl (by decide)
          have l3 := tm_lk el l3 rfl (by decide)
          have l4 := tm_lk el l4 rfl (by decide)
          have l5 : lv.lookup 5 = some (.int 1) := tm_lks el
          clear el
          refine g_ild (pc' := 69) cd_Se_follow rfl (Or.inl ⟨rfl, rfl⟩) l5 rfl ?_
          refine g_if1 (t := 87) (pc' := 72) cd_Se_follow rfl rfl rfl (fun c69 => ?_) (fun c69 => ?_)
          · exact absurd (show (1 : Int32) = 0 from c69) (by decide)
          · have c69 : ¬ (1 : Int32) = 0 := c69
            refine g_ald (pc' := 73) cd_Se_follow rfl (Or.inr ⟨_, rfl, rfl, rfl⟩) l0 rfl rfl ?_
            refine g_fR (c := 7) (k := 0) (x := (s + 1)) (pc' := 76) cd_Se_follow rfl rfl rfl rfl rfl (by decide) hR.1.1.1 hR.1.1.2 hR.1.2 ?_
            refine g_ald (pc' := 77) cd_Se_follow rfl (Or.inr ⟨_, rfl, rfl, rfl⟩) l1 rfl rfl ?_
            refine g_ild (pc' := 79) cd_Se_follow rfl (Or.inl ⟨rfl, rfl⟩) l4 rfl ?_
            refine g_calli (pc' := 82) cd_Se_follow rfl rfl rfl rfl rfl (tm_invV rfl rfl cd_In_skipTo rfl (Nat.le_of_ble_eq_true rfl) (by decide) hR.2.1.1.1.1 hR.2.1.1.1.2) (t_skipTo hT hR.2.1 (by omega) hn2 hn3 (fun hs => ?_) (fun Js Bs Ts hs hps hls hTs hRs hzs => ?_))
            · skip
              show bm_G _ _ _ 82 _ [.int 0] B _
              refine g_if1 (t := 87) (pc' := 85) cd_Se_follow rfl rfl rfl (fun c82 => ?_) (fun c82 => ?_)
              · exact absurd (show ¬ (0 : Int32) = 0 from c82) (by decide)
              · have c82 : (0 : Int32) = 0 := Classical.not_not.mp c82
                refine g_k1 (v := 0) (pc' := 86) cd_Se_follow rfl (by decide) rfl ?_
                exact g_retz cd_Se_follow rfl (Or.inl rfl) ⟨_, rfl, (kk0 ((ss_follow_skip (fun q => q.2 (hch.mp c33)) ⟨fun q => c45 (hch.mpr q), Int32.not_le.mp c57⟩).trans (by rw [hs]; rfl)))⟩
            · skip
              have hRS := RSe_I hR hzs.1 (fun q => q.elim hn1 (fun q => by omega)) hps hRs
              show bm_G _ _ _ 82 _ [.int 1] Bs _
              refine g_if1 (t := 87) (pc' := 85) cd_Se_follow rfl rfl rfl (fun c82 => ?_) (fun c82 => ?_)
              · have c82 : ¬ (1 : Int32) = 0 := c82
                refine g_ald (pc' := 88) cd_Se_follow rfl (Or.inr ⟨_, rfl, rfl, rfl⟩) l0 rfl rfl ?_
                refine g_ald (pc' := 89) cd_Se_follow rfl (Or.inr ⟨_, rfl, rfl, rfl⟩) l1 rfl rfl ?_
                refine g_ild (pc' := 90) cd_Se_follow rfl (Or.inr ⟨_, rfl, rfl, rfl⟩) l3 rfl ?_
                refine g_callv (pc' := 93) cd_Se_follow rfl rfl rfl rfl rfl (tm_invV rfl rfl cd_Se_turnToReceive rfl (Nat.le_of_ble_eq_true rfl) (by decide) hRS.1.1.1 hRS.1.1.2) (t_turnToReceive hTs hRS hn1 hn2 hn3 (by omega) (tv_mono hps ht124) hk1 hk2 (fun B2 T2 hp2 hl2 hT2 hR2 hz2 => ?_))
                show bm_G _ _ _ 93 _ [] B2 _
                refine g_k1 (v := 1) (pc' := 94) cd_Se_follow rfl (by decide) rfl ?_
                exact g_retz cd_Se_follow rfl (Or.inr rfl) ⟨_, rfl, (kk _ B2 T2 ((ss_follow_skip (fun q => q.2 (hch.mp c33)) ⟨fun q => c45 (hch.mpr q), Int32.not_le.mp c57⟩).trans (by rw [hs]; rfl)) (hps.trans hp2) (by omega) hT2 hR2 (fz_trans (fz_mono (fun _ q => q.elim Or.inl Or.inr) (fz_mono (fun _ q => q.elim Or.inl (fun q => q.elim (fun q => Or.inr (Or.inr (Or.inl q))) (fun q => Or.inr (Or.inr (Or.inr q))))) hzs)) hz2))⟩
              · exact absurd (show ¬ (¬ (1 : Int32) = 0) from c82) (by decide)
    · have c33 : ¬ (bm_FI B 2 3 (s + 1)) = 0 := c33
      refine g_k1 (v := 1) (pc' := 37) cd_Se_follow rfl (by decide) rfl ?_
      exact g_retz cd_Se_follow rfl (Or.inr rfl) ⟨_, rfl, (kk _ B T (ss_follow_same ((TI_eq hT ht124 hR.2.1.2.2.1.1).mp c23) (fun q => c33 (hch.mpr q))) (List.prefix_refl T) (by omega) hT hR (fz_rfl _ B))⟩
theorem t_Sstart {sc : tm_X} {d : Nat} {a ca ba da rm dr s : Nat} {B : bm_H} {T : List Tm} {x1 x2 x3 : Int32} {xb xm xr : Tm} {o : Bool} {c : Nat} {Q : bm_H → Prop} (hT : TI B a ca ba da rm dr T) (hS : SeS B s) (hc : bm_FI B 2 1 (s + 1) = nI c ∧ c ≤ 8) (hn1 : ¬ tcs a ca ba da s) (hn2 : ¬ tcs a ca ba da (s + 1)) (h1 : tv T x1 xb) (h2 : tv T x2 xm) (h3 : tv T x3 xr) (kk : ∀ B', TI B' a ca ba da rm dr T → RSe B' T s (ss_start xb xm xr o) → fz (fun y => y = s ∨ y = s + 1) B B' → Q B') : bm_Gv sc (d + 1) 81 [.ref s, .int x1, .int x2, .int x3, .int (bz o)] B Q := by
  show bm_G sc (d + 1) 81 0 [(0, .ref s), (1, .int x1), (2, .int x2), (3, .int x3), (4, .int (bz o))] [] B _
  generalize elv : ([(0, .ref s), (1, .int x1), (2, .int x2), (3, .int x3), (4, .int (bz o))] : tm_L) = lv
  have l0 : lv.lookup 0 = some (.ref s) := by rw [← elv]; rfl
  have l1 : lv.lookup 1 = some (.int x1) := by rw [← elv]; rfl
  have l2 : lv.lookup 2 = some (.int x2) := by rw [← elv]; rfl
  have l3 : lv.lookup 3 = some (.int x3) := by rw [← elv]; rfl
  have l4 : lv.lookup 4 = some (.int (bz o)) := by rw [← elv]; rfl
  clear elv
  refine g_ald (pc' := 1) cd_Se_start rfl (Or.inr ⟨_, rfl, rfl, rfl⟩) l0 rfl rfl ?_
  refine g_fR (c := 7) (k := 0) (x := (s + 1)) (pc' := 4) cd_Se_start rfl rfl rfl rfl rfl (by decide) hS.1.1 hS.1.2 hS.2.1 ?_
  refine g_k1 (v := 0) (pc' := 5) cd_Se_start rfl (by decide) rfl ?_
  refine g_k1 (v := 0) (pc' := 6) cd_Se_start rfl (by decide) rfl ?_
  refine g_k1 (v := 0) (pc' := 7) cd_Se_start rfl (by decide) rfl ?_
  refine g_callv (pc' := 10) cd_Se_start rfl rfl rfl rfl rfl (tm_invV rfl rfl cd_In_start rfl (Nat.le_of_ble_eq_true rfl) (by decide) hS.2.2.1.1 hS.2.2.1.2) (t_Istart (T := T) (c := c) ⟨hS.2.2.1, hS.2.2.2.1, hS.2.2.2.2, hc⟩ (TI_z hT) (TI_z hT) (fun B1 hR1 hz1 => ?_))
  have f125_0 := fr_lt hz1.1 hS.1.1
  have g125_0 := (fr_K hz1.1 hS.1.1).trans hS.1.2
  have f125_1 := fr_lt hz1.1 hS.2.2.1.1
  have g125_1 := (fr_K hz1.1 hS.2.2.1.1).trans hS.2.2.1.2
  have r125_0 : bm_FR B1 7 0 s = some (s + 1) := (fr_FR hz1.1 hS.1.1 (by omega) 7 0).trans hS.2.1
  have Z0 : fz (fun y => y = s ∨ y = s + 1) B B1 := fz_mono (fun _ q => Or.inr q) hz1
  have hT1 := TI_fr hT hz1.1 (fun q => hn2 (Or.inl q.symm)) (fun q => hn2 (Or.inr (Or.inl q.symm))) (fun q => hn2 (Or.inr (Or.inr (Or.inl q.symm))))
  show bm_G _ _ _ 10 _ [] B1 _
  refine g_ald (pc' := 11) cd_Se_start rfl (Or.inr ⟨_, rfl, rfl, rfl⟩) l0 rfl rfl ?_
  refine g_ild (pc' := 12) cd_Se_start rfl (Or.inr ⟨_, rfl, rfl, rfl⟩) l1 rfl ?_
  refine g_putI (c := 7) (k := 1) (pc' := 15) cd_Se_start rfl rfl rfl rfl (by simp [tm_okV, narrow, fits]) (Or.inl rfl) rfl (by decide) f125_0 g125_0 ?_
  have P126 : bm_FI (bm_putI B1 7 1 s x1) 7 1 s = x1 := if_pos ⟨rfl, rfl, rfl⟩
  have Z127 : fz (fun y => y = s ∨ y = s + 1) B (bm_putI B1 7 1 s x1) := fz_trans Z0 ⟨fr_mono (fun _ q => Or.inl q) (fr_putI _ 7 1 s _), rfl, rfl⟩
  refine g_ald (pc' := 16) cd_Se_start rfl (Or.inr ⟨_, rfl, rfl, rfl⟩) l0 rfl rfl ?_
  refine g_ild (pc' := 17) cd_Se_start rfl (Or.inr ⟨_, rfl, rfl, rfl⟩) l2 rfl ?_
  refine g_putI (c := 7) (k := 3) (pc' := 20) cd_Se_start rfl rfl rfl rfl (by simp [tm_okV, narrow, fits]) (Or.inl rfl) rfl (by decide) f125_0 g125_0 ?_
  have P128 : bm_FI (bm_putI (bm_putI B1 7 1 s x1) 7 3 s x2) 7 3 s = x2 := if_pos ⟨rfl, rfl, rfl⟩
  have Z129 : fz (fun y => y = s ∨ y = s + 1) B (bm_putI (bm_putI B1 7 1 s x1) 7 3 s x2) := fz_trans Z127 ⟨fr_mono (fun _ q => Or.inl q) (fr_putI _ 7 3 s _), rfl, rfl⟩
  refine g_ald (pc' := 21) cd_Se_start rfl (Or.inr ⟨_, rfl, rfl, rfl⟩) l0 rfl rfl ?_
  refine g_ild (pc' := 22) cd_Se_start rfl (Or.inr ⟨_, rfl, rfl, rfl⟩) l3 rfl ?_
  refine g_putI (c := 7) (k := 2) (pc' := 25) cd_Se_start rfl rfl rfl rfl (by simp [tm_okV, narrow, fits]) (Or.inl rfl) rfl (by decide) f125_0 g125_0 ?_
  have P130 : bm_FI (bm_putI (bm_putI (bm_putI B1 7 1 s x1) 7 3 s x2) 7 2 s x3) 7 2 s = x3 := if_pos ⟨rfl, rfl, rfl⟩
  have Z131 : fz (fun y => y = s ∨ y = s + 1) B (bm_putI (bm_putI (bm_putI B1 7 1 s x1) 7 3 s x2) 7 2 s x3) := fz_trans Z129 ⟨fr_mono (fun _ q => Or.inl q) (fr_putI _ 7 2 s _), rfl, rfl⟩
  refine g_ald (pc' := 26) cd_Se_start rfl (Or.inr ⟨_, rfl, rfl, rfl⟩) l0 rfl rfl ?_
  refine g_k1 (v := 0) (pc' := 27) cd_Se_start rfl (by decide) rfl ?_
  refine g_putI (c := 7) (k := 4) (pc' := 30) cd_Se_start rfl rfl rfl rfl (by simp [tm_okV, narrow, fits]) (Or.inl rfl) rfl (by decide) f125_0 g125_0 ?_
  have P132 : bm_FI (bm_putI (bm_putI (bm_putI (bm_putI B1 7 1 s x1) 7 3 s x2) 7 2 s x3) 7 4 s 0) 7 4 s = 0 := if_pos ⟨rfl, rfl, rfl⟩
  have Z133 : fz (fun y => y = s ∨ y = s + 1) B (bm_putI (bm_putI (bm_putI (bm_putI B1 7 1 s x1) 7 3 s x2) 7 2 s x3) 7 4 s 0) := fz_trans Z131 ⟨fr_mono (fun _ q => Or.inl q) (fr_putI _ 7 4 s _), rfl, rfl⟩
  refine g_ald (pc' := 31) cd_Se_start rfl (Or.inr ⟨_, rfl, rfl, rfl⟩) l0 rfl rfl ?_
  refine g_k1 (v := 0) (pc' := 32) cd_Se_start rfl (by decide) rfl ?_
  refine g_putI (c := 7) (k := 5) (pc' := 35) cd_Se_start rfl rfl rfl rfl (by simp [tm_okV, narrow, fits]) (Or.inl rfl) rfl (by decide) f125_0 g125_0 ?_
  have P134 : bm_FI (bm_putI (bm_putI (bm_putI (bm_putI (bm_putI B1 7 1 s x1) 7 3 s x2) 7 2 s x3) 7 4 s 0) 7 5 s 0) 7 5 s = 0 := if_pos ⟨rfl, rfl, rfl⟩
  have Z135 : fz (fun y => y = s ∨ y = s + 1) B (bm_putI (bm_putI (bm_putI (bm_putI (bm_putI B1 7 1 s x1) 7 3 s x2) 7 2 s x3) 7 4 s 0) 7 5 s 0) := fz_trans Z133 ⟨fr_mono (fun _ q => Or.inl q) (fr_putI _ 7 5 s _), rfl, rfl⟩
  refine g_ald (pc' := 36) cd_Se_start rfl (Or.inr ⟨_, rfl, rfl, rfl⟩) l0 rfl rfl ?_
  refine g_k1 (v := 0) (pc' := 37) cd_Se_start rfl (by decide) rfl ?_
  refine g_putI (c := 7) (k := 6) (pc' := 40) cd_Se_start rfl rfl rfl rfl (by simp [tm_okV, narrow, fits]) (Or.inl rfl) rfl (by decide) f125_0 g125_0 ?_
  have P136 : bm_FI (bm_putI (bm_putI (bm_putI (bm_putI (bm_putI (bm_putI B1 7 1 s x1) 7 3 s x2) 7 2 s x3) 7 4 s 0) 7 5 s 0) 7 6 s 0) 7 6 s = 0 := if_pos ⟨rfl, rfl, rfl⟩
  have Z137 : fz (fun y => y = s ∨ y = s + 1) B (bm_putI (bm_putI (bm_putI (bm_putI (bm_putI (bm_putI B1 7 1 s x1) 7 3 s x2) 7 2 s x3) 7 4 s 0) 7 5 s 0) 7 6 s 0) := fz_trans Z135 ⟨fr_mono (fun _ q => Or.inl q) (fr_putI _ 7 6 s _), rfl, rfl⟩
  refine g_ald (pc' := 41) cd_Se_start rfl (Or.inr ⟨_, rfl, rfl, rfl⟩) l0 rfl rfl ?_
  refine g_k1 (v := 0) (pc' := 42) cd_Se_start rfl (by decide) rfl ?_
  refine g_putI (c := 7) (k := 7) (pc' := 45) cd_Se_start rfl rfl rfl rfl (by decide) (Or.inl rfl) rfl (by decide) f125_0 g125_0 ?_
  have P138 : bm_FI (bm_putI (bm_putI (bm_putI (bm_putI (bm_putI (bm_putI (bm_putI B1 7 1 s x1) 7 3 s x2) 7 2 s x3) 7 4 s 0) 7 5 s 0) 7 6 s 0) 7 7 s 0) 7 7 s = 0 := if_pos ⟨rfl, rfl, rfl⟩
  have Z139 : fz (fun y => y = s ∨ y = s + 1) B (bm_putI (bm_putI (bm_putI (bm_putI (bm_putI (bm_putI (bm_putI B1 7 1 s x1) 7 3 s x2) 7 2 s x3) 7 4 s 0) 7 5 s 0) 7 6 s 0) 7 7 s 0) := fz_trans Z137 ⟨fr_mono (fun _ q => Or.inl q) (fr_putI _ 7 7 s _), rfl, rfl⟩
  refine g_ald (pc' := 46) cd_Se_start rfl (Or.inr ⟨_, rfl, rfl, rfl⟩) l0 rfl rfl ?_
  refine g_ild (pc' := 48) cd_Se_start rfl (Or.inl ⟨rfl, rfl⟩) l4 rfl ?_
  refine g_putI (c := 7) (k := 10) (pc' := 51) cd_Se_start rfl rfl rfl rfl (by cases o <;> decide) (Or.inl rfl) rfl (by decide) f125_0 g125_0 ?_
  have P140 : bm_FI (bm_putI (bm_putI (bm_putI (bm_putI (bm_putI (bm_putI (bm_putI (bm_putI B1 7 1 s x1) 7 3 s x2) 7 2 s x3) 7 4 s 0) 7 5 s 0) 7 6 s 0) 7 7 s 0) 7 10 s (bz o)) 7 10 s = bz o := if_pos ⟨rfl, rfl, rfl⟩
  have Z141 : fz (fun y => y = s ∨ y = s + 1) B (bm_putI (bm_putI (bm_putI (bm_putI (bm_putI (bm_putI (bm_putI (bm_putI B1 7 1 s x1) 7 3 s x2) 7 2 s x3) 7 4 s 0) 7 5 s 0) 7 6 s 0) 7 7 s 0) 7 10 s (bz o)) := fz_trans Z139 ⟨fr_mono (fun _ q => Or.inl q) (fr_putI _ 7 10 s _), rfl, rfl⟩
  exact g_retv cd_Se_start rfl ⟨rfl, (kk _ hT1 ⟨⟨⟨f125_0, g125_0⟩, r125_0⟩, hR1, ⟨tvq P126 h1, tvq P130 h3, tvq P128 h2, tvq P132 (TI_z hT)⟩, ⟨P134, P136⟩, ⟨P138, fun q => by cases q⟩, P140⟩ Z141)⟩
