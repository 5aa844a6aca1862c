set_option maxRecDepth 100000 in
theorem t_Scopy {sc : tm_X} {d : Nat} {s t : Nat} {B : bm_H} {T : List Tm} {S : SS} {c : Nat} {Q : bm_H → Prop} (hS : SeS B s) (hc : bm_FI B 2 1 (s + 1) = nI c ∧ c ≤ 8) (hR : RSe B T t S) (hne : s ≠ t) (hne2 : s + 1 ≠ t) (hne3 : s + 1 + 1 ≠ t) (kk : ∀ B', RSe B' T s S → fz (fun y => y = s ∨ y = s + 1 ∨ y = s + 1 + 1) B B' → Q B') : bm_Gv sc (d + 2) 38 [.ref s, .ref t] B Q := by
  obtain ⟨I, xb, xr, xm, xs, n, b, br, bp, bo, on⟩ := S
  show bm_G sc (d + 2) 38 0 [(0, .ref s), (1, .ref t)] [] B _
  generalize elv : ([(0, .ref s), (1, .ref t)] : tm_L) = lv
  have l0 : lv.lookup 0 = some (.ref s) := by rw [← elv]; rfl
  have l1 : lv.lookup 1 = some (.ref t) := by rw [← elv]; rfl
  clear elv
  refine g_ald (pc' := 1) cd_Se_copyFrom rfl (Or.inr ⟨_, rfl, rfl, rfl⟩) l0 rfl rfl ?_
  refine g_fR (c := 7) (k := 0) (x := (s + 1)) (pc' := 4) cd_Se_copyFrom rfl rfl rfl rfl rfl (by decide) hS.1.1 hS.1.2 hS.2.1 ?_
  refine g_ald (pc' := 5) cd_Se_copyFrom rfl (Or.inr ⟨_, rfl, rfl, rfl⟩) l1 rfl rfl ?_
  refine g_fR (c := 7) (k := 0) (x := (t + 1)) (pc' := 8) cd_Se_copyFrom rfl rfl rfl rfl rfl (by decide) hR.1.1.1 hR.1.1.2 hR.1.2 ?_
  refine g_callv (pc' := 11) cd_Se_copyFrom rfl rfl rfl rfl rfl (tm_invV rfl rfl cd_In_copyFrom rfl (Nat.le_of_ble_eq_true rfl) (by decide) hS.2.2.1.1 hS.2.2.1.2) (t_Icopy (c := c) ⟨hS.2.2.1, hS.2.2.2.1, hS.2.2.2.2, hc⟩ hR.2.1 (by omega) (fun B1 hR1 hz1 => ?_))
  have Z0 : fz (fun y => y = s ∨ y = s + 1 ∨ y = s + 1 + 1) B B1 := fz_mono (fun _ q => Or.inr q) hz1
  have f1_0 := fr_lt hz1.1 hR.1.1.1
  have g1_0 := (fr_K hz1.1 hR.1.1.1).trans hR.1.1.2
  have f1_1 := fr_lt hz1.1 hR.2.1.1.1.1
  have g1_1 := (fr_K hz1.1 hR.2.1.1.1.1).trans hR.2.1.1.1.2
  have f1_2 := fr_lt hz1.1 hS.1.1
  have g1_2 := (fr_K hz1.1 hS.1.1).trans hS.1.2
  have f1_3 := fr_lt hz1.1 hS.2.2.1.1
  have g1_3 := (fr_K hz1.1 hS.2.2.1.1).trans hS.2.2.1.2
  have q1_0 : bm_FI B1 7 1 t = (bm_FI B 7 1 t) := (fr_FI hz1.1 hR.1.1.1 (by omega) 7 1).trans rfl
  have q1_1 : bm_FI B1 7 2 t = (bm_FI B 7 2 t) := (fr_FI hz1.1 hR.1.1.1 (by omega) 7 2).trans rfl
  have q1_2 : bm_FI B1 7 3 t = (bm_FI B 7 3 t) := (fr_FI hz1.1 hR.1.1.1 (by omega) 7 3).trans rfl
  have q1_3 : bm_FI B1 7 4 t = (bm_FI B 7 4 t) := (fr_FI hz1.1 hR.1.1.1 (by omega) 7 4).trans rfl
  have q1_4 : bm_FI B1 7 8 t = (bm_FI B 7 8 t) := (fr_FI hz1.1 hR.1.1.1 (by omega) 7 8).trans rfl
  have q1_5 : bm_FI B1 7 9 t = (bm_FI B 7 9 t) := (fr_FI hz1.1 hR.1.1.1 (by omega) 7 9).trans rfl
  have q1_6 : bm_FI B1 7 5 t = n := (fr_FI hz1.1 hR.1.1.1 (by omega) 7 5).trans hR.2.2.2.1.1
  have q1_7 : bm_FI B1 7 6 t = b := (fr_FI hz1.1 hR.1.1.1 (by omega) 7 6).trans hR.2.2.2.1.2
  have q1_8 : bm_FI B1 7 7 t = bz br := (fr_FI hz1.1 hR.1.1.1 (by omega) 7 7).trans hR.2.2.2.2.1.1
  have q1_9 : bm_FI B1 7 10 t = bz on := (fr_FI hz1.1 hR.1.1.1 (by omega) 7 10).trans hR.2.2.2.2.2
  have r1_0 : bm_FR B1 7 0 t = some (t + 1) := (fr_FR hz1.1 hR.1.1.1 (by omega) 7 0).trans hR.1.2
  have r1_1 : bm_FR B1 7 0 s = some (s + 1) := (fr_FR hz1.1 hS.1.1 (by omega) 7 0).trans hS.2.1
  show bm_G _ _ _ 11 _ [] B1 _
  refine g_ald (pc' := 12) cd_Se_copyFrom rfl (Or.inr ⟨_, rfl, rfl, rfl⟩) l0 rfl rfl ?_
  refine g_ald (pc' := 13) cd_Se_copyFrom rfl (Or.inr ⟨_, rfl, rfl, rfl⟩) l1 rfl rfl ?_
  refine g_fI (c := 7) (k := 1) (x := (bm_FI B 7 1 t)) (pc' := 16) cd_Se_copyFrom rfl rfl rfl rfl rfl (by decide) f1_0 g1_0 q1_0 ?_
  refine g_putI (c := 7) (k := 1) (pc' := 19) cd_Se_copyFrom rfl rfl rfl rfl (by simp [tm_okV, narrow, fits]) (Or.inl rfl) rfl (by decide) f1_2 g1_2 ?_
  have P2 : bm_FI (bm_putI B1 7 1 s (bm_FI B 7 1 t)) 7 1 s = (bm_FI B 7 1 t) := if_pos ⟨rfl, rfl, rfl⟩
  have Z3 : fz (fun y => y = s) B1 (bm_putI B1 7 1 s (bm_FI B 7 1 t)) := fz_trans (fz_rfl _ B1) ⟨fr_mono (fun _ q => q) (fr_putI _ 7 1 s _), rfl, rfl⟩
  refine g_ald (pc' := 20) cd_Se_copyFrom rfl (Or.inr ⟨_, rfl, rfl, rfl⟩) l0 rfl rfl ?_
  refine g_ald (pc' := 21) cd_Se_copyFrom rfl (Or.inr ⟨_, rfl, rfl, rfl⟩) l1 rfl rfl ?_
  refine g_fI (c := 7) (k := 2) (x := (bm_FI B 7 2 t)) (pc' := 24) cd_Se_copyFrom rfl rfl rfl rfl rfl (by decide) f1_0 g1_0 q1_1 ?_
  refine g_putI (c := 7) (k := 2) (pc' := 27) cd_Se_copyFrom rfl rfl rfl rfl (by simp [tm_okV, narrow, fits]) (Or.inl rfl) rfl (by decide) f1_2 g1_2 ?_
  have P4 : bm_FI (bm_putI (bm_putI B1 7 1 s (bm_FI B 7 1 t)) 7 2 s (bm_FI B 7 2 t)) 7 2 s = (bm_FI B 7 2 t) := if_pos ⟨rfl, rfl, rfl⟩
  have Z5 : fz (fun y => y = s) B1 (bm_putI (bm_putI B1 7 1 s (bm_FI B 7 1 t)) 7 2 s (bm_FI B 7 2 t)) := fz_trans Z3 ⟨fr_mono (fun _ q => q) (fr_putI _ 7 2 s _), rfl, rfl⟩
  refine g_ald (pc' := 28) cd_Se_copyFrom rfl (Or.inr ⟨_, rfl, rfl, rfl⟩) l0 rfl rfl ?_
  refine g_ald (pc' := 29) cd_Se_copyFrom rfl (Or.inr ⟨_, rfl, rfl, rfl⟩) l1 rfl rfl ?_
  refine g_fI (c := 7) (k := 3) (x := (bm_FI B 7 3 t)) (pc' := 32) cd_Se_copyFrom rfl rfl rfl rfl rfl (by decide) f1_0 g1_0 q1_2 ?_
  refine g_putI (c := 7) (k := 3) (pc' := 35) cd_Se_copyFrom rfl rfl rfl rfl (by simp [tm_okV, narrow, fits]) (Or.inl rfl) rfl (by decide) f1_2 g1_2 ?_
  have P6 : bm_FI (bm_putI (bm_putI (bm_putI B1 7 1 s (bm_FI B 7 1 t)) 7 2 s (bm_FI B 7 2 t)) 7 3 s (bm_FI B 7 3 t)) 7 3 s = (bm_FI B 7 3 t) := if_pos ⟨rfl, rfl, rfl⟩
  have Z7 : fz (fun y => y = s) B1 (bm_putI (bm_putI (bm_putI B1 7 1 s (bm_FI B 7 1 t)) 7 2 s (bm_FI B 7 2 t)) 7 3 s (bm_FI B 7 3 t)) := fz_trans Z5 ⟨fr_mono (fun _ q => q) (fr_putI _ 7 3 s _), rfl, rfl⟩
  obtain ⟨B8, eB8⟩ : ∃ Bx, Bx = (bm_putI (bm_putI (bm_putI B1 7 1 s (bm_FI B 7 1 t)) 7 2 s (bm_FI B 7 2 t)) 7 3 s (bm_FI B 7 3 t)) := ⟨_, rfl⟩
  have cl8_0 : t < bm_n B8 := eB8 ▸ (show t < bm_n (bm_putI (bm_putI (bm_putI B1 7 1 s (bm_FI B 7 1 t)) 7 2 s (bm_FI B 7 2 t)) 7 3 s (bm_FI B 7 3 t)) from f1_0)
  have ck8_0 : bm_K B8 t = 7 := eB8 ▸ (show bm_K (bm_putI (bm_putI (bm_putI B1 7 1 s (bm_FI B 7 1 t)) 7 2 s (bm_FI B 7 2 t)) 7 3 s (bm_FI B 7 3 t)) t = 7 from g1_0)
  have cl8_1 : (t + 1) < bm_n B8 := eB8 ▸ (show (t + 1) < bm_n (bm_putI (bm_putI (bm_putI B1 7 1 s (bm_FI B 7 1 t)) 7 2 s (bm_FI B 7 2 t)) 7 3 s (bm_FI B 7 3 t)) from f1_1)
  have ck8_1 : bm_K B8 (t + 1) = 2 := eB8 ▸ (show bm_K (bm_putI (bm_putI (bm_putI B1 7 1 s (bm_FI B 7 1 t)) 7 2 s (bm_FI B 7 2 t)) 7 3 s (bm_FI B 7 3 t)) (t + 1) = 2 from g1_1)
  have cl8_2 : s < bm_n B8 := eB8 ▸ (show s < bm_n (bm_putI (bm_putI (bm_putI B1 7 1 s (bm_FI B 7 1 t)) 7 2 s (bm_FI B 7 2 t)) 7 3 s (bm_FI B 7 3 t)) from f1_2)
  have ck8_2 : bm_K B8 s = 7 := eB8 ▸ (show bm_K (bm_putI (bm_putI (bm_putI B1 7 1 s (bm_FI B 7 1 t)) 7 2 s (bm_FI B 7 2 t)) 7 3 s (bm_FI B 7 3 t)) s = 7 from g1_2)
  have cl8_3 : (s + 1) < bm_n B8 := eB8 ▸ (show (s + 1) < bm_n (bm_putI (bm_putI (bm_putI B1 7 1 s (bm_FI B 7 1 t)) 7 2 s (bm_FI B 7 2 t)) 7 3 s (bm_FI B 7 3 t)) from f1_3)
  have ck8_3 : bm_K B8 (s + 1) = 2 := eB8 ▸ (show bm_K (bm_putI (bm_putI (bm_putI B1 7 1 s (bm_FI B 7 1 t)) 7 2 s (bm_FI B 7 2 t)) 7 3 s (bm_FI B 7 3 t)) (s + 1) = 2 from g1_3)
  have cf8_0 : bm_FI B8 7 1 t = (bm_FI B 7 1 t) := eB8 ▸ (show bm_FI (bm_putI (bm_putI (bm_putI B1 7 1 s (bm_FI B 7 1 t)) 7 2 s (bm_FI B 7 2 t)) 7 3 s (bm_FI B 7 3 t)) 7 1 t = (bm_FI B 7 1 t) from ((if_neg (fun w => hne.symm w.2.2)).trans q1_0))
  have cf8_1 : bm_FI B8 7 2 t = (bm_FI B 7 2 t) := eB8 ▸ (show bm_FI (bm_putI (bm_putI (bm_putI B1 7 1 s (bm_FI B 7 1 t)) 7 2 s (bm_FI B 7 2 t)) 7 3 s (bm_FI B 7 3 t)) 7 2 t = (bm_FI B 7 2 t) from ((if_neg (fun w => hne.symm w.2.2)).trans q1_1))
  have cf8_2 : bm_FI B8 7 3 t = (bm_FI B 7 3 t) := eB8 ▸ (show bm_FI (bm_putI (bm_putI (bm_putI B1 7 1 s (bm_FI B 7 1 t)) 7 2 s (bm_FI B 7 2 t)) 7 3 s (bm_FI B 7 3 t)) 7 3 t = (bm_FI B 7 3 t) from ((if_neg (fun w => hne.symm w.2.2)).trans q1_2))
  have cf8_3 : bm_FI B8 7 4 t = (bm_FI B 7 4 t) := eB8 ▸ (show bm_FI (bm_putI (bm_putI (bm_putI B1 7 1 s (bm_FI B 7 1 t)) 7 2 s (bm_FI B 7 2 t)) 7 3 s (bm_FI B 7 3 t)) 7 4 t = (bm_FI B 7 4 t) from q1_3)
  have cf8_4 : bm_FI B8 7 8 t = (bm_FI B 7 8 t) := eB8 ▸ (show bm_FI (bm_putI (bm_putI (bm_putI B1 7 1 s (bm_FI B 7 1 t)) 7 2 s (bm_FI B 7 2 t)) 7 3 s (bm_FI B 7 3 t)) 7 8 t = (bm_FI B 7 8 t) from q1_4)
  have cf8_5 : bm_FI B8 7 9 t = (bm_FI B 7 9 t) := eB8 ▸ (show bm_FI (bm_putI (bm_putI (bm_putI B1 7 1 s (bm_FI B 7 1 t)) 7 2 s (bm_FI B 7 2 t)) 7 3 s (bm_FI B 7 3 t)) 7 9 t = (bm_FI B 7 9 t) from q1_5)
  have cf8_6 : bm_FI B8 7 5 t = n := eB8 ▸ (show bm_FI (bm_putI (bm_putI (bm_putI B1 7 1 s (bm_FI B 7 1 t)) 7 2 s (bm_FI B 7 2 t)) 7 3 s (bm_FI B 7 3 t)) 7 5 t = n from q1_6)
  have cf8_7 : bm_FI B8 7 6 t = b := eB8 ▸ (show bm_FI (bm_putI (bm_putI (bm_putI B1 7 1 s (bm_FI B 7 1 t)) 7 2 s (bm_FI B 7 2 t)) 7 3 s (bm_FI B 7 3 t)) 7 6 t = b from q1_7)
  have cf8_8 : bm_FI B8 7 7 t = bz br := eB8 ▸ (show bm_FI (bm_putI (bm_putI (bm_putI B1 7 1 s (bm_FI B 7 1 t)) 7 2 s (bm_FI B 7 2 t)) 7 3 s (bm_FI B 7 3 t)) 7 7 t = bz br from q1_8)
  have cf8_9 : bm_FI B8 7 10 t = bz on := eB8 ▸ (show bm_FI (bm_putI (bm_putI (bm_putI B1 7 1 s (bm_FI B 7 1 t)) 7 2 s (bm_FI B 7 2 t)) 7 3 s (bm_FI B 7 3 t)) 7 10 t = bz on from q1_9)
  have cf8_10 : bm_FI B8 7 1 s = (bm_FI B 7 1 t) := eB8 ▸ (show bm_FI (bm_putI (bm_putI (bm_putI B1 7 1 s (bm_FI B 7 1 t)) 7 2 s (bm_FI B 7 2 t)) 7 3 s (bm_FI B 7 3 t)) 7 1 s = (bm_FI B 7 1 t) from P2)
  have cf8_11 : bm_FI B8 7 2 s = (bm_FI B 7 2 t) := eB8 ▸ (show bm_FI (bm_putI (bm_putI (bm_putI B1 7 1 s (bm_FI B 7 1 t)) 7 2 s (bm_FI B 7 2 t)) 7 3 s (bm_FI B 7 3 t)) 7 2 s = (bm_FI B 7 2 t) from P4)
  have cf8_12 : bm_FI B8 7 3 s = (bm_FI B 7 3 t) := eB8 ▸ (show bm_FI (bm_putI (bm_putI (bm_putI B1 7 1 s (bm_FI B 7 1 t)) 7 2 s (bm_FI B 7 2 t)) 7 3 s (bm_FI B 7 3 t)) 7 3 s = (bm_FI B 7 3 t) from P6)
  have cr8_0 : bm_FR B8 7 0 t = some (t + 1) := eB8 ▸ (show bm_FR (bm_putI (bm_putI (bm_putI B1 7 1 s (bm_FI B 7 1 t)) 7 2 s (bm_FI B 7 2 t)) 7 3 s (bm_FI B 7 3 t)) 7 0 t = some (t + 1) from r1_0)
  have cr8_1 : bm_FR B8 7 0 s = some (s + 1) := eB8 ▸ (show bm_FR (bm_putI (bm_putI (bm_putI B1 7 1 s (bm_FI B 7 1 t)) 7 2 s (bm_FI B 7 2 t)) 7 3 s (bm_FI B 7 3 t)) 7 0 s = some (s + 1) from r1_1)
  have cz8 : fz (fun y => y = s) B1 B8 := eB8 ▸ (show fz (fun y => y = s) B1 (bm_putI (bm_putI (bm_putI B1 7 1 s (bm_FI B 7 1 t)) 7 2 s (bm_FI B 7 2 t)) 7 3 s (bm_FI B 7 3 t)) from Z7)
  rw [← eB8]
  clear eB8
  refine g_ald (pc' := 36) cd_Se_copyFrom rfl (Or.inr ⟨_, rfl, rfl, rfl⟩) l0 rfl rfl ?_
  refine g_ald (pc' := 37) cd_Se_copyFrom rfl (Or.inr ⟨_, rfl, rfl, rfl⟩) l1 rfl rfl ?_
  refine g_fI (c := 7) (k := 4) (x := (bm_FI B 7 4 t)) (pc' := 40) cd_Se_copyFrom rfl rfl rfl rfl rfl (by decide) cl8_0 ck8_0 cf8_3 ?_
  refine g_putI (c := 7) (k := 4) (pc' := 43) cd_Se_copyFrom rfl rfl rfl rfl (by simp [tm_okV, narrow, fits]) (Or.inl rfl) rfl (by decide) cl8_2 ck8_2 ?_
  have P9 : bm_FI (bm_putI B8 7 4 s (bm_FI B 7 4 t)) 7 4 s = (bm_FI B 7 4 t) := if_pos ⟨rfl, rfl, rfl⟩
  have Z10 : fz (fun y => y = s) B1 (bm_putI B8 7 4 s (bm_FI B 7 4 t)) := fz_trans cz8 ⟨fr_mono (fun _ q => q) (fr_putI _ 7 4 s _), rfl, rfl⟩
  refine g_ald (pc' := 44) cd_Se_copyFrom rfl (Or.inr ⟨_, rfl, rfl, rfl⟩) l0 rfl rfl ?_
  refine g_ald (pc' := 45) cd_Se_copyFrom rfl (Or.inr ⟨_, rfl, rfl, rfl⟩) l1 rfl rfl ?_
  refine g_fI (c := 7) (k := 5) (x := n) (pc' := 48) cd_Se_copyFrom rfl rfl rfl rfl rfl (by decide) cl8_0 ck8_0 cf8_6 ?_
  refine g_putI (c := 7) (k := 5) (pc' := 51) cd_Se_copyFrom rfl rfl rfl rfl (by simp [tm_okV, narrow, fits]) (Or.inl rfl) rfl (by decide) cl8_2 ck8_2 ?_
  have P11 : bm_FI (bm_putI (bm_putI B8 7 4 s (bm_FI B 7 4 t)) 7 5 s n) 7 5 s = n := if_pos ⟨rfl, rfl, rfl⟩
  have Z12 : fz (fun y => y = s) B1 (bm_putI (bm_putI B8 7 4 s (bm_FI B 7 4 t)) 7 5 s n) := fz_trans Z10 ⟨fr_mono (fun _ q => q) (fr_putI _ 7 5 s _), rfl, rfl⟩
  refine g_ald (pc' := 52) cd_Se_copyFrom rfl (Or.inr ⟨_, rfl, rfl, rfl⟩) l0 rfl rfl ?_
  refine g_ald (pc' := 53) cd_Se_copyFrom rfl (Or.inr ⟨_, rfl, rfl, rfl⟩) l1 rfl rfl ?_
  refine g_fI (c := 7) (k := 6) (x := b) (pc' := 56) cd_Se_copyFrom rfl rfl rfl rfl rfl (by decide) cl8_0 ck8_0 cf8_7 ?_
  refine g_putI (c := 7) (k := 6) (pc' := 59) cd_Se_copyFrom rfl rfl rfl rfl (by simp [tm_okV, narrow, fits]) (Or.inl rfl) rfl (by decide) cl8_2 ck8_2 ?_
  have P13 : bm_FI (bm_putI (bm_putI (bm_putI B8 7 4 s (bm_FI B 7 4 t)) 7 5 s n) 7 6 s b) 7 6 s = b := if_pos ⟨rfl, rfl, rfl⟩
  have Z14 : fz (fun y => y = s) B1 (bm_putI (bm_putI (bm_putI B8 7 4 s (bm_FI B 7 4 t)) 7 5 s n) 7 6 s b) := fz_trans Z12 ⟨fr_mono (fun _ q => q) (fr_putI _ 7 6 s _), rfl, rfl⟩
  obtain ⟨B15, eB15⟩ : ∃ Bx, Bx = (bm_putI (bm_putI (bm_putI B8 7 4 s (bm_FI B 7 4 t)) 7 5 s n) 7 6 s b) := ⟨_, rfl⟩
  have cl15_0 : t < bm_n B15 := eB15 ▸ (show t < bm_n (bm_putI (bm_putI (bm_putI B8 7 4 s (bm_FI B 7 4 t)) 7 5 s n) 7 6 s b) from cl8_0)
  have ck15_0 : bm_K B15 t = 7 := eB15 ▸ (show bm_K (bm_putI (bm_putI (bm_putI B8 7 4 s (bm_FI B 7 4 t)) 7 5 s n) 7 6 s b) t = 7 from ck8_0)
  have cl15_1 : (t + 1) < bm_n B15 := eB15 ▸ (show (t + 1) < bm_n (bm_putI (bm_putI (bm_putI B8 7 4 s (bm_FI B 7 4 t)) 7 5 s n) 7 6 s b) from cl8_1)
  have ck15_1 : bm_K B15 (t + 1) = 2 := eB15 ▸ (show bm_K (bm_putI (bm_putI (bm_putI B8 7 4 s (bm_FI B 7 4 t)) 7 5 s n) 7 6 s b) (t + 1) = 2 from ck8_1)
  have cl15_2 : s < bm_n B15 := eB15 ▸ (show s < bm_n (bm_putI (bm_putI (bm_putI B8 7 4 s (bm_FI B 7 4 t)) 7 5 s n) 7 6 s b) from cl8_2)
  have ck15_2 : bm_K B15 s = 7 := eB15 ▸ (show bm_K (bm_putI (bm_putI (bm_putI B8 7 4 s (bm_FI B 7 4 t)) 7 5 s n) 7 6 s b) s = 7 from ck8_2)
  have cl15_3 : (s + 1) < bm_n B15 := eB15 ▸ (show (s + 1) < bm_n (bm_putI (bm_putI (bm_putI B8 7 4 s (bm_FI B 7 4 t)) 7 5 s n) 7 6 s b) from cl8_3)
  have ck15_3 : bm_K B15 (s + 1) = 2 := eB15 ▸ (show bm_K (bm_putI (bm_putI (bm_putI B8 7 4 s (bm_FI B 7 4 t)) 7 5 s n) 7 6 s b) (s + 1) = 2 from ck8_3)
  have cf15_0 : bm_FI B15 7 1 t = (bm_FI B 7 1 t) := eB15 ▸ (show bm_FI (bm_putI (bm_putI (bm_putI B8 7 4 s (bm_FI B 7 4 t)) 7 5 s n) 7 6 s b) 7 1 t = (bm_FI B 7 1 t) from cf8_0)
  have cf15_1 : bm_FI B15 7 2 t = (bm_FI B 7 2 t) := eB15 ▸ (show bm_FI (bm_putI (bm_putI (bm_putI B8 7 4 s (bm_FI B 7 4 t)) 7 5 s n) 7 6 s b) 7 2 t = (bm_FI B 7 2 t) from cf8_1)
  have cf15_2 : bm_FI B15 7 3 t = (bm_FI B 7 3 t) := eB15 ▸ (show bm_FI (bm_putI (bm_putI (bm_putI B8 7 4 s (bm_FI B 7 4 t)) 7 5 s n) 7 6 s b) 7 3 t = (bm_FI B 7 3 t) from cf8_2)
  have cf15_3 : bm_FI B15 7 4 t = (bm_FI B 7 4 t) := eB15 ▸ (show bm_FI (bm_putI (bm_putI (bm_putI B8 7 4 s (bm_FI B 7 4 t)) 7 5 s n) 7 6 s b) 7 4 t = (bm_FI B 7 4 t) from ((if_neg (fun w => hne.symm w.2.2)).trans cf8_3))
  have cf15_4 : bm_FI B15 7 8 t = (bm_FI B 7 8 t) := eB15 ▸ (show bm_FI (bm_putI (bm_putI (bm_putI B8 7 4 s (bm_FI B 7 4 t)) 7 5 s n) 7 6 s b) 7 8 t = (bm_FI B 7 8 t) from cf8_4)
  have cf15_5 : bm_FI B15 7 9 t = (bm_FI B 7 9 t) := eB15 ▸ (show bm_FI (bm_putI (bm_putI (bm_putI B8 7 4 s (bm_FI B 7 4 t)) 7 5 s n) 7 6 s b) 7 9 t = (bm_FI B 7 9 t) from cf8_5)
  have cf15_6 : bm_FI B15 7 5 t = n := eB15 ▸ (show bm_FI (bm_putI (bm_putI (bm_putI B8 7 4 s (bm_FI B 7 4 t)) 7 5 s n) 7 6 s b) 7 5 t = n from ((if_neg (fun w => hne.symm w.2.2)).trans cf8_6))
  have cf15_7 : bm_FI B15 7 6 t = b := eB15 ▸ (show bm_FI (bm_putI (bm_putI (bm_putI B8 7 4 s (bm_FI B 7 4 t)) 7 5 s n) 7 6 s b) 7 6 t = b from ((if_neg (fun w => hne.symm w.2.2)).trans cf8_7))
  have cf15_8 : bm_FI B15 7 7 t = bz br := eB15 ▸ (show bm_FI (bm_putI (bm_putI (bm_putI B8 7 4 s (bm_FI B 7 4 t)) 7 5 s n) 7 6 s b) 7 7 t = bz br from cf8_8)
  have cf15_9 : bm_FI B15 7 10 t = bz on := eB15 ▸ (show bm_FI (bm_putI (bm_putI (bm_putI B8 7 4 s (bm_FI B 7 4 t)) 7 5 s n) 7 6 s b) 7 10 t = bz on from cf8_9)
  have cf15_10 : bm_FI B15 7 1 s = (bm_FI B 7 1 t) := eB15 ▸ (show bm_FI (bm_putI (bm_putI (bm_putI B8 7 4 s (bm_FI B 7 4 t)) 7 5 s n) 7 6 s b) 7 1 s = (bm_FI B 7 1 t) from cf8_10)
  have cf15_11 : bm_FI B15 7 2 s = (bm_FI B 7 2 t) := eB15 ▸ (show bm_FI (bm_putI (bm_putI (bm_putI B8 7 4 s (bm_FI B 7 4 t)) 7 5 s n) 7 6 s b) 7 2 s = (bm_FI B 7 2 t) from cf8_11)
  have cf15_12 : bm_FI B15 7 3 s = (bm_FI B 7 3 t) := eB15 ▸ (show bm_FI (bm_putI (bm_putI (bm_putI B8 7 4 s (bm_FI B 7 4 t)) 7 5 s n) 7 6 s b) 7 3 s = (bm_FI B 7 3 t) from cf8_12)
  have cf15_13 : bm_FI B15 7 4 s = (bm_FI B 7 4 t) := eB15 ▸ (show bm_FI (bm_putI (bm_putI (bm_putI B8 7 4 s (bm_FI B 7 4 t)) 7 5 s n) 7 6 s b) 7 4 s = (bm_FI B 7 4 t) from P9)
  have cf15_14 : bm_FI B15 7 5 s = n := eB15 ▸ (show bm_FI (bm_putI (bm_putI (bm_putI B8 7 4 s (bm_FI B 7 4 t)) 7 5 s n) 7 6 s b) 7 5 s = n from P11)
  have cf15_15 : bm_FI B15 7 6 s = b := eB15 ▸ (show bm_FI (bm_putI (bm_putI (bm_putI B8 7 4 s (bm_FI B 7 4 t)) 7 5 s n) 7 6 s b) 7 6 s = b from P13)
  have cr15_0 : bm_FR B15 7 0 t = some (t + 1) := eB15 ▸ (show bm_FR (bm_putI (bm_putI (bm_putI B8 7 4 s (bm_FI B 7 4 t)) 7 5 s n) 7 6 s b) 7 0 t = some (t + 1) from cr8_0)
  have cr15_1 : bm_FR B15 7 0 s = some (s + 1) := eB15 ▸ (show bm_FR (bm_putI (bm_putI (bm_putI B8 7 4 s (bm_FI B 7 4 t)) 7 5 s n) 7 6 s b) 7 0 s = some (s + 1) from cr8_1)
  have cz15 : fz (fun y => y = s) B1 B15 := eB15 ▸ (show fz (fun y => y = s) B1 (bm_putI (bm_putI (bm_putI B8 7 4 s (bm_FI B 7 4 t)) 7 5 s n) 7 6 s b) from Z14)
  rw [← eB15]
  clear eB15
  refine g_ald (pc' := 60) cd_Se_copyFrom rfl (Or.inr ⟨_, rfl, rfl, rfl⟩) l0 rfl rfl ?_
  refine g_ald (pc' := 61) cd_Se_copyFrom rfl (Or.inr ⟨_, rfl, rfl, rfl⟩) l1 rfl rfl ?_
  refine g_fI (c := 7) (k := 7) (x := bz br) (pc' := 64) cd_Se_copyFrom rfl rfl rfl rfl rfl (by decide) cl15_0 ck15_0 cf15_8 ?_
  refine g_putI (c := 7) (k := 7) (pc' := 67) cd_Se_copyFrom rfl rfl rfl rfl (by cases br <;> decide) (Or.inl rfl) rfl (by decide) cl15_2 ck15_2 ?_
  have P16 : bm_FI (bm_putI B15 7 7 s (bz br)) 7 7 s = bz br := if_pos ⟨rfl, rfl, rfl⟩
  have Z17 : fz (fun y => y = s) B1 (bm_putI B15 7 7 s (bz br)) := fz_trans cz15 ⟨fr_mono (fun _ q => q) (fr_putI _ 7 7 s _), rfl, rfl⟩
  refine g_ald (pc' := 68) cd_Se_copyFrom rfl (Or.inr ⟨_, rfl, rfl, rfl⟩) l0 rfl rfl ?_
  refine g_ald (pc' := 69) cd_Se_copyFrom rfl (Or.inr ⟨_, rfl, rfl, rfl⟩) l1 rfl rfl ?_
  refine g_fI (c := 7) (k := 8) (x := (bm_FI B 7 8 t)) (pc' := 72) cd_Se_copyFrom rfl rfl rfl rfl rfl (by decide) cl15_0 ck15_0 cf15_4 ?_
  refine g_putI (c := 7) (k := 8) (pc' := 75) cd_Se_copyFrom rfl rfl rfl rfl (by simp [tm_okV, narrow, fits]) (Or.inl rfl) rfl (by decide) cl15_2 ck15_2 ?_
  have P18 : bm_FI (bm_putI (bm_putI B15 7 7 s (bz br)) 7 8 s (bm_FI B 7 8 t)) 7 8 s = (bm_FI B 7 8 t) := if_pos ⟨rfl, rfl, rfl⟩
  have Z19 : fz (fun y => y = s) B1 (bm_putI (bm_putI B15 7 7 s (bz br)) 7 8 s (bm_FI B 7 8 t)) := fz_trans Z17 ⟨fr_mono (fun _ q => q) (fr_putI _ 7 8 s _), rfl, rfl⟩
  refine g_ald (pc' := 76) cd_Se_copyFrom rfl (Or.inr ⟨_, rfl, rfl, rfl⟩) l0 rfl rfl ?_
  refine g_ald (pc' := 77) cd_Se_copyFrom rfl (Or.inr ⟨_, rfl, rfl, rfl⟩) l1 rfl rfl ?_
  refine g_fI (c := 7) (k := 9) (x := (bm_FI B 7 9 t)) (pc' := 80) cd_Se_copyFrom rfl rfl rfl rfl rfl (by decide) cl15_0 ck15_0 cf15_5 ?_
  refine g_putI (c := 7) (k := 9) (pc' := 83) cd_Se_copyFrom rfl rfl rfl rfl (by simp [tm_okV, narrow, fits]) (Or.inl rfl) rfl (by decide) cl15_2 ck15_2 ?_
  have P20 : bm_FI (bm_putI (bm_putI (bm_putI B15 7 7 s (bz br)) 7 8 s (bm_FI B 7 8 t)) 7 9 s (bm_FI B 7 9 t)) 7 9 s = (bm_FI B 7 9 t) := if_pos ⟨rfl, rfl, rfl⟩
  have Z21 : fz (fun y => y = s) B1 (bm_putI (bm_putI (bm_putI B15 7 7 s (bz br)) 7 8 s (bm_FI B 7 8 t)) 7 9 s (bm_FI B 7 9 t)) := fz_trans Z19 ⟨fr_mono (fun _ q => q) (fr_putI _ 7 9 s _), rfl, rfl⟩
  obtain ⟨B22, eB22⟩ : ∃ Bx, Bx = (bm_putI (bm_putI (bm_putI B15 7 7 s (bz br)) 7 8 s (bm_FI B 7 8 t)) 7 9 s (bm_FI B 7 9 t)) := ⟨_, rfl⟩
  have cl22_0 : t < bm_n B22 := eB22 ▸ (show t < bm_n (bm_putI (bm_putI (bm_putI B15 7 7 s (bz br)) 7 8 s (bm_FI B 7 8 t)) 7 9 s (bm_FI B 7 9 t)) from cl15_0)
  have ck22_0 : bm_K B22 t = 7 := eB22 ▸ (show bm_K (bm_putI (bm_putI (bm_putI B15 7 7 s (bz br)) 7 8 s (bm_FI B 7 8 t)) 7 9 s (bm_FI B 7 9 t)) t = 7 from ck15_0)
  have cl22_1 : (t + 1) < bm_n B22 := eB22 ▸ (show (t + 1) < bm_n (bm_putI (bm_putI (bm_putI B15 7 7 s (bz br)) 7 8 s (bm_FI B 7 8 t)) 7 9 s (bm_FI B 7 9 t)) from cl15_1)
  have ck22_1 : bm_K B22 (t + 1) = 2 := eB22 ▸ (show bm_K (bm_putI (bm_putI (bm_putI B15 7 7 s (bz br)) 7 8 s (bm_FI B 7 8 t)) 7 9 s (bm_FI B 7 9 t)) (t + 1) = 2 from ck15_1)
  have cl22_2 : s < bm_n B22 := eB22 ▸ (show s < bm_n (bm_putI (bm_putI (bm_putI B15 7 7 s (bz br)) 7 8 s (bm_FI B 7 8 t)) 7 9 s (bm_FI B 7 9 t)) from cl15_2)
  have ck22_2 : bm_K B22 s = 7 := eB22 ▸ (show bm_K (bm_putI (bm_putI (bm_putI B15 7 7 s (bz br)) 7 8 s (bm_FI B 7 8 t)) 7 9 s (bm_FI B 7 9 t)) s = 7 from ck15_2)
  have cl22_3 : (s + 1) < bm_n B22 := eB22 ▸ (show (s + 1) < bm_n (bm_putI (bm_putI (bm_putI B15 7 7 s (bz br)) 7 8 s (bm_FI B 7 8 t)) 7 9 s (bm_FI B 7 9 t)) from cl15_3)
  have ck22_3 : bm_K B22 (s + 1) = 2 := eB22 ▸ (show bm_K (bm_putI (bm_putI (bm_putI B15 7 7 s (bz br)) 7 8 s (bm_FI B 7 8 t)) 7 9 s (bm_FI B 7 9 t)) (s + 1) = 2 from ck15_3)
  have cf22_0 : bm_FI B22 7 1 t = (bm_FI B 7 1 t) := eB22 ▸ (show bm_FI (bm_putI (bm_putI (bm_putI B15 7 7 s (bz br)) 7 8 s (bm_FI B 7 8 t)) 7 9 s (bm_FI B 7 9 t)) 7 1 t = (bm_FI B 7 1 t) from cf15_0)
  have cf22_1 : bm_FI B22 7 2 t = (bm_FI B 7 2 t) := eB22 ▸ (show bm_FI (bm_putI (bm_putI (bm_putI B15 7 7 s (bz br)) 7 8 s (bm_FI B 7 8 t)) 7 9 s (bm_FI B 7 9 t)) 7 2 t = (bm_FI B 7 2 t) from cf15_1)
  have cf22_2 : bm_FI B22 7 3 t = (bm_FI B 7 3 t) := eB22 ▸ (show bm_FI (bm_putI (bm_putI (bm_putI B15 7 7 s (bz br)) 7 8 s (bm_FI B 7 8 t)) 7 9 s (bm_FI B 7 9 t)) 7 3 t = (bm_FI B 7 3 t) from cf15_2)
  have cf22_3 : bm_FI B22 7 4 t = (bm_FI B 7 4 t) := eB22 ▸ (show bm_FI (bm_putI (bm_putI (bm_putI B15 7 7 s (bz br)) 7 8 s (bm_FI B 7 8 t)) 7 9 s (bm_FI B 7 9 t)) 7 4 t = (bm_FI B 7 4 t) from cf15_3)
  have cf22_4 : bm_FI B22 7 8 t = (bm_FI B 7 8 t) := eB22 ▸ (show bm_FI (bm_putI (bm_putI (bm_putI B15 7 7 s (bz br)) 7 8 s (bm_FI B 7 8 t)) 7 9 s (bm_FI B 7 9 t)) 7 8 t = (bm_FI B 7 8 t) from ((if_neg (fun w => hne.symm w.2.2)).trans cf15_4))
  have cf22_5 : bm_FI B22 7 9 t = (bm_FI B 7 9 t) := eB22 ▸ (show bm_FI (bm_putI (bm_putI (bm_putI B15 7 7 s (bz br)) 7 8 s (bm_FI B 7 8 t)) 7 9 s (bm_FI B 7 9 t)) 7 9 t = (bm_FI B 7 9 t) from ((if_neg (fun w => hne.symm w.2.2)).trans cf15_5))
  have cf22_6 : bm_FI B22 7 5 t = n := eB22 ▸ (show bm_FI (bm_putI (bm_putI (bm_putI B15 7 7 s (bz br)) 7 8 s (bm_FI B 7 8 t)) 7 9 s (bm_FI B 7 9 t)) 7 5 t = n from cf15_6)
  have cf22_7 : bm_FI B22 7 6 t = b := eB22 ▸ (show bm_FI (bm_putI (bm_putI (bm_putI B15 7 7 s (bz br)) 7 8 s (bm_FI B 7 8 t)) 7 9 s (bm_FI B 7 9 t)) 7 6 t = b from cf15_7)
  have cf22_8 : bm_FI B22 7 7 t = bz br := eB22 ▸ (show bm_FI (bm_putI (bm_putI (bm_putI B15 7 7 s (bz br)) 7 8 s (bm_FI B 7 8 t)) 7 9 s (bm_FI B 7 9 t)) 7 7 t = bz br from ((if_neg (fun w => hne.symm w.2.2)).trans cf15_8))
  have cf22_9 : bm_FI B22 7 10 t = bz on := eB22 ▸ (show bm_FI (bm_putI (bm_putI (bm_putI B15 7 7 s (bz br)) 7 8 s (bm_FI B 7 8 t)) 7 9 s (bm_FI B 7 9 t)) 7 10 t = bz on from cf15_9)
  have cf22_10 : bm_FI B22 7 1 s = (bm_FI B 7 1 t) := eB22 ▸ (show bm_FI (bm_putI (bm_putI (bm_putI B15 7 7 s (bz br)) 7 8 s (bm_FI B 7 8 t)) 7 9 s (bm_FI B 7 9 t)) 7 1 s = (bm_FI B 7 1 t) from cf15_10)
  have cf22_11 : bm_FI B22 7 2 s = (bm_FI B 7 2 t) := eB22 ▸ (show bm_FI (bm_putI (bm_putI (bm_putI B15 7 7 s (bz br)) 7 8 s (bm_FI B 7 8 t)) 7 9 s (bm_FI B 7 9 t)) 7 2 s = (bm_FI B 7 2 t) from cf15_11)
  have cf22_12 : bm_FI B22 7 3 s = (bm_FI B 7 3 t) := eB22 ▸ (show bm_FI (bm_putI (bm_putI (bm_putI B15 7 7 s (bz br)) 7 8 s (bm_FI B 7 8 t)) 7 9 s (bm_FI B 7 9 t)) 7 3 s = (bm_FI B 7 3 t) from cf15_12)
  have cf22_13 : bm_FI B22 7 4 s = (bm_FI B 7 4 t) := eB22 ▸ (show bm_FI (bm_putI (bm_putI (bm_putI B15 7 7 s (bz br)) 7 8 s (bm_FI B 7 8 t)) 7 9 s (bm_FI B 7 9 t)) 7 4 s = (bm_FI B 7 4 t) from cf15_13)
  have cf22_14 : bm_FI B22 7 5 s = n := eB22 ▸ (show bm_FI (bm_putI (bm_putI (bm_putI B15 7 7 s (bz br)) 7 8 s (bm_FI B 7 8 t)) 7 9 s (bm_FI B 7 9 t)) 7 5 s = n from cf15_14)
  have cf22_15 : bm_FI B22 7 6 s = b := eB22 ▸ (show bm_FI (bm_putI (bm_putI (bm_putI B15 7 7 s (bz br)) 7 8 s (bm_FI B 7 8 t)) 7 9 s (bm_FI B 7 9 t)) 7 6 s = b from cf15_15)
  have cf22_16 : bm_FI B22 7 7 s = bz br := eB22 ▸ (show bm_FI (bm_putI (bm_putI (bm_putI B15 7 7 s (bz br)) 7 8 s (bm_FI B 7 8 t)) 7 9 s (bm_FI B 7 9 t)) 7 7 s = bz br from P16)
  have cf22_17 : bm_FI B22 7 8 s = (bm_FI B 7 8 t) := eB22 ▸ (show bm_FI (bm_putI (bm_putI (bm_putI B15 7 7 s (bz br)) 7 8 s (bm_FI B 7 8 t)) 7 9 s (bm_FI B 7 9 t)) 7 8 s = (bm_FI B 7 8 t) from P18)
  have cf22_18 : bm_FI B22 7 9 s = (bm_FI B 7 9 t) := eB22 ▸ (show bm_FI (bm_putI (bm_putI (bm_putI B15 7 7 s (bz br)) 7 8 s (bm_FI B 7 8 t)) 7 9 s (bm_FI B 7 9 t)) 7 9 s = (bm_FI B 7 9 t) from P20)
  have cr22_0 : bm_FR B22 7 0 t = some (t + 1) := eB22 ▸ (show bm_FR (bm_putI (bm_putI (bm_putI B15 7 7 s (bz br)) 7 8 s (bm_FI B 7 8 t)) 7 9 s (bm_FI B 7 9 t)) 7 0 t = some (t + 1) from cr15_0)
  have cr22_1 : bm_FR B22 7 0 s = some (s + 1) := eB22 ▸ (show bm_FR (bm_putI (bm_putI (bm_putI B15 7 7 s (bz br)) 7 8 s (bm_FI B 7 8 t)) 7 9 s (bm_FI B 7 9 t)) 7 0 s = some (s + 1) from cr15_1)
  have cz22 : fz (fun y => y = s) B1 B22 := eB22 ▸ (show fz (fun y => y = s) B1 (bm_putI (bm_putI (bm_putI B15 7 7 s (bz br)) 7 8 s (bm_FI B 7 8 t)) 7 9 s (bm_FI B 7 9 t)) from Z21)
  rw [← eB22]
  clear eB22
  refine g_ald (pc' := 84) cd_Se_copyFrom rfl (Or.inr ⟨_, rfl, rfl, rfl⟩) l0 rfl rfl ?_
  refine g_ald (pc' := 85) cd_Se_copyFrom rfl (Or.inr ⟨_, rfl, rfl, rfl⟩) l1 rfl rfl ?_
  refine g_fI (c := 7) (k := 10) (x := bz on) (pc' := 88) cd_Se_copyFrom rfl rfl rfl rfl rfl (by decide) cl22_0 ck22_0 cf22_9 ?_
  refine g_putI (c := 7) (k := 10) (pc' := 91) cd_Se_copyFrom rfl rfl rfl rfl (by cases on <;> decide) (Or.inl rfl) rfl (by decide) cl22_2 ck22_2 ?_
  have P23 : bm_FI (bm_putI B22 7 10 s (bz on)) 7 10 s = bz on := if_pos ⟨rfl, rfl, rfl⟩
  have Z24 : fz (fun y => y = s) B1 (bm_putI B22 7 10 s (bz on)) := fz_trans cz22 ⟨fr_mono (fun _ q => q) (fr_putI _ 7 10 s _), rfl, rfl⟩
  exact g_retv cd_Se_copyFrom rfl ⟨rfl, (kk _ ⟨⟨⟨cl22_2, ck22_2⟩, cr22_1⟩, (RIn_fr hR1 Z24.1 (by omega) (by omega) (List.prefix_refl T)), ⟨tvq cf22_10 hR.2.2.1.1, tvq cf22_11 hR.2.2.1.2.1, tvq cf22_12 hR.2.2.1.2.2.1, tvq cf22_13 hR.2.2.1.2.2.2⟩, ⟨cf22_14, cf22_15⟩, ⟨cf22_16, fun q => ⟨tvq cf22_17 (hR.2.2.2.2.1.2 q).1, tvq cf22_18 (hR.2.2.2.2.1.2 q).2⟩⟩, P23⟩ (fz_trans Z0 (fz_mono (fun _ q => Or.inl q) Z24)))⟩
def ss_tell (S : SS) (x : Int32) : Int32 := match S with
  | (I, _, _, _, se, n, b, br, _, _, _) => if x = 0 then n else if x = 1 then b else if x = 2 then I.2.2.1 else if x = 3 then nI I.2.2.2.length else if x = 4 then bz br else if x = 5 then bz (!tnil se) else if x = 6 then bz (!tnil I.2.1) else -1
theorem tt_bz {B : bm_H} {a ca ba da rm dr : Nat} {T : List Tm} {x : Int32} {A : Tm} (h : TI B a ca ba da rm dr T) (hx : tv T x A) : (x = 0 → bz (!tnil A) = 0) ∧ (¬ x = 0 → bz (!tnil A) = 1) := by
  constructor
  · intro e; rw [tnil_iff.mpr ((TI_0 h hx).mp e)]; rfl
  · intro e
    have : tnil A = false := Bool.eq_false_iff.mpr (fun q => e ((TI_0 h hx).mpr (tnil_iff.mp q)))
    rw [this]; rfl
theorem bm_eq {Q : Int32 → bm_H → Prop} {B : bm_H} {x y : Int32} (kk : Q x B) (h : x = y) : Q y B := h ▸ kk
set_option maxRecDepth 100000 in
theorem t_Stell {sc : tm_X} {d : Nat} {a ca ba da rm dr s : Nat} {B : bm_H} {T : List Tm} {I : IB} {xb xr xm xs : Tm} {n b : Int32} {br : Bool} {bp bo : Tm} {on : Bool} {x : Int32} {Q : Int32 → bm_H → Prop} (hT : TI B a ca ba da rm dr T) (hR : RSe B T s (I, xb, xr, xm, xs, n, b, br, bp, bo, on)) (hn1 : ¬ tcs a ca ba da s) (hn2 : ¬ tcs a ca ba da (s + 1)) (hn3 : ¬ tcs a ca ba da (s + 1 + 1))  (kk : Q (ss_tell (I, xb, xr, xm, xs, n, b, br, bp, bo, on) x) B) : bm_Gi sc (d + 0) 166 [.ref s, .int x] B Q := by
  have hc8 := hR.2.1.2.1.2
  show bm_G sc (d + 0) 166 0 [(0, .ref s), (1, .int x)] [] B _
  generalize elv : ([(0, .ref s), (1, .int x)] : tm_L) = lv
  have l0 : lv.lookup 0 = some (.ref s) := by rw [← elv]; rfl
  have l1 : lv.lookup 1 = some (.int x) := by rw [← elv]; rfl
  clear elv
  refine g_ild (pc' := 1) cd_Se_tell rfl (Or.inr ⟨_, rfl, rfl, rfl⟩) l1 rfl ?_
  by_cases s1_0 : x = 0
  · skip
    refine g_swk (pc' := 44) s1_0 cd_Se_tell rfl rfl (fun _ _ => rfl) ?_
    refine g_ald (pc' := 45) cd_Se_tell rfl (Or.inr ⟨_, rfl, rfl, rfl⟩) l0 rfl rfl ?_
    refine g_fI (c := 7) (k := 5) (x := n) (pc' := 48) cd_Se_tell rfl rfl rfl rfl rfl (by decide) hR.1.1.1 hR.1.1.2 hR.2.2.2.1.1 ?_
    exact g_reti cd_Se_tell rfl ⟨_, rfl, (bm_eq kk (by unfold ss_tell; dsimp only;  rw [if_pos s1_0]))⟩
  by_cases s1_1 : x = 1
  · skip
    refine g_swk (pc' := 49) s1_1 cd_Se_tell rfl rfl (fun _ _ => rfl) ?_
    refine g_ald (pc' := 50) cd_Se_tell rfl (Or.inr ⟨_, rfl, rfl, rfl⟩) l0 rfl rfl ?_
    refine g_fI (c := 7) (k := 6) (x := b) (pc' := 53) cd_Se_tell rfl rfl rfl rfl rfl (by decide) hR.1.1.1 hR.1.1.2 hR.2.2.2.1.2 ?_
    exact g_reti cd_Se_tell rfl ⟨_, rfl, (bm_eq kk (by unfold ss_tell; dsimp only; rw [if_neg s1_0]; rw [if_pos s1_1]))⟩
  by_cases s1_2 : x = 2
  · skip
    refine g_swk (pc' := 54) s1_2 cd_Se_tell rfl rfl (fun _ _ => rfl) ?_
    refine g_ald (pc' := 55) cd_Se_tell rfl (Or.inr ⟨_, rfl, rfl, rfl⟩) l0 rfl rfl ?_
    refine g_fR (c := 7) (k := 0) (x := (s + 1)) (pc' := 58) cd_Se_tell rfl rfl rfl rfl rfl (by decide) hR.1.1.1 hR.1.1.2 hR.1.2 ?_
    refine g_fI (c := 2) (k := 4) (x := I.2.2.1) (pc' := 61) cd_Se_tell rfl rfl rfl rfl rfl (by decide) hR.2.1.1.1.1 hR.2.1.1.1.2 hR.2.1.2.2.1.2.2 ?_
    exact g_reti cd_Se_tell rfl ⟨_, rfl, (bm_eq kk (by unfold ss_tell; dsimp only; rw [if_neg s1_0]; rw [if_neg s1_1]; rw [if_pos s1_2]))⟩
  by_cases s1_3 : x = 3
  · skip
    refine g_swk (pc' := 62) s1_3 cd_Se_tell rfl rfl (fun _ _ => rfl) ?_
    refine g_ald (pc' := 63) cd_Se_tell rfl (Or.inr ⟨_, rfl, rfl, rfl⟩) l0 rfl rfl ?_
    refine g_fR (c := 7) (k := 0) (x := (s + 1)) (pc' := 66) cd_Se_tell rfl rfl rfl rfl rfl (by decide) hR.1.1.1 hR.1.1.2 hR.1.2 ?_
    refine g_fI (c := 2) (k := 1) (x := (nI I.2.2.2.length)) (pc' := 69) cd_Se_tell rfl rfl rfl rfl rfl (by decide) hR.2.1.1.1.1 hR.2.1.1.1.2 hR.2.1.2.1.1 ?_
    exact g_reti cd_Se_tell rfl ⟨_, rfl, (bm_eq kk (by unfold ss_tell; dsimp only; rw [if_neg s1_0]; rw [if_neg s1_1]; rw [if_neg s1_2]; rw [if_pos s1_3]))⟩
  by_cases s1_4 : x = 4
  · skip
    refine g_swk (pc' := 70) s1_4 cd_Se_tell rfl rfl (fun _ _ => rfl) ?_
    refine g_ald (pc' := 71) cd_Se_tell rfl (Or.inr ⟨_, rfl, rfl, rfl⟩) l0 rfl rfl ?_
    refine g_fI (c := 7) (k := 7) (x := bz br) (pc' := 74) cd_Se_tell rfl rfl rfl rfl rfl (by decide) hR.1.1.1 hR.1.1.2 hR.2.2.2.2.1.1 ?_
    refine g_if1 (t := 81) (pc' := 77) cd_Se_tell rfl rfl rfl (fun c74 => ?_) (fun c74 => ?_)
    · have c74 : br = false := bz_f c74
      refine g_k1 (v := 0) (pc' := 82) cd_Se_tell rfl (by decide) rfl ?_
      exact g_reti cd_Se_tell rfl ⟨_, rfl, (bm_eq kk (by unfold ss_tell; dsimp only; rw [if_neg s1_0]; rw [if_neg s1_1]; rw [if_neg s1_2]; rw [if_neg s1_3]; rw [if_pos s1_4]; rw [c74]; rfl))⟩
    · have c74 : br = true := bz_t c74
      refine g_k1 (v := 1) (pc' := 78) cd_Se_tell rfl (by decide) rfl ?_
      refine g_pure (pc' := 82) (st' := [.int 1]) cd_Se_tell rfl rfl (fun _ _ => rfl) ?_
      exact g_reti cd_Se_tell rfl ⟨_, rfl, (bm_eq kk (by unfold ss_tell; dsimp only; rw [if_neg s1_0]; rw [if_neg s1_1]; rw [if_neg s1_2]; rw [if_neg s1_3]; rw [if_pos s1_4]; rw [c74]; rfl))⟩
  by_cases s1_5 : x = 5
  · skip
    refine g_swk (pc' := 83) s1_5 cd_Se_tell rfl rfl (fun _ _ => rfl) ?_
    refine g_ald (pc' := 84) cd_Se_tell rfl (Or.inr ⟨_, rfl, rfl, rfl⟩) l0 rfl rfl ?_
    refine g_fI (c := 7) (k := 4) (x := (bm_FI B 7 4 s)) (pc' := 87) cd_Se_tell rfl rfl rfl rfl rfl (by decide) hR.1.1.1 hR.1.1.2 rfl ?_
    refine g_if1 (t := 94) (pc' := 90) cd_Se_tell rfl rfl rfl (fun c87 => ?_) (fun c87 => ?_)
    · have c87 : (bm_FI B 7 4 s) = 0 := c87
      refine g_k1 (v := 0) (pc' := 95) cd_Se_tell rfl (by decide) rfl ?_
      exact g_reti cd_Se_tell rfl ⟨_, rfl, (bm_eq kk (by unfold ss_tell; dsimp only; rw [if_neg s1_0]; rw [if_neg s1_1]; rw [if_neg s1_2]; rw [if_neg s1_3]; rw [if_neg s1_4]; rw [if_pos s1_5]; exact (tt_bz hT hR.2.2.1.2.2.2).1 c87))⟩
    · have c87 : ¬ (bm_FI B 7 4 s) = 0 := c87
      refine g_k1 (v := 1) (pc' := 91) cd_Se_tell rfl (by decide) rfl ?_
      refine g_pure (pc' := 95) (st' := [.int 1]) cd_Se_tell rfl rfl (fun _ _ => rfl) ?_
      exact g_reti cd_Se_tell rfl ⟨_, rfl, (bm_eq kk (by unfold ss_tell; dsimp only; rw [if_neg s1_0]; rw [if_neg s1_1]; rw [if_neg s1_2]; rw [if_neg s1_3]; rw [if_neg s1_4]; rw [if_pos s1_5]; exact (tt_bz hT hR.2.2.1.2.2.2).2 c87))⟩
  by_cases s1_6 : x = 6
  · skip
    refine g_swk (pc' := 96) s1_6 cd_Se_tell rfl rfl (fun _ _ => rfl) ?_
    refine g_ald (pc' := 97) cd_Se_tell rfl (Or.inr ⟨_, rfl, rfl, rfl⟩) l0 rfl rfl ?_
    refine g_fR (c := 7) (k := 0) (x := (s + 1)) (pc' := 100) cd_Se_tell rfl rfl rfl rfl rfl (by decide) hR.1.1.1 hR.1.1.2 hR.1.2 ?_
    refine g_fI (c := 2) (k := 3) (x := (bm_FI B 2 3 (s + 1))) (pc' := 103) cd_Se_tell rfl rfl rfl rfl rfl (by decide) hR.2.1.1.1.1 hR.2.1.1.1.2 rfl ?_
    refine g_if1 (t := 110) (pc' := 106) cd_Se_tell rfl rfl rfl (fun c103 => ?_) (fun c103 => ?_)
    · have c103 : (bm_FI B 2 3 (s + 1)) = 0 := c103
      refine g_k1 (v := 0) (pc' := 111) cd_Se_tell rfl (by decide) rfl ?_
      exact g_reti cd_Se_tell rfl ⟨_, rfl, (bm_eq kk (by unfold ss_tell; dsimp only; rw [if_neg s1_0]; rw [if_neg s1_1]; rw [if_neg s1_2]; rw [if_neg s1_3]; rw [if_neg s1_4]; rw [if_neg s1_5]; rw [if_pos s1_6]; exact (tt_bz hT hR.2.1.2.2.1.2.1).1 c103))⟩
    · have c103 : ¬ (bm_FI B 2 3 (s + 1)) = 0 := c103
      refine g_k1 (v := 1) (pc' := 107) cd_Se_tell rfl (by decide) rfl ?_
      refine g_pure (pc' := 111) (st' := [.int 1]) cd_Se_tell rfl rfl (fun _ _ => rfl) ?_
      exact g_reti cd_Se_tell rfl ⟨_, rfl, (bm_eq kk (by unfold ss_tell; dsimp only; rw [if_neg s1_0]; rw [if_neg s1_1]; rw [if_neg s1_2]; rw [if_neg s1_3]; rw [if_neg s1_4]; rw [if_neg s1_5]; rw [if_pos s1_6]; exact (tt_bz hT hR.2.1.2.2.1.2.1).2 c103))⟩
  refine g_swd (t := 112) cd_Se_tell rfl rfl (by have := i32_ne (n := 0) (by decide) s1_0; have := i32_ne (n := 1) (by decide) s1_1; have := i32_ne (n := 2) (by decide) s1_2; have := i32_ne (n := 3) (by decide) s1_3; have := i32_ne (n := 4) (by decide) s1_4; have := i32_ne (n := 5) (by decide) s1_5; have := i32_ne (n := 6) (by decide) s1_6; omega) ?_
  refine g_k1 (v := (-1)) (pc' := 113) cd_Se_tell rfl (by decide) rfl ?_
  exact g_reti cd_Se_tell rfl ⟨_, rfl, (bm_eq kk (by unfold ss_tell; dsimp only; rw [if_neg s1_0]; rw [if_neg s1_1]; rw [if_neg s1_2]; rw [if_neg s1_3]; rw [if_neg s1_4]; rw [if_neg s1_5]; rw [if_neg s1_6]))⟩
