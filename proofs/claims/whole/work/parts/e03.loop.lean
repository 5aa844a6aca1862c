/-! The law: all rounds -/
theorem JI_next {N S n : Nat} {B : bm_H} (h : JI N S n B) (hn : n < 64) : JI N S (n + 1) B := by
  obtain ⟨DL, dev, sto, ws, dir, reg, seen, G, L, ls, lo, R, ⟨f, A, T, T', K, Kw, ca, rm, kc, kl, rk, M, ln, wt, π, w, dv, idc, h1, h2, h3, h4, h5, h6⟩, hA, hC, hK, hS⟩ := h
  have := hA.2.1
  exact ⟨DL, dev, sto, ws, dir, reg, seen, G, L, ls, lo, R, ⟨f, A, T, T', K, Kw, ca, rm, kc, kl, rk, M, ln, wt, π, w, dv, idc, h1, h2, h3, by omega, by omega, by omega⟩, IA_same hA, IC_same hC, hK, IS_same hS (by omega) rfl rfl rfl⟩
theorem len5 : ∀ a, a < 321 → (nI a - 5 : Int32).toInt = (a : Int) - 5 := by decide +kernel
theorem and31 : ∀ a : Nat, a < 32 → (nI a).toInt = (a : Int) := fun a h => nI_toInt (by omega)
def LEND (v : Option Value) (B : bm_H) : Prop := v = some (.int 1) ∧ bm_n B ≤ 600000 ∧ bm_sl B ≤ 7302250
set_option maxRecDepth 100000 in
theorem law_loop {sc : tm_X} {N S : Nat} (h3 : sc.1 ≤ 320) (hN : N ≤ 600000) (hS : S ≤ 7302250) : ∀ (r k : Nat) (lv : tm_L) (B : bm_H), r + k = 65 → k ≤ 64 → JI N S k B → lv.lookup 0 = some (.retAddr 0) → lv.lookup 1 = some (.ref 0) → lv.lookup 2 = some (.ref 1482) → lv.lookup 3 = some (.int (nI (5 * k))) → bm_G sc 14 287 18 lv [] B LEND
  | 0, k, lv, B, hr, hk, _, _, _, _, _ => by omega
  | r + 1, k, lv, B, hr, hk, h, l0, l1, l2, l3 => by
    have hm := J_mos h
    have hlen := len5 sc.1 (by omega)
    refine g_ild (pc' := 19) cd_Lh rfl (Or.inr ⟨_, rfl, rfl, rfl⟩) l3 rfl ?_
    refine g_ald (pc' := 20) cd_Lh rfl (Or.inr ⟨_, rfl, rfl, rfl⟩) l0 rfl rfl ?_
    refine g_scl (pc' := 21) cd_Lh rfl rfl ?_
    refine g_k1 (v := 5) (pc' := 22) cd_Lh rfl (by decide) rfl ?_
    refine g_pure (pc' := 23) (st' := .int (Int32.ofNat sc.1 - 5) :: _) cd_Lh rfl rfl (fun _ _ => rfl) ?_
    have hlt : (nI sc.1 - 5 : Int32) < nI (5 * k) ↔ sc.1 < 5 * k + 5 := by
      rw [Int32.lt_iff_toInt_lt, hlen, nI_toInt (by omega)]
      omega
    refine g_if2 (t := 1221) (pc' := 26) cd_Lh rfl rfl rfl (fun c => ?_) (fun c => ?_)
    · refine g_k1 (v := 1) (pc' := 1222) cd_Lt rfl (by decide) rfl ?_
      exact g_retz cd_Lt rfl (Or.inr rfl) ⟨rfl, by omega, by omega⟩
    · have c : ¬ (nI sc.1 - 5 : Int32) < nI (5 * k) := c
      have hs : 5 * k + 5 ≤ sc.1 := by have := mt hlt.mpr c; omega
      have hk' : k < 64 := by omega
      have kk : LQ sc N S k lv LEND := fun B' hJ => by
        refine g_inc (y := nI (5 * (k + 1))) (pc' := 1218) cd_Lt rfl l3 (by decide) (nI_add (5 * k) 5) rfl (fun lv el => ?_)
        have l0 := tm_lk el l0 rfl (by decide)
        have l1 := tm_lk el l1 rfl (by decide)
        have l2 := tm_lk el l2 rfl (by decide)
        have l3 : lv.lookup 3 = some (.int (nI (5 * (k + 1)))) := tm_lks el
        refine g_pure (pc' := 18) (st' := []) cd_Lt rfl rfl (fun _ _ => rfl) ?_
        exact law_loop h3 hN hS r (k + 1) lv B' (by omega) (by omega) hJ l0 l1 l2 l3
      refine g_ald (pc' := 27) cd_Lh rfl (Or.inr ⟨_, rfl, rfl, rfl⟩) l0 rfl rfl ?_
      refine g_ild (pc' := 28) cd_Lh rfl (Or.inr ⟨_, rfl, rfl, rfl⟩) l3 rfl ?_
      refine g_scr (x := sx sc k 0) (pc' := 29) cd_Lh rfl rfl (vp_in_nI (by omega) (by omega)) (by rw [nI_clamp (by omega)]; rfl) ?_
      refine g_k2 (v := 31) (pc' := 31) cd_Lh rfl (by decide) rfl ?_
      refine g_pure (pc' := 32) (st' := .int (sx sc k 0 &&& 31) :: _) cd_Lh rfl rfl (fun _ _ => rfl) ?_
      generalize sx sc k 0 &&& 31 = x
      by_cases s0 : x = 0
      · refine g_swk (pc' := 172) s0 cd_Lh rfl rfl (fun _ _ => rfl) ?_
        exact law_publish h hk' hs h3 l0 l1 l2 l3 kk
      by_cases s1 : x = 1
      · refine g_swk (pc' := 195) s1 cd_Lh rfl rfl (fun _ _ => rfl) ?_
        exact law_begin h hk' hs h3 l0 l1 l2 l3 kk
      by_cases s2 : x = 2
      · refine g_swk (pc' := 228) s2 cd_Lh rfl rfl (fun _ _ => rfl) ?_
        exact law_send h hk' hs h3 l0 l1 l2 l3 kk
      by_cases s3 : x = 3
      · refine g_swk (pc' := 261) s3 cd_Lh rfl rfl (fun _ _ => rfl) ?_
        exact law_list h hk' hs h3 l0 l1 l2 l3 kk
      by_cases s4 : x = 4
      · refine g_swk (pc' := 294) s4 cd_Lh rfl rfl (fun _ _ => rfl) ?_
        exact law_post h hk' hs h3 l0 l1 l2 l3 kk
      by_cases s5 : x = 5
      · refine g_swk (pc' := 327) s5 cd_Lh rfl rfl (fun _ _ => rfl) ?_
        exact law_deliver h hk' hs h3 l0 l1 l2 l3 kk
      by_cases s6 : x = 6
      · refine g_swk (pc' := 360) s6 cd_Lh rfl rfl (fun _ _ => rfl) ?_
        exact law_inject h hk' hs h3 l0 l1 l2 l3 kk
      by_cases s7 : x = 7
      · refine g_swk (pc' := 393) s7 cd_Lh rfl rfl (fun _ _ => rfl) ?_
        exact law_crash h hk' hs h3 l0 l1 l2 l3 kk
      by_cases s8 : x = 8
      · refine g_swk (pc' := 426) s8 cd_Lh rfl rfl (fun _ _ => rfl) ?_
        exact law_up h hk' hs h3 l0 l1 l2 l3 kk
      by_cases s9 : x = 9
      · refine g_swk (pc' := 449) s9 cd_Lh rfl rfl (fun _ _ => rfl) ?_
        exact law_draw h hk' hs h3 l0 l1 l2 l3 kk
      by_cases s10 : x = 10
      · refine g_swk (pc' := 472) s10 cd_Lh rfl rfl (fun _ _ => rfl) ?_
        exact law_take h hk' hs h3 l0 l1 l2 l3 kk
      by_cases s11 : x = 11
      · refine g_swk (pc' := 515) s11 cd_Lh rfl rfl (fun _ _ => rfl) ?_
        exact law_part h hk' hs h3 l0 l1 l2 l3 kk
      by_cases s12 : x = 12
      · refine g_swk (pc' := 558) s12 cd_Lh rfl rfl (fun _ _ => rfl) ?_
        exact law_unseal h hk' hs h3 l0 l1 l2 l3 kk
      by_cases s13 : x = 13
      · refine g_swk (pc' := 601) s13 cd_Lh rfl rfl (fun _ _ => rfl) ?_
        exact law_make h hk' hs h3 l0 l1 l2 l3 kk
      by_cases s14 : x = 14
      · refine g_swk (pc' := 654) s14 cd_Lh rfl rfl (fun _ _ => rfl) ?_
        exact law_seal h hk' hs h3 l0 l1 l2 l3 kk
      by_cases s15 : x = 15
      · refine g_swk (pc' := 707) s15 cd_Lh rfl rfl (fun _ _ => rfl) ?_
        exact law_alter h hk' hs h3 l0 l1 l2 l3 kk
      by_cases s16 : x = 16
      · refine g_swk (pc' := 760) s16 cd_Lh rfl rfl (fun _ _ => rfl) ?_
        exact law_swap h hk' hs h3 l0 l1 l2 l3 kk
      by_cases s17 : x = 17
      · refine g_swk (pc' := 813) s17 cd_Lh rfl rfl (fun _ _ => rfl) ?_
        exact law_plant h hk' hs h3 l0 l1 l2 l3 kk
      by_cases s18 : x = 18
      · refine g_swk (pc' := 856) s18 cd_Lh rfl rfl (fun _ _ => rfl) ?_
        exact law_look h hk' hs h3 l0 l1 l2 l3 kk
      by_cases s19 : x = 19
      · refine g_swk (pc' := 879) s19 cd_Lh rfl rfl (fun _ _ => rfl) ?_
        exact law_same h hk' hs h3 l0 l1 l2 l3 kk
      by_cases s20 : x = 20
      · refine g_swk (pc' := 912) s20 cd_Lh rfl rfl (fun _ _ => rfl) ?_
        exact law_about h hk' hs h3 l0 l1 l2 l3 kk
      by_cases s21 : x = 21
      · refine g_swk (pc' := 945) s21 cd_Lh rfl rfl (fun _ _ => rfl) ?_
        exact law_derived h hk' hs h3 l0 l1 l2 l3 kk
      by_cases s22 : x = 22
      · refine g_swk (pc' := 968) s22 cd_Lh rfl rfl (fun _ _ => rfl) ?_
        exact law_letter h hk' hs h3 l0 l1 l2 l3 kk
      by_cases s23 : x = 23
      · refine g_swk (pc' := 991) s23 cd_Lh rfl rfl (fun _ _ => rfl) ?_
        exact law_taken h hk' hs h3 l0 l1 l2 l3 kk
      by_cases s24 : x = 24
      · refine g_swk (pc' := 1024) s24 cd_Lh rfl rfl (fun _ _ => rfl) ?_
        exact law_device h hk' hs h3 l0 l1 l2 l3 kk
      by_cases s25 : x = 25
      · refine g_swk (pc' := 1057) s25 cd_Lh rfl rfl (fun _ _ => rfl) ?_
        exact law_session h hk' hs h3 l0 l1 l2 l3 kk
      by_cases s26 : x = 26
      · refine g_swk (pc' := 1110) s26 cd_Lh rfl rfl (fun _ _ => rfl) ?_
        exact law_group h hk' hs h3 l0 l1 l2 l3 kk
      by_cases s27 : x = 27
      · refine g_swk (pc' := 1153) s27 cd_Lh rfl rfl (fun _ _ => rfl) ?_
        exact law_count h hk' hs h3 l0 l1 l2 l3 kk
      by_cases s28 : x = 28
      · refine g_swk (pc' := 1176) s28 cd_Lh rfl rfl (fun _ _ => rfl) ?_
        exact law_forged h hk' hs h3 l0 l1 l2 l3 kk
      by_cases s29 : x = 29
      · refine g_swk (pc' := 1189) s29 cd_Lh rfl rfl (fun _ _ => rfl) ?_
        exact law_doubled h hk' hs h3 l0 l1 l2 l3 kk
      by_cases s30 : x = 30
      · refine g_swk (pc' := 1202) s30 cd_Lh rfl rfl (fun _ _ => rfl) ?_
        exact law_leaked h hk' hs h3 l0 l1 l2 l3 kk
      refine g_swd (t := 1215) cd_Lh rfl rfl (by have := i32_ne (n := 0) (by decide) s0; have := i32_ne (n := 1) (by decide) s1; have := i32_ne (n := 2) (by decide) s2; have := i32_ne (n := 3) (by decide) s3; have := i32_ne (n := 4) (by decide) s4; have := i32_ne (n := 5) (by decide) s5; have := i32_ne (n := 6) (by decide) s6; have := i32_ne (n := 7) (by decide) s7; have := i32_ne (n := 8) (by decide) s8; have := i32_ne (n := 9) (by decide) s9; have := i32_ne (n := 10) (by decide) s10; have := i32_ne (n := 11) (by decide) s11; have := i32_ne (n := 12) (by decide) s12; have := i32_ne (n := 13) (by decide) s13; have := i32_ne (n := 14) (by decide) s14; have := i32_ne (n := 15) (by decide) s15; have := i32_ne (n := 16) (by decide) s16; have := i32_ne (n := 17) (by decide) s17; have := i32_ne (n := 18) (by decide) s18; have := i32_ne (n := 19) (by decide) s19; have := i32_ne (n := 20) (by decide) s20; have := i32_ne (n := 21) (by decide) s21; have := i32_ne (n := 22) (by decide) s22; have := i32_ne (n := 23) (by decide) s23; have := i32_ne (n := 24) (by decide) s24; have := i32_ne (n := 25) (by decide) s25; have := i32_ne (n := 26) (by decide) s26; have := i32_ne (n := 27) (by decide) s27; have := i32_ne (n := 28) (by decide) s28; have := i32_ne (n := 29) (by decide) s29; have := i32_ne (n := 30) (by decide) s30; omega) ?_
      exact kk B (JI_next h hk')
