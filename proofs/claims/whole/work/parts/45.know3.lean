/-! Knowledge: openUp, tryUses -/
theorem i4 {P : Nat → Prop} (h0 : P 0) (h1 : P 1) (h2 : P 2) (h3 : P 3) (i : Nat) (hi : i < 4) : P i := by
  rcases (by omega : i = 0 ∨ i = 1 ∨ i = 2 ∨ i = 3) with rfl | rfl | rfl | rfl
  · exact h0
  · exact h1
  · exact h2
  · exact h3
section KW
variable {B B' : bm_H} {k a kc kl rk sp ln e0 N ca ba da rm dr : Nat} {L : List Nat} {fp : Nat → Nat} {T : List Tm}
/-- Knowledge's cells and Terms' cells are apart -/
def kt_ap (kc kl ca ba da : Nat) : Prop := (kc ≠ ca ∧ kc ≠ ba ∧ kc ≠ da) ∧ (kl ≠ ca ∧ kl ≠ ba ∧ kl ≠ da)
theorem kt_n (hT : TI B a ca ba da rm dr T) (hK : KK B k a kc kl rk L sp ln e0 N fp) (hd : kt_ap kc kl ca ba da) : ¬ kx k kc kl a ∧ ¬ kx k kc kl ca ∧ ¬ kx k kc kl ba ∧ ¬ kx k kc kl da := by
  obtain ⟨⟨⟨-, a2⟩, -, ⟨⟨-, b2, -⟩, ⟨-, b5, -⟩, -, b8, -⟩, -⟩, -⟩ := hT
  obtain ⟨⟨⟨-, k2⟩, -, ⟨⟨-, k4, -⟩, -, k6, -⟩, -⟩, -⟩ := hK
  obtain ⟨⟨d1, d2, d3⟩, d4, d5, d6⟩ := hd
  refine ⟨?_, ?_, ?_, ?_⟩
  · rintro (rfl | rfl | rfl)
    · rw [k2] at a2; exact absurd a2 (by decide)
    · rw [k4] at a2; exact absurd a2 (by decide)
    · rw [k6] at a2; exact absurd a2 (by decide)
  · rintro (rfl | rfl | rfl)
    · rw [k2] at b2; exact absurd b2 (by decide)
    · exact d1 rfl
    · exact d4 rfl
  · rintro (rfl | rfl | rfl)
    · rw [k2] at b5; exact absurd b5 (by decide)
    · exact d2 rfl
    · exact d5 rfl
  · rintro (rfl | rfl | rfl)
    · rw [k2] at b8; exact absurd b8 (by decide)
    · exact d3 rfl
    · exact d6 rfl
theorem kt_TI (hT : TI B a ca ba da rm dr T) (hK : KK B k a kc kl rk L sp ln e0 N fp) (hd : kt_ap kc kl ca ba da) (hf : fz (kx k kc kl) B B') : TI B' a ca ba da rm dr T := TI_fr hT hf.1 (kt_n hT hK hd).1 (kt_n hT hK hd).2.1 (kt_n hT hK hd).2.2.1
end KW
set_option maxRecDepth 100000 in
theorem t_openUp {sc : tm_X} {d : Nat} {B : bm_H} {k a kc kl rk sp ln e0 ca ba da rm dr : Nat} {L : List Nat} {fp : Nat → Nat} {T : List Tm} {G : Tm → Prop} {u : Nat} {A : Tm} {Q : bm_H → Prop} (hT : TI B a ca ba da rm dr T) (hK : KK B k a kc kl rk L sp ln e0 T.length fp) (hp : pp_ok T fp) (hd : kt_ap kc kl ca ba da) (u0 : 0 < u) (hul : u < ln) (hA : T[u]? = some A) (hs : snd T G L) (hKu : Kn G A) (kk : ∀ B' L', TI B' a ca ba da rm dr T → KK B' k a kc kl rk L' sp ln e0 T.length fp → L <+: L' → snd T G L' → fz (kx k kc kl) B B' → (kd A = 7 → ∀ i, i < 4 → KL T L' (pt A i)) → (kd A = 6 → KL T L' (pt A 1)) → (kd A = 5 → KL T L' (pt A 1) ∧ (KL T L (pt A 0) → KL T L' (pt A 2))) → Q B') : bm_Gv sc (d + 1) 27 [.ref k, .int (nI u)] B Q := by
  show bm_G sc (d + 1) 27 0 [(0, .ref k), (1, .int (nI u))] [] B _
  generalize elv : ([(0, .ref k), (1, .int (nI u))] : tm_L) = lv
  have l0 : lv.lookup 0 = some (.ref k) := by rw [← elv]; rfl
  have l1 : lv.lookup 1 = some (.int (nI u)) := by rw [← elv]; rfl
  clear elv
  refine g_ald (pc' := 1) cd_Kn_openUp rfl (Or.inr ⟨_, rfl, rfl, rfl⟩) l0 rfl rfl ?_
  refine g_fR (c := 3) (k := 0) (x := a) (pc' := 4) cd_Kn_openUp rfl rfl rfl rfl rfl (by decide) hK.1.1.1 hK.1.1.2 hK.1.2.1.1 ?_
  refine g_ild (pc' := 5) cd_Kn_openUp rfl (Or.inr ⟨_, rfl, rfl, rfl⟩) l1 rfl ?_
  refine g_calli (pc' := 8) cd_Kn_openUp rfl rfl rfl rfl rfl (tm_invV rfl rfl cd_Te_kindOf rfl (Nat.le_of_ble_eq_true rfl) (by decide) hT.1.1.1 hT.1.1.2) (t_kindOf hT ⟨u, rfl, hA⟩ ?_)
  show bm_G _ _ _ 8 _ [.int (kd A)] B _
  refine g_ist (pc' := 9) cd_Kn_openUp rfl (Or.inr ⟨_, rfl, rfl, rfl⟩) (by decide) rfl (fun lv el => ?_)
  have l0 := tm_lk el l0 rfl (by decide)
  have l1 := tm_lk el l1 rfl (by decide)
  have l2 : lv.lookup 2 = some (.int (kd A)) := tm_lks el
  clear el
  refine g_ild (pc' := 10) cd_Kn_openUp rfl (Or.inr ⟨_, rfl, rfl, rfl⟩) l2 rfl ?_
  refine g_k2 (v := 7) (pc' := 12) cd_Kn_openUp rfl (by decide) rfl ?_
  refine g_if2 (t := 44) (pc' := 15) cd_Kn_openUp rfl rfl rfl (fun c12 => ?_) (fun c12 => ?_)
  · have c12 : ¬ (kd A) = 7 := c12
    refine g_ild (pc' := 45) cd_Kn_openUp rfl (Or.inr ⟨_, rfl, rfl, rfl⟩) l2 rfl ?_
    refine g_k2 (v := 6) (pc' := 47) cd_Kn_openUp rfl (by decide) rfl ?_
    refine g_if2 (t := 66) (pc' := 50) cd_Kn_openUp rfl rfl rfl (fun c47 => ?_) (fun c47 => ?_)
    · have c47 : ¬ (kd A) = 6 := c47
      refine g_ild (pc' := 67) cd_Kn_openUp rfl (Or.inr ⟨_, rfl, rfl, rfl⟩) l2 rfl ?_
      refine g_k1 (v := 5) (pc' := 68) cd_Kn_openUp rfl (by decide) rfl ?_
      refine g_if2 (t := 113) (pc' := 71) cd_Kn_openUp rfl rfl rfl (fun c68 => ?_) (fun c68 => ?_)
      · have c68 : ¬ (kd A) = 5 := c68
        exact g_retv cd_Kn_openUp rfl ⟨rfl, kk _ _ hT hK (List.prefix_refl L) hs (fz_rfl _ B) (fun q => absurd q c12) (fun q => absurd q c47) (fun q => absurd q c68)⟩
      · have c68 : (kd A) = 5 := Classical.not_not.mp c68
        refine g_ald (pc' := 72) cd_Kn_openUp rfl (Or.inr ⟨_, rfl, rfl, rfl⟩) l0 rfl rfl ?_
        refine g_ald (pc' := 73) cd_Kn_openUp rfl (Or.inr ⟨_, rfl, rfl, rfl⟩) l0 rfl rfl ?_
        refine g_fR (c := 3) (k := 0) (x := a) (pc' := 76) cd_Kn_openUp rfl rfl rfl rfl rfl (by decide) hK.1.1.1 hK.1.1.2 hK.1.2.1.1 ?_
        refine g_ild (pc' := 77) cd_Kn_openUp rfl (Or.inr ⟨_, rfl, rfl, rfl⟩) l1 rfl ?_
        refine g_k1 (v := 1) (pc' := 78) cd_Kn_openUp rfl (by decide) rfl ?_
        refine g_calli (pc' := 81) cd_Kn_openUp rfl rfl rfl rfl rfl (tm_invV rfl rfl cd_Te_partOf rfl (Nat.le_of_ble_eq_true rfl) (by decide) hT.1.1.1 hT.1.1.2) (k_Te_partOf hT.1 ?_)
        rw [show te_gt2 _ ca T.length (nI u) 1 6 = nI (fp (u * 4 + 1)) from TI_pp hT u0 hA (i := 1) (by decide) hp]
        show bm_G _ _ _ 81 _ [.int (nI (fp (u * 4 + 1))), .ref k] B _
        refine g_callv (pc' := 84) cd_Kn_openUp rfl rfl rfl rfl rfl (tm_invV rfl rfl cd_Kn_learn rfl (Nat.le_of_ble_eq_true rfl) (by decide) hK.1.1.1 hK.1.1.2) (t_learn hT.1 hK (tv_lt (hp u A 1 u0 hA (by decide)).2) (fun B1 L1 hK1 hf1 hL1 hm1 => ?_))
        have hT1 := kt_TI hT hK hd hf1
        have hs1 := snd_add hs hL1 (fun x hx => by rw [(hp u A 1 u0 hA (by decide)).2] at hx; cases hx; exact ((Kn_clo G).2.2.2.2 A hKu c68).1)
        have hP1 := ((List.prefix_refl L)).trans (sub_add hL1)
        have hF1 := fz_trans (fz_rfl _ B) hf1
        show bm_G _ _ _ 84 _ [] B1 _
        refine g_ald (pc' := 85) cd_Kn_openUp rfl (Or.inr ⟨_, rfl, rfl, rfl⟩) l0 rfl rfl ?_
        refine g_ald (pc' := 86) cd_Kn_openUp rfl (Or.inr ⟨_, rfl, rfl, rfl⟩) l0 rfl rfl ?_
        refine g_fR (c := 3) (k := 0) (x := a) (pc' := 89) cd_Kn_openUp rfl rfl rfl rfl rfl (by decide) hK1.1.1.1 hK1.1.1.2 hK1.1.2.1.1 ?_
        refine g_ild (pc' := 90) cd_Kn_openUp rfl (Or.inr ⟨_, rfl, rfl, rfl⟩) l1 rfl ?_
        refine g_k1 (v := 0) (pc' := 91) cd_Kn_openUp rfl (by decide) rfl ?_
        refine g_calli (pc' := 94) cd_Kn_openUp rfl rfl rfl rfl rfl (tm_invV rfl rfl cd_Te_partOf rfl (Nat.le_of_ble_eq_true rfl) (by decide) hT1.1.1.1 hT1.1.1.2) (k_Te_partOf hT1.1 ?_)
        rw [show te_gt2 _ ca T.length (nI u) 0 6 = nI (fp (u * 4 + 0)) from TI_pp hT1 u0 hA (i := 0) (by decide) hp]
        show bm_G _ _ _ 94 _ [.int (nI (fp (u * 4 + 0))), .ref k] B1 _
        refine g_calli (pc' := 97) cd_Kn_openUp rfl rfl rfl rfl rfl (tm_invV rfl rfl cd_Kn_isKnown rfl (Nat.le_of_ble_eq_true rfl) (by decide) hK1.1.1.1 hK1.1.1.2) (kk_isKnown hK1 (u := fp (u * 4 + 0)) (by have := (hp u A 0 u0 hA (by decide)).1; have := KK_rk hK1; omega) (fun w => ?_) (fun w => ?_))
        · skip
          have hk0 : KL T L1 (pt A 0) := KL_of hT (hp u A 0 u0 hA (by decide)).2 (w.elim Or.inl (fun q => Or.inr q.2))
          show bm_G _ _ _ 97 _ [.int 1] B1 _
          refine g_if1 (t := 113) (pc' := 100) cd_Kn_openUp rfl rfl rfl (fun c97 => ?_) (fun c97 => ?_)
          · exact absurd (show (1 : Int32) = 0 from c97) (by decide)
          · have c97 : ¬ (1 : Int32) = 0 := c97
            refine g_ald (pc' := 101) cd_Kn_openUp rfl (Or.inr ⟨_, rfl, rfl, rfl⟩) l0 rfl rfl ?_
            refine g_ald (pc' := 102) cd_Kn_openUp rfl (Or.inr ⟨_, rfl, rfl, rfl⟩) l0 rfl rfl ?_
            refine g_fR (c := 3) (k := 0) (x := a) (pc' := 105) cd_Kn_openUp rfl rfl rfl rfl rfl (by decide) hK1.1.1.1 hK1.1.1.2 hK1.1.2.1.1 ?_
            refine g_ild (pc' := 106) cd_Kn_openUp rfl (Or.inr ⟨_, rfl, rfl, rfl⟩) l1 rfl ?_
            refine g_k1 (v := 2) (pc' := 107) cd_Kn_openUp rfl (by decide) rfl ?_
            refine g_calli (pc' := 110) cd_Kn_openUp rfl rfl rfl rfl rfl (tm_invV rfl rfl cd_Te_partOf rfl (Nat.le_of_ble_eq_true rfl) (by decide) hT1.1.1.1 hT1.1.1.2) (k_Te_partOf hT1.1 ?_)
            rw [show te_gt2 _ ca T.length (nI u) 2 6 = nI (fp (u * 4 + 2)) from TI_pp hT1 u0 hA (i := 2) (by decide) hp]
            show bm_G _ _ _ 110 _ [.int (nI (fp (u * 4 + 2))), .ref k] B1 _
            refine g_callv (pc' := 113) cd_Kn_openUp rfl rfl rfl rfl rfl (tm_invV rfl rfl cd_Kn_learn rfl (Nat.le_of_ble_eq_true rfl) (by decide) hK1.1.1.1 hK1.1.1.2) (t_learn hT1.1 hK1 (tv_lt (hp u A 2 u0 hA (by decide)).2) (fun B2 L2 hK2 hf2 hL2 hm2 => ?_))
            have hT2 := kt_TI hT1 hK1 hd hf2
            have hs2 := snd_add hs1 hL2 (fun x hx => by rw [(hp u A 2 u0 hA (by decide)).2] at hx; cases hx; exact ((Kn_clo G).2.2.2.2 A hKu c68).2 (snd_KL hs1 hk0))
            have hP2 := (hP1).trans (sub_add hL2)
            have hF2 := fz_trans hF1 hf2
            show bm_G _ _ _ 113 _ [] B2 _
            exact g_retv cd_Kn_openUp rfl ⟨rfl, kk _ _ hT2 hK2 hP2 hs2 hF2 (fun q => absurd q c12) (fun q => absurd q c47) (fun _ => ⟨(KL_mono (sub_add hL2) (KL_of hT (hp u A 1 u0 hA (by decide)).2 hm1)), fun _ => (KL_of hT (hp u A 2 u0 hA (by decide)).2 hm2)⟩)⟩
        · skip
          show bm_G _ _ _ 97 _ [.int 0] B1 _
          refine g_if1 (t := 113) (pc' := 100) cd_Kn_openUp rfl rfl rfl (fun c97 => ?_) (fun c97 => ?_)
          · have c97 : (0 : Int32) = 0 := c97
            exact g_retv cd_Kn_openUp rfl ⟨rfl, kk _ _ hT1 hK1 hP1 hs1 hF1 (fun q => absurd q c12) (fun q => absurd q c47) (fun _ => ⟨(KL_of hT (hp u A 1 u0 hA (by decide)).2 hm1), fun q => absurd (KL_mono (sub_add hL1) q) (fun q2 => w ((KK_is hK1 (by have := (hp u A 0 u0 hA (by decide)).1; have := KK_rk hK1; omega)).mp ((KL_is hT1 hK1 (hp u A 0 u0 hA (by decide)).2 (by have := (hp u A 0 u0 hA (by decide)).1; omega)).mpr q2)))⟩)⟩
          · exact absurd (show ¬ (0 : Int32) = 0 from c97) (by decide)
    · have c47 : (kd A) = 6 := Classical.not_not.mp c47
      refine g_ald (pc' := 51) cd_Kn_openUp rfl (Or.inr ⟨_, rfl, rfl, rfl⟩) l0 rfl rfl ?_
      refine g_ald (pc' := 52) cd_Kn_openUp rfl (Or.inr ⟨_, rfl, rfl, rfl⟩) l0 rfl rfl ?_
      refine g_fR (c := 3) (k := 0) (x := a) (pc' := 55) cd_Kn_openUp rfl rfl rfl rfl rfl (by decide) hK.1.1.1 hK.1.1.2 hK.1.2.1.1 ?_
      refine g_ild (pc' := 56) cd_Kn_openUp rfl (Or.inr ⟨_, rfl, rfl, rfl⟩) l1 rfl ?_
      refine g_k1 (v := 1) (pc' := 57) cd_Kn_openUp rfl (by decide) rfl ?_
      refine g_calli (pc' := 60) cd_Kn_openUp rfl rfl rfl rfl rfl (tm_invV rfl rfl cd_Te_partOf rfl (Nat.le_of_ble_eq_true rfl) (by decide) hT.1.1.1 hT.1.1.2) (k_Te_partOf hT.1 ?_)
      rw [show te_gt2 _ ca T.length (nI u) 1 6 = nI (fp (u * 4 + 1)) from TI_pp hT u0 hA (i := 1) (by decide) hp]
      show bm_G _ _ _ 60 _ [.int (nI (fp (u * 4 + 1))), .ref k] B _
      refine g_callv (pc' := 63) cd_Kn_openUp rfl rfl rfl rfl rfl (tm_invV rfl rfl cd_Kn_learn rfl (Nat.le_of_ble_eq_true rfl) (by decide) hK.1.1.1 hK.1.1.2) (t_learn hT.1 hK (tv_lt (hp u A 1 u0 hA (by decide)).2) (fun B3 L3 hK3 hf3 hL3 hm3 => ?_))
      have hT3 := kt_TI hT hK hd hf3
      have hs3 := snd_add hs hL3 (fun x hx => by rw [(hp u A 1 u0 hA (by decide)).2] at hx; cases hx; exact (Kn_clo G).2.2.2.1 A hKu c47)
      have hP3 := ((List.prefix_refl L)).trans (sub_add hL3)
      have hF3 := fz_trans (fz_rfl _ B) hf3
      show bm_G _ _ _ 63 _ [] B3 _
      refine g_pure (pc' := 113) (st' := []) cd_Kn_openUp rfl rfl (fun _ _ => rfl) ?_
      exact g_retv cd_Kn_openUp rfl ⟨rfl, kk _ _ hT3 hK3 hP3 hs3 hF3 (fun q => absurd q c12) (fun _ => (KL_of hT (hp u A 1 u0 hA (by decide)).2 hm3)) (fun q => absurd q (by rw [show kd A = 6 from c47]; decide))⟩
  · have c12 : (kd A) = 7 := Classical.not_not.mp c12
    refine g_k1 (v := 0) (pc' := 16) cd_Kn_openUp rfl (by decide) rfl ?_
    refine g_ist (pc' := 17) cd_Kn_openUp rfl (Or.inr ⟨_, rfl, rfl, rfl⟩) (by decide) rfl (fun lv el => ?_)
    have l0 := tm_lk el l0 rfl (by decide)
    have l1 := tm_lk el l1 rfl (by decide)
    have l2 := tm_lk el l2 rfl (by decide)
    have l3 : lv.lookup 3 = some (.int 0) := tm_lks el
    clear el
    refine g_ild (pc' := 18) cd_Kn_openUp rfl (Or.inr ⟨_, rfl, rfl, rfl⟩) l3 rfl ?_
    refine g_k1 (v := 4) (pc' := 19) cd_Kn_openUp rfl (by decide) rfl ?_
    refine g_if2 (t := 41) (pc' := 22) cd_Kn_openUp rfl rfl rfl (fun c19 => ?_) (fun c19 => ?_)
    · exact absurd (show (4 : Int32) ≤ 0 from c19) (by decide)
    · have c19 : ¬ (4 : Int32) ≤ 0 := c19
      refine g_ald (pc' := 23) cd_Kn_openUp rfl (Or.inr ⟨_, rfl, rfl, rfl⟩) l0 rfl rfl ?_
      refine g_ald (pc' := 24) cd_Kn_openUp rfl (Or.inr ⟨_, rfl, rfl, rfl⟩) l0 rfl rfl ?_
      refine g_fR (c := 3) (k := 0) (x := a) (pc' := 27) cd_Kn_openUp rfl rfl rfl rfl rfl (by decide) hK.1.1.1 hK.1.1.2 hK.1.2.1.1 ?_
      refine g_ild (pc' := 28) cd_Kn_openUp rfl (Or.inr ⟨_, rfl, rfl, rfl⟩) l1 rfl ?_
      refine g_ild (pc' := 29) cd_Kn_openUp rfl (Or.inr ⟨_, rfl, rfl, rfl⟩) l3 rfl ?_
      refine g_calli (pc' := 32) cd_Kn_openUp rfl rfl rfl rfl rfl (tm_invV rfl rfl cd_Te_partOf rfl (Nat.le_of_ble_eq_true rfl) (by decide) hT.1.1.1 hT.1.1.2) (k_Te_partOf hT.1 ?_)
      rw [show te_gt2 _ ca T.length (nI u) 0 6 = nI (fp (u * 4 + 0)) from TI_pp hT u0 hA (i := 0) (by decide) hp]
      show bm_G _ _ _ 32 _ [.int (nI (fp (u * 4 + 0))), .ref k] B _
      refine g_callv (pc' := 35) cd_Kn_openUp rfl rfl rfl rfl rfl (tm_invV rfl rfl cd_Kn_learn rfl (Nat.le_of_ble_eq_true rfl) (by decide) hK.1.1.1 hK.1.1.2) (t_learn hT.1 hK (tv_lt (hp u A 0 u0 hA (by decide)).2) (fun B4 L4 hK4 hf4 hL4 hm4 => ?_))
      have hT4 := kt_TI hT hK hd hf4
      have hs4 := snd_add hs hL4 (fun x hx => by rw [(hp u A 0 u0 hA (by decide)).2] at hx; cases hx; exact (Kn_clo G).2.2.1 A hKu c12 0 (by decide))
      have hP4 := ((List.prefix_refl L)).trans (sub_add hL4)
      have hF4 := fz_trans (fz_rfl _ B) hf4
      show bm_G _ _ _ 35 _ [] B4 _
      refine g_inc (y := 1) (pc' := 38) cd_Kn_openUp rfl l3 (by decide) (by decide) rfl (fun lv el => ?_)
      have l0 := tm_lk el l0 rfl (by decide)
      have l1 := tm_lk el l1 rfl (by decide)
      have l2 := tm_lk el l2 rfl (by decide)
      have l3 : lv.lookup 3 = some (.int 1) := tm_lks el
      clear el
      refine g_pure (pc' := 17) (st' := []) cd_Kn_openUp rfl rfl (fun _ _ => rfl) ?_
      refine g_ild (pc' := 18) cd_Kn_openUp rfl (Or.inr ⟨_, rfl, rfl, rfl⟩) l3 rfl ?_
      refine g_k1 (v := 4) (pc' := 19) cd_Kn_openUp rfl (by decide) rfl ?_
      refine g_if2 (t := 41) (pc' := 22) cd_Kn_openUp rfl rfl rfl (fun c19 => ?_) (fun c19 => ?_)
      · exact absurd (show (4 : Int32) ≤ 1 from c19) (by decide)
      · have c19 : ¬ (4 : Int32) ≤ 1 := c19
        refine g_ald (pc' := 23) cd_Kn_openUp rfl (Or.inr ⟨_, rfl, rfl, rfl⟩) l0 rfl rfl ?_
        refine g_ald (pc' := 24) cd_Kn_openUp rfl (Or.inr ⟨_, rfl, rfl, rfl⟩) l0 rfl rfl ?_
        refine g_fR (c := 3) (k := 0) (x := a) (pc' := 27) cd_Kn_openUp rfl rfl rfl rfl rfl (by decide) hK4.1.1.1 hK4.1.1.2 hK4.1.2.1.1 ?_
        refine g_ild (pc' := 28) cd_Kn_openUp rfl (Or.inr ⟨_, rfl, rfl, rfl⟩) l1 rfl ?_
        refine g_ild (pc' := 29) cd_Kn_openUp rfl (Or.inr ⟨_, rfl, rfl, rfl⟩) l3 rfl ?_
        refine g_calli (pc' := 32) cd_Kn_openUp rfl rfl rfl rfl rfl (tm_invV rfl rfl cd_Te_partOf rfl (Nat.le_of_ble_eq_true rfl) (by decide) hT4.1.1.1 hT4.1.1.2) (k_Te_partOf hT4.1 ?_)
        rw [show te_gt2 _ ca T.length (nI u) 1 6 = nI (fp (u * 4 + 1)) from TI_pp hT4 u0 hA (i := 1) (by decide) hp]
        show bm_G _ _ _ 32 _ [.int (nI (fp (u * 4 + 1))), .ref k] B4 _
        refine g_callv (pc' := 35) cd_Kn_openUp rfl rfl rfl rfl rfl (tm_invV rfl rfl cd_Kn_learn rfl (Nat.le_of_ble_eq_true rfl) (by decide) hK4.1.1.1 hK4.1.1.2) (t_learn hT4.1 hK4 (tv_lt (hp u A 1 u0 hA (by decide)).2) (fun B5 L5 hK5 hf5 hL5 hm5 => ?_))
        have hT5 := kt_TI hT4 hK4 hd hf5
        have hs5 := snd_add hs4 hL5 (fun x hx => by rw [(hp u A 1 u0 hA (by decide)).2] at hx; cases hx; exact (Kn_clo G).2.2.1 A hKu c12 1 (by decide))
        have hP5 := (hP4).trans (sub_add hL5)
        have hF5 := fz_trans hF4 hf5
        show bm_G _ _ _ 35 _ [] B5 _
        refine g_inc (y := 2) (pc' := 38) cd_Kn_openUp rfl l3 (by decide) (by decide) rfl (fun lv el => ?_)
        have l0 := tm_lk el l0 rfl (by decide)
        have l1 := tm_lk el l1 rfl (by decide)
        have l2 := tm_lk el l2 rfl (by decide)
        have l3 : lv.lookup 3 = some (.int 2) := tm_lks el
        clear el
        refine g_pure (pc' := 17) (st' := []) cd_Kn_openUp rfl rfl (fun _ _ => rfl) ?_
        refine g_ild (pc' := 18) cd_Kn_openUp rfl (Or.inr ⟨_, rfl, rfl, rfl⟩) l3 rfl ?_
        refine g_k1 (v := 4) (pc' := 19) cd_Kn_openUp rfl (by decide) rfl ?_
        refine g_if2 (t := 41) (pc' := 22) cd_Kn_openUp rfl rfl rfl (fun c19 => ?_) (fun c19 => ?_)
        · exact absurd (show (4 : Int32) ≤ 2 from c19) (by decide)
        · have c19 : ¬ (4 : Int32) ≤ 2 := c19
          refine g_ald (pc' := 23) cd_Kn_openUp rfl (Or.inr ⟨_, rfl, rfl, rfl⟩) l0 rfl rfl ?_
          refine g_ald (pc' := 24) cd_Kn_openUp rfl (Or.inr ⟨_, rfl, rfl, rfl⟩) l0 rfl rfl ?_
          refine g_fR (c := 3) (k := 0) (x := a) (pc' := 27) cd_Kn_openUp rfl rfl rfl rfl rfl (by decide) hK5.1.1.1 hK5.1.1.2 hK5.1.2.1.1 ?_
          refine g_ild (pc' := 28) cd_Kn_openUp rfl (Or.inr ⟨_, rfl, rfl, rfl⟩) l1 rfl ?_
          refine g_ild (pc' := 29) cd_Kn_openUp rfl (Or.inr ⟨_, rfl, rfl, rfl⟩) l3 rfl ?_
          refine g_calli (pc' := 32) cd_Kn_openUp rfl rfl rfl rfl rfl (tm_invV rfl rfl cd_Te_partOf rfl (Nat.le_of_ble_eq_true rfl) (by decide) hT5.1.1.1 hT5.1.1.2) (k_Te_partOf hT5.1 ?_)
          rw [show te_gt2 _ ca T.length (nI u) 2 6 = nI (fp (u * 4 + 2)) from TI_pp hT5 u0 hA (i := 2) (by decide) hp]
          show bm_G _ _ _ 32 _ [.int (nI (fp (u * 4 + 2))), .ref k] B5 _
          refine g_callv (pc' := 35) cd_Kn_openUp rfl rfl rfl rfl rfl (tm_invV rfl rfl cd_Kn_learn rfl (Nat.le_of_ble_eq_true rfl) (by decide) hK5.1.1.1 hK5.1.1.2) (t_learn hT5.1 hK5 (tv_lt (hp u A 2 u0 hA (by decide)).2) (fun B6 L6 hK6 hf6 hL6 hm6 => ?_))
          have hT6 := kt_TI hT5 hK5 hd hf6
          have hs6 := snd_add hs5 hL6 (fun x hx => by rw [(hp u A 2 u0 hA (by decide)).2] at hx; cases hx; exact (Kn_clo G).2.2.1 A hKu c12 2 (by decide))
          have hP6 := (hP5).trans (sub_add hL6)
          have hF6 := fz_trans hF5 hf6
          show bm_G _ _ _ 35 _ [] B6 _
          refine g_inc (y := 3) (pc' := 38) cd_Kn_openUp rfl l3 (by decide) (by decide) rfl (fun lv el => ?_)
          have l0 := tm_lk el l0 rfl (by decide)
          have l1 := tm_lk el l1 rfl (by decide)
          have l2 := tm_lk el l2 rfl (by decide)
          have l3 : lv.lookup 3 = some (.int 3) := tm_lks el
          clear el
          refine g_pure (pc' := 17) (st' := []) cd_Kn_openUp rfl rfl (fun _ _ => rfl) ?_
          refine g_ild (pc' := 18) cd_Kn_openUp rfl (Or.inr ⟨_, rfl, rfl, rfl⟩) l3 rfl ?_
          refine g_k1 (v := 4) (pc' := 19) cd_Kn_openUp rfl (by decide) rfl ?_
          refine g_if2 (t := 41) (pc' := 22) cd_Kn_openUp rfl rfl rfl (fun c19 => ?_) (fun c19 => ?_)
          · exact absurd (show (4 : Int32) ≤ 3 from c19) (by decide)
          · have c19 : ¬ (4 : Int32) ≤ 3 := c19
            refine g_ald (pc' := 23) cd_Kn_openUp rfl (Or.inr ⟨_, rfl, rfl, rfl⟩) l0 rfl rfl ?_
            refine g_ald (pc' := 24) cd_Kn_openUp rfl (Or.inr ⟨_, rfl, rfl, rfl⟩) l0 rfl rfl ?_
            refine g_fR (c := 3) (k := 0) (x := a) (pc' := 27) cd_Kn_openUp rfl rfl rfl rfl rfl (by decide) hK6.1.1.1 hK6.1.1.2 hK6.1.2.1.1 ?_
            refine g_ild (pc' := 28) cd_Kn_openUp rfl (Or.inr ⟨_, rfl, rfl, rfl⟩) l1 rfl ?_
            refine g_ild (pc' := 29) cd_Kn_openUp rfl (Or.inr ⟨_, rfl, rfl, rfl⟩) l3 rfl ?_
            refine g_calli (pc' := 32) cd_Kn_openUp rfl rfl rfl rfl rfl (tm_invV rfl rfl cd_Te_partOf rfl (Nat.le_of_ble_eq_true rfl) (by decide) hT6.1.1.1 hT6.1.1.2) (k_Te_partOf hT6.1 ?_)
            rw [show te_gt2 _ ca T.length (nI u) 3 6 = nI (fp (u * 4 + 3)) from TI_pp hT6 u0 hA (i := 3) (by decide) hp]
            show bm_G _ _ _ 32 _ [.int (nI (fp (u * 4 + 3))), .ref k] B6 _
            refine g_callv (pc' := 35) cd_Kn_openUp rfl rfl rfl rfl rfl (tm_invV rfl rfl cd_Kn_learn rfl (Nat.le_of_ble_eq_true rfl) (by decide) hK6.1.1.1 hK6.1.1.2) (t_learn hT6.1 hK6 (tv_lt (hp u A 3 u0 hA (by decide)).2) (fun B7 L7 hK7 hf7 hL7 hm7 => ?_))
            have hT7 := kt_TI hT6 hK6 hd hf7
            have hs7 := snd_add hs6 hL7 (fun x hx => by rw [(hp u A 3 u0 hA (by decide)).2] at hx; cases hx; exact (Kn_clo G).2.2.1 A hKu c12 3 (by decide))
            have hP7 := (hP6).trans (sub_add hL7)
            have hF7 := fz_trans hF6 hf7
            show bm_G _ _ _ 35 _ [] B7 _
            refine g_inc (y := 4) (pc' := 38) cd_Kn_openUp rfl l3 (by decide) (by decide) rfl (fun lv el => ?_)
            have l0 := tm_lk el l0 rfl (by decide)
            have l1 := tm_lk el l1 rfl (by decide)
            have l2 := tm_lk el l2 rfl (by decide)
            have l3 : lv.lookup 3 = some (.int 4) := tm_lks el
            clear el
            refine g_pure (pc' := 17) (st' := []) cd_Kn_openUp rfl rfl (fun _ _ => rfl) ?_
            refine g_ild (pc' := 18) cd_Kn_openUp rfl (Or.inr ⟨_, rfl, rfl, rfl⟩) l3 rfl ?_
            refine g_k1 (v := 4) (pc' := 19) cd_Kn_openUp rfl (by decide) rfl ?_
            refine g_if2 (t := 41) (pc' := 22) cd_Kn_openUp rfl rfl rfl (fun c19 => ?_) (fun c19 => ?_)
            · have c19 : (4 : Int32) ≤ 4 := c19
              refine g_pure (pc' := 113) (st' := []) cd_Kn_openUp rfl rfl (fun _ _ => rfl) ?_
              exact g_retv cd_Kn_openUp rfl ⟨rfl, kk _ _ hT7 hK7 hP7 hs7 hF7 (fun _ => i4 (KL_mono (sub_add hL7) (KL_mono (sub_add hL6) (KL_mono (sub_add hL5) (KL_of hT (hp u A 0 u0 hA (by decide)).2 hm4)))) (KL_mono (sub_add hL7) (KL_mono (sub_add hL6) (KL_of hT (hp u A 1 u0 hA (by decide)).2 hm5))) (KL_mono (sub_add hL7) (KL_of hT (hp u A 2 u0 hA (by decide)).2 hm6)) (KL_of hT (hp u A 3 u0 hA (by decide)).2 hm7)) (fun q => absurd q (by rw [show kd A = 7 from c12]; decide)) (fun q => absurd q (by rw [show kd A = 7 from c12]; decide))⟩
            · exact absurd (show ¬ (4 : Int32) ≤ 4 from c19) (by decide)
