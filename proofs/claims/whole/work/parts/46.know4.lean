/-! Knowledge: tryUses -/
/-- what a use of term u (it is U) has come to, with L known behind it and L0 before -/
def up (T : List Tm) (L0 : List Nat) (U : Tm) (e : Nat) (L : List Nat) : Prop := ∀ A, T[e / 4]? = some A → (can (KL T L0) A → e / 4 ∈ L) ∧ (e / 4 ∈ L0 → kd A = 5 → pt A 0 = U → KL T L (pt A 2))
theorem up_mono {T : List Tm} {L0 L L' : List Nat} {U : Tm} {e : Nat} (h : up T L0 U e L) (hL : L <+: L') : up T L0 U e L' := fun A hA => ⟨fun c => hL.subset ((h A hA).1 c), fun q1 q2 q3 => KL_mono hL ((h A hA).2 q1 q2 q3)⟩
theorem up_next {T : List Tm} {L0 L L' : List Nat} {U : Tm} {fp : Nat → Nat} {u n m : Nat} (h : ∀ e, n ≤ e → e < m → 4 ≤ e → fp e = u → up T L0 U e L) (hL : L <+: L') (hx : up T L0 U (ul fp u n) L') : ∀ e, ul fp u n ≤ e → e < m → 4 ≤ e → fp e = u → up T L0 U e L' := by
  intro e h1 h2 h3 h4
  by_cases c : n ≤ e
  · exact up_mono (h e c h2 h3 h4) hL
  · by_cases c2 : e = ul fp u n
    · rw [c2]; exact hx
    · exact absurd h4 (ul_no fp u n e (by omega) (by omega) h3)
theorem up_end {T : List Tm} {L0 L : List Nat} {U : Tm} {fp : Nat → Nat} {u n m : Nat} (h : ∀ e, n ≤ e → e < m → 4 ≤ e → fp e = u → up T L0 U e L) (h0 : ul fp u n = 0) : ∀ e, e < m → 4 ≤ e → fp e = u → up T L0 U e L := by
  intro e h2 h3 h4
  by_cases c : n ≤ e
  · exact h e c h2 h3 h4
  · exact absurd h4 (ul_no fp u n e (by omega) (by omega) h3)
set_option maxRecDepth 100000 in
theorem l_tryUses {sc : tm_X} {d : Nat} {B0 : bm_H} {k a kc kl rk sp ln ca ba da rm dr : Nat} {L0 : List Nat} {fp : Nat → Nat} {T : List Tm} {G : Tm → Prop} {u : Nat} {U : Tm} {Q : bm_H → Prop} (hp : pp_ok T fp) (hd : kt_ap kc kl ca ba da) (u0 : 0 < u) (hU : T[u]? = some U) (hln : ln ≤ T.length) (hKu : Kn G U) (kk : ∀ B' L', TI B' a ca ba da rm dr T → KK B' k a kc kl rk L' sp ln (ln * 4) T.length fp → L0 <+: L' → snd T G L' → fz (kx k kc kl) B0 B' → (∀ e, e < ln * 4 → 4 ≤ e → fp e = u → up T L0 U e L') → Q B') : ∀ (M n q : Nat) (B : bm_H) (L : List Nat), n < M → n ≤ ln * 4 → q + n ≤ ln * 4 → TI B a ca ba da rm dr T → KK B k a kc kl rk L sp ln (ln * 4) T.length fp → L0 <+: L → snd T G L → fz (kx k kc kl) B0 B → (∀ e, n ≤ e → e < ln * 4 → 4 ≤ e → fp e = u → up T L0 U e L) → ∀ lv : tm_L, lv.lookup 0 = some (.ref k) → lv.lookup 1 = some (.int (nI u)) → lv.lookup 2 = some (.int (nI (ul fp u n))) → lv.lookup 3 = some (.int (nI q)) → bm_G sc (d + 2) 28 14 lv [] B (fun r B' => r = none ∧ Q B') := by
  intro M
  induction M with
  | zero => intro n q B L h; omega
  | succ M ih =>
    intro n q B L hnM hn hq hT hK hP hs hF hdone lv l0 l1 l2 l3
    have hr := KK_rk hK
    have hlt := ul_lt fp u n
    refine g_ild (pc' := 15) cd_Kn_tryUses rfl (Or.inr ⟨_, rfl, rfl, rfl⟩) l3 rfl ?_
    refine g_ald (pc' := 16) cd_Kn_tryUses rfl (Or.inr ⟨_, rfl, rfl, rfl⟩) l0 rfl rfl ?_
    refine g_fI (c := 3) (k := 5) (x := (nI ln)) (pc' := 19) cd_Kn_tryUses rfl rfl rfl rfl rfl (by decide) hK.1.1.1 hK.1.1.2 hK.1.2.2.2.1.2.2 ?_
    refine g_k1 (v := 4) (pc' := 20) cd_Kn_tryUses rfl (by decide) rfl ?_
    refine g_pure (pc' := 21) (st' := [.int ((nI ln) * 4), .int (nI q)]) cd_Kn_tryUses rfl rfl (fun _ _ => rfl) ?_
    rw [show nI ln * 4 = nI (ln * 4) from pk_mul ln 4]
    refine g_if2 (t := 124) (pc' := 24) cd_Kn_tryUses rfl rfl rfl (fun c21 => ?_) (fun c21 => ?_)
    · have c21 : (nI (ln * 4)) ≤ (nI q) := c21
      exact g_retv cd_Kn_tryUses rfl ⟨rfl, kk _ _ hT hK hP hs hF (up_end hdone (by rw [show n = 0 by have := (nI_leI (by omega) (by omega)).mp c21; omega]; rfl))⟩
    · have c21 : ¬ (nI (ln * 4)) ≤ (nI q) := c21
      refine g_ild (pc' := 25) cd_Kn_tryUses rfl (Or.inr ⟨_, rfl, rfl, rfl⟩) l2 rfl ?_
      refine g_if1 (t := 124) (pc' := 28) cd_Kn_tryUses rfl rfl rfl (fun c25 => ?_) (fun c25 => ?_)
      · have c25 : (nI (ul fp u n)) = 0 := c25
        exact g_retv cd_Kn_tryUses rfl ⟨rfl, kk _ _ hT hK hP hs hF (up_end hdone ((nI_eq (b := 0) (by omega) (by decide)).mp c25))⟩
      · have c25 : ¬ (nI (ul fp u n)) = 0 := c25
        have hpos : 0 < ul fp u n := Nat.pos_of_ne_zero (fun q => c25 (by rw [q]; rfl))
        have hg := ul_ge fp u n hpos
        have hlt2 := hlt.2 (by omega)
        obtain ⟨A, hA⟩ : ∃ A, T[ul fp u n / 4]? = some A := ⟨_, List.getElem?_eq_getElem (show ul fp u n / 4 < T.length by omega)⟩
        refine g_ild (pc' := 29) cd_Kn_tryUses rfl (Or.inr ⟨_, rfl, rfl, rfl⟩) l2 rfl ?_
        refine g_k1 (v := 4) (pc' := 30) cd_Kn_tryUses rfl (by decide) rfl ?_
        refine g_div (z := nI (ul fp u n / 4)) (pc' := 31) cd_Kn_tryUses rfl rfl (by decide) (pk_div (d := 4) (by omega) (by decide) (by decide)) ?_
        refine g_ist (pc' := 33) cd_Kn_tryUses rfl (Or.inl ⟨rfl, rfl⟩) (by decide) rfl (fun lv el => ?_)
        have l0 := tm_lk el l0 rfl (by decide)
        have l1 := tm_lk el l1 rfl (by decide)
        have l2 := tm_lk el l2 rfl (by decide)
        have l3 := tm_lk el l3 rfl (by decide)
        have l4 : lv.lookup 4 = some (.int (nI (ul fp u n / 4))) := tm_lks el
        clear el
        refine g_ald (pc' := 34) cd_Kn_tryUses rfl (Or.inr ⟨_, rfl, rfl, rfl⟩) l0 rfl rfl ?_
        refine g_ild (pc' := 36) cd_Kn_tryUses rfl (Or.inl ⟨rfl, rfl⟩) l4 rfl ?_
        refine g_calli (pc' := 39) cd_Kn_tryUses rfl rfl rfl rfl rfl (tm_invV rfl rfl cd_Kn_isKnown rfl (Nat.le_of_ble_eq_true rfl) (by decide) hK.1.1.1 hK.1.1.2) (kk_isKnown hK (u := (ul fp u n / 4)) (by omega) (fun w => ?_) (fun w => ?_))
        · skip
          have hwL : (ul fp u n / 4) ∈ L := w.elim (fun q => absurd q (by omega)) (fun q => q.2)
          show bm_G _ _ _ 39 _ [.int 1] B _
          refine g_if1 (t := 60) (pc' := 42) cd_Kn_tryUses rfl rfl rfl (fun c39 => ?_) (fun c39 => ?_)
          · have c39 : ¬ (1 : Int32) = 0 := c39
            refine g_ald (pc' := 61) cd_Kn_tryUses rfl (Or.inr ⟨_, rfl, rfl, rfl⟩) l0 rfl rfl ?_
            refine g_fR (c := 3) (k := 0) (x := a) (pc' := 64) cd_Kn_tryUses rfl rfl rfl rfl rfl (by decide) hK.1.1.1 hK.1.1.2 hK.1.2.1.1 ?_
            refine g_ild (pc' := 66) cd_Kn_tryUses rfl (Or.inl ⟨rfl, rfl⟩) l4 rfl ?_
            refine g_calli (pc' := 69) cd_Kn_tryUses rfl rfl rfl rfl rfl (tm_invV rfl rfl cd_Te_kindOf rfl (Nat.le_of_ble_eq_true rfl) (by decide) hT.1.1.1 hT.1.1.2) (t_kindOf hT ⟨_, rfl, hA⟩ ?_)
            show bm_G _ _ _ 69 _ [.int (kd A)] B _
            refine g_k1 (v := 5) (pc' := 70) cd_Kn_tryUses rfl (by decide) rfl ?_
            refine g_if2 (t := 101) (pc' := 73) cd_Kn_tryUses rfl rfl rfl (fun c70 => ?_) (fun c70 => ?_)
            · have c70 : ¬ (kd A) = 5 := c70
              refine g_ald (pc' := 102) cd_Kn_tryUses rfl (Or.inr ⟨_, rfl, rfl, rfl⟩) l0 rfl rfl ?_
              refine g_fR (c := 3) (k := 1) (x := kc) (pc' := 105) cd_Kn_tryUses rfl rfl rfl rfl rfl (by decide) hK.1.1.1 hK.1.1.2 hK.1.2.1.2.1 ?_
              refine g_ild (pc' := 107) cd_Kn_tryUses rfl (Or.inl ⟨rfl, rfl⟩) l4 rfl ?_
              refine g_k2 (v := 6) (pc' := 109) cd_Kn_tryUses rfl (by decide) rfl ?_
              refine g_pure (pc' := 110) (st' := [.int ((nI (ul fp u n / 4)) * 6), .ref kc]) cd_Kn_tryUses rfl rfl (fun _ _ => rfl) ?_
              refine g_k1 (v := 2) (pc' := 111) cd_Kn_tryUses rfl (by decide) rfl ?_
              refine g_pure (pc' := 112) (st' := [.int (((nI (ul fp u n / 4)) * 6) + 2), .ref kc]) cd_Kn_tryUses rfl rfl (fun _ _ => rfl) ?_
              refine g_ild (pc' := 113) cd_Kn_tryUses rfl (Or.inr ⟨_, rfl, rfl, rfl⟩) l2 rfl ?_
              refine g_k1 (v := 4) (pc' := 114) cd_Kn_tryUses rfl (by decide) rfl ?_
              refine g_rem (z := nI (ul fp u n % 4)) (pc' := 115) cd_Kn_tryUses rfl rfl (by decide) (pk_rem (d := 4) (by omega) (by decide) (by decide)) ?_
              refine g_pure (pc' := 116) (st' := [.int ((((nI (ul fp u n / 4)) * 6) + 2) + (nI (ul fp u n % 4))), .ref kc]) cd_Kn_tryUses rfl rfl (fun _ _ => rfl) ?_
              refine g_aI (x := (nI (ul fp u (ul fp u n)))) (pc' := 117) cd_Kn_tryUses rfl rfl hK.1.2.2.1.1.1 hK.1.2.2.1.1.2.1 (kn_ix2 hK.1 (u := (ul fp u n / 4)) (j := 2) (i := ul fp u n % 4) (by omega) (by omega)).1 ((congrArg (bm_AI B kc) (kn_ix2 hK.1 (u := (ul fp u n / 4)) (j := 2) (i := ul fp u n % 4) (by omega) (by omega)).2).trans ((hK.2.2.2.2.2.1 (ul fp u n) hg.1 (by omega) (by rw [hg.2]; omega)).trans (by rw [hg.2]))) ?_
              refine g_ist (pc' := 118) cd_Kn_tryUses rfl (Or.inr ⟨_, rfl, rfl, rfl⟩) (by decide) rfl (fun lv el => ?_)
              have l0 := tm_lk el l0 rfl (by decide)
              have l1 := tm_lk el l1 rfl (by decide)
              have l3 := tm_lk el l3 rfl (by decide)
              have l4 := tm_lk el l4 rfl (by decide)
              have l2 : lv.lookup 2 = some (.int ((nI (ul fp u (ul fp u n))))) := tm_lks el
              clear el
              refine g_inc (y := nI (q + 1)) (pc' := 121) cd_Kn_tryUses rfl l3 (by decide) (nI_1 q) rfl (fun lv el => ?_)
              have l0 := tm_lk el l0 rfl (by decide)
              have l1 := tm_lk el l1 rfl (by decide)
              have l2 := tm_lk el l2 rfl (by decide)
              have l4 := tm_lk el l4 rfl (by decide)
              have l3 : lv.lookup 3 = some (.int (nI (q + 1))) := tm_lks el
              clear el
              refine g_pure (pc' := 14) (st' := []) cd_Kn_tryUses rfl rfl (fun _ _ => rfl) ?_
              exact ih (ul fp u n) (q + 1) _ L (by omega) (by omega) (by omega) hT hK hP hs hF (up_next hdone (List.prefix_refl L) (fun A2 hA2 => ⟨fun _ => hwL, fun _ q2 _ => by rw [hA] at hA2; cases hA2; exact absurd q2 c70⟩)) lv l0 l1 l2 l3
            · have c70 : (kd A) = 5 := Classical.not_not.mp c70
              refine g_ald (pc' := 74) cd_Kn_tryUses rfl (Or.inr ⟨_, rfl, rfl, rfl⟩) l0 rfl rfl ?_
              refine g_fR (c := 3) (k := 0) (x := a) (pc' := 77) cd_Kn_tryUses rfl rfl rfl rfl rfl (by decide) hK.1.1.1 hK.1.1.2 hK.1.2.1.1 ?_
              refine g_ild (pc' := 79) cd_Kn_tryUses rfl (Or.inl ⟨rfl, rfl⟩) l4 rfl ?_
              refine g_k1 (v := 0) (pc' := 80) cd_Kn_tryUses rfl (by decide) rfl ?_
              refine g_calli (pc' := 83) cd_Kn_tryUses rfl rfl rfl rfl rfl (tm_invV rfl rfl cd_Te_partOf rfl (Nat.le_of_ble_eq_true rfl) (by decide) hT.1.1.1 hT.1.1.2) (k_Te_partOf hT.1 ?_)
              rw [show te_gt2 _ ca T.length (nI (ul fp u n / 4)) 0 6 = nI (fp ((ul fp u n / 4) * 4 + 0)) from TI_pp hT (by omega) hA (i := 0) (by decide) hp]
              show bm_G _ _ _ 83 _ [.int (nI (fp ((ul fp u n / 4) * 4 + 0)))] B _
              refine g_ild (pc' := 84) cd_Kn_tryUses rfl (Or.inr ⟨_, rfl, rfl, rfl⟩) l1 rfl ?_
              refine g_if2 (t := 101) (pc' := 87) cd_Kn_tryUses rfl rfl rfl (fun c84 => ?_) (fun c84 => ?_)
              · have c84 : ¬ (nI (fp ((ul fp u n / 4) * 4 + 0))) = (nI u) := c84
                refine g_ald (pc' := 102) cd_Kn_tryUses rfl (Or.inr ⟨_, rfl, rfl, rfl⟩) l0 rfl rfl ?_
                refine g_fR (c := 3) (k := 1) (x := kc) (pc' := 105) cd_Kn_tryUses rfl rfl rfl rfl rfl (by decide) hK.1.1.1 hK.1.1.2 hK.1.2.1.2.1 ?_
                refine g_ild (pc' := 107) cd_Kn_tryUses rfl (Or.inl ⟨rfl, rfl⟩) l4 rfl ?_
                refine g_k2 (v := 6) (pc' := 109) cd_Kn_tryUses rfl (by decide) rfl ?_
                refine g_pure (pc' := 110) (st' := [.int ((nI (ul fp u n / 4)) * 6), .ref kc]) cd_Kn_tryUses rfl rfl (fun _ _ => rfl) ?_
                refine g_k1 (v := 2) (pc' := 111) cd_Kn_tryUses rfl (by decide) rfl ?_
                refine g_pure (pc' := 112) (st' := [.int (((nI (ul fp u n / 4)) * 6) + 2), .ref kc]) cd_Kn_tryUses rfl rfl (fun _ _ => rfl) ?_
                refine g_ild (pc' := 113) cd_Kn_tryUses rfl (Or.inr ⟨_, rfl, rfl, rfl⟩) l2 rfl ?_
                refine g_k1 (v := 4) (pc' := 114) cd_Kn_tryUses rfl (by decide) rfl ?_
                refine g_rem (z := nI (ul fp u n % 4)) (pc' := 115) cd_Kn_tryUses rfl rfl (by decide) (pk_rem (d := 4) (by omega) (by decide) (by decide)) ?_
                refine g_pure (pc' := 116) (st' := [.int ((((nI (ul fp u n / 4)) * 6) + 2) + (nI (ul fp u n % 4))), .ref kc]) cd_Kn_tryUses rfl rfl (fun _ _ => rfl) ?_
                refine g_aI (x := (nI (ul fp u (ul fp u n)))) (pc' := 117) cd_Kn_tryUses rfl rfl hK.1.2.2.1.1.1 hK.1.2.2.1.1.2.1 (kn_ix2 hK.1 (u := (ul fp u n / 4)) (j := 2) (i := ul fp u n % 4) (by omega) (by omega)).1 ((congrArg (bm_AI B kc) (kn_ix2 hK.1 (u := (ul fp u n / 4)) (j := 2) (i := ul fp u n % 4) (by omega) (by omega)).2).trans ((hK.2.2.2.2.2.1 (ul fp u n) hg.1 (by omega) (by rw [hg.2]; omega)).trans (by rw [hg.2]))) ?_
                refine g_ist (pc' := 118) cd_Kn_tryUses rfl (Or.inr ⟨_, rfl, rfl, rfl⟩) (by decide) rfl (fun lv el => ?_)
                have l0 := tm_lk el l0 rfl (by decide)
                have l1 := tm_lk el l1 rfl (by decide)
                have l3 := tm_lk el l3 rfl (by decide)
                have l4 := tm_lk el l4 rfl (by decide)
                have l2 : lv.lookup 2 = some (.int ((nI (ul fp u (ul fp u n))))) := tm_lks el
                clear el
                refine g_inc (y := nI (q + 1)) (pc' := 121) cd_Kn_tryUses rfl l3 (by decide) (nI_1 q) rfl (fun lv el => ?_)
                have l0 := tm_lk el l0 rfl (by decide)
                have l1 := tm_lk el l1 rfl (by decide)
                have l2 := tm_lk el l2 rfl (by decide)
                have l4 := tm_lk el l4 rfl (by decide)
                have l3 : lv.lookup 3 = some (.int (nI (q + 1))) := tm_lks el
                clear el
                refine g_pure (pc' := 14) (st' := []) cd_Kn_tryUses rfl rfl (fun _ _ => rfl) ?_
                exact ih (ul fp u n) (q + 1) _ L (by omega) (by omega) (by omega) hT hK hP hs hF (up_next hdone (List.prefix_refl L) (fun A2 hA2 => ⟨fun _ => hwL, fun _ _ q3 => by rw [hA] at hA2; cases hA2; exact absurd (by rw [TI_inj0 hT _ (fp ((ul fp u n / 4) * 4 + 0)) u _ (Nat.lt_succ_self _) (hp _ A 0 (by omega) hA (by decide)).2 (q3 ▸ hU)]) c84⟩)) lv l0 l1 l2 l3
              · have c84 : (nI (fp ((ul fp u n / 4) * 4 + 0))) = (nI u) := Classical.not_not.mp c84
                have hkey : U = pt A 0 := by have h84 := (hp _ A 0 (by omega) hA (by decide)).2; rw [(nI_eq (by have := (hp _ A 0 (by omega) hA (by decide)).1; omega) (by have := tv_lt hU; have := TI_lt hT; omega)).mp c84, hU] at h84; exact Option.some.inj h84
                refine g_ald (pc' := 88) cd_Kn_tryUses rfl (Or.inr ⟨_, rfl, rfl, rfl⟩) l0 rfl rfl ?_
                refine g_ald (pc' := 89) cd_Kn_tryUses rfl (Or.inr ⟨_, rfl, rfl, rfl⟩) l0 rfl rfl ?_
                refine g_fR (c := 3) (k := 0) (x := a) (pc' := 92) cd_Kn_tryUses rfl rfl rfl rfl rfl (by decide) hK.1.1.1 hK.1.1.2 hK.1.2.1.1 ?_
                refine g_ild (pc' := 94) cd_Kn_tryUses rfl (Or.inl ⟨rfl, rfl⟩) l4 rfl ?_
                refine g_k1 (v := 2) (pc' := 95) cd_Kn_tryUses rfl (by decide) rfl ?_
                refine g_calli (pc' := 98) cd_Kn_tryUses rfl rfl rfl rfl rfl (tm_invV rfl rfl cd_Te_partOf rfl (Nat.le_of_ble_eq_true rfl) (by decide) hT.1.1.1 hT.1.1.2) (k_Te_partOf hT.1 ?_)
                rw [show te_gt2 _ ca T.length (nI (ul fp u n / 4)) 2 6 = nI (fp ((ul fp u n / 4) * 4 + 2)) from TI_pp hT (by omega) hA (i := 2) (by decide) hp]
                show bm_G _ _ _ 98 _ [.int (nI (fp ((ul fp u n / 4) * 4 + 2))), .ref k] B _
                refine g_callv (pc' := 101) cd_Kn_tryUses rfl rfl rfl rfl rfl (tm_invV rfl rfl cd_Kn_learn rfl (Nat.le_of_ble_eq_true rfl) (by decide) hK.1.1.1 hK.1.1.2) (t_learn hT.1 hK (tv_lt (hp _ A 2 (by omega) hA (by decide)).2) (fun B1 L1 hK1 hf1 hL1 hm1 => ?_))
                have hT1 := kt_TI hT hK hd hf1
                have hs1 := snd_add hs hL1 (fun x hx => by rw [(hp _ A 2 (by omega) hA (by decide)).2] at hx; cases hx; exact ((Kn_clo G).2.2.2.2 A (hs _ hwL A hA) c70).2 (hkey ▸ hKu))
                have hP1 := (hP).trans (sub_add hL1)
                have hF1 := fz_trans hF hf1
                show bm_G _ _ _ 101 _ [] B1 _
                refine g_ald (pc' := 102) cd_Kn_tryUses rfl (Or.inr ⟨_, rfl, rfl, rfl⟩) l0 rfl rfl ?_
                refine g_fR (c := 3) (k := 1) (x := kc) (pc' := 105) cd_Kn_tryUses rfl rfl rfl rfl rfl (by decide) hK1.1.1.1 hK1.1.1.2 hK1.1.2.1.2.1 ?_
                refine g_ild (pc' := 107) cd_Kn_tryUses rfl (Or.inl ⟨rfl, rfl⟩) l4 rfl ?_
                refine g_k2 (v := 6) (pc' := 109) cd_Kn_tryUses rfl (by decide) rfl ?_
                refine g_pure (pc' := 110) (st' := [.int ((nI (ul fp u n / 4)) * 6), .ref kc]) cd_Kn_tryUses rfl rfl (fun _ _ => rfl) ?_
                refine g_k1 (v := 2) (pc' := 111) cd_Kn_tryUses rfl (by decide) rfl ?_
                refine g_pure (pc' := 112) (st' := [.int (((nI (ul fp u n / 4)) * 6) + 2), .ref kc]) cd_Kn_tryUses rfl rfl (fun _ _ => rfl) ?_
                refine g_ild (pc' := 113) cd_Kn_tryUses rfl (Or.inr ⟨_, rfl, rfl, rfl⟩) l2 rfl ?_
                refine g_k1 (v := 4) (pc' := 114) cd_Kn_tryUses rfl (by decide) rfl ?_
                refine g_rem (z := nI (ul fp u n % 4)) (pc' := 115) cd_Kn_tryUses rfl rfl (by decide) (pk_rem (d := 4) (by omega) (by decide) (by decide)) ?_
                refine g_pure (pc' := 116) (st' := [.int ((((nI (ul fp u n / 4)) * 6) + 2) + (nI (ul fp u n % 4))), .ref kc]) cd_Kn_tryUses rfl rfl (fun _ _ => rfl) ?_
                refine g_aI (x := (nI (ul fp u (ul fp u n)))) (pc' := 117) cd_Kn_tryUses rfl rfl hK1.1.2.2.1.1.1 hK1.1.2.2.1.1.2.1 (kn_ix2 hK1.1 (u := (ul fp u n / 4)) (j := 2) (i := ul fp u n % 4) (by omega) (by omega)).1 ((congrArg (bm_AI B1 kc) (kn_ix2 hK1.1 (u := (ul fp u n / 4)) (j := 2) (i := ul fp u n % 4) (by omega) (by omega)).2).trans ((hK1.2.2.2.2.2.1 (ul fp u n) hg.1 (by omega) (by rw [hg.2]; omega)).trans (by rw [hg.2]))) ?_
                refine g_ist (pc' := 118) cd_Kn_tryUses rfl (Or.inr ⟨_, rfl, rfl, rfl⟩) (by decide) rfl (fun lv el => ?_)
                have l0 := tm_lk el l0 rfl (by decide)
                have l1 := tm_lk el l1 rfl (by decide)
                have l3 := tm_lk el l3 rfl (by decide)
                have l4 := tm_lk el l4 rfl (by decide)
                have l2 : lv.lookup 2 = some (.int ((nI (ul fp u (ul fp u n))))) := tm_lks el
                clear el
                refine g_inc (y := nI (q + 1)) (pc' := 121) cd_Kn_tryUses rfl l3 (by decide) (nI_1 q) rfl (fun lv el => ?_)
                have l0 := tm_lk el l0 rfl (by decide)
                have l1 := tm_lk el l1 rfl (by decide)
                have l2 := tm_lk el l2 rfl (by decide)
                have l4 := tm_lk el l4 rfl (by decide)
                have l3 : lv.lookup 3 = some (.int (nI (q + 1))) := tm_lks el
                clear el
                refine g_pure (pc' := 14) (st' := []) cd_Kn_tryUses rfl rfl (fun _ _ => rfl) ?_
                exact ih (ul fp u n) (q + 1) _ L1 (by omega) (by omega) (by omega) hT1 hK1 hP1 hs1 hF1 (up_next hdone (sub_add hL1) (fun A2 hA2 => ⟨fun _ => (sub_add hL1).subset hwL, fun _ _ _ => by rw [hA] at hA2; cases hA2; exact KL_of hT (hp _ A 2 (by omega) hA (by decide)).2 hm1⟩)) lv l0 l1 l2 l3
          · exact absurd (show ¬ (¬ (1 : Int32) = 0) from c39) (by decide)
        · skip
          have hwL : (ul fp u n / 4) ∉ L := fun q => w (Or.inr ⟨by omega, q⟩)
          show bm_G _ _ _ 39 _ [.int 0] B _
          refine g_if1 (t := 60) (pc' := 42) cd_Kn_tryUses rfl rfl rfl (fun c39 => ?_) (fun c39 => ?_)
          · exact absurd (show ¬ (0 : Int32) = 0 from c39) (by decide)
          · have c39 : (0 : Int32) = 0 := Classical.not_not.mp c39
            refine g_ald (pc' := 43) cd_Kn_tryUses rfl (Or.inr ⟨_, rfl, rfl, rfl⟩) l0 rfl rfl ?_
            refine g_ild (pc' := 45) cd_Kn_tryUses rfl (Or.inl ⟨rfl, rfl⟩) l4 rfl ?_
            refine g_calli (pc' := 48) cd_Kn_tryUses rfl rfl rfl rfl rfl (tm_invV rfl rfl cd_Kn_canBeMade rfl (Nat.le_of_ble_eq_true rfl) (by decide) hK.1.1.1 hK.1.1.2) (kk_canBeMade hT hK hp (u := (ul fp u n / 4)) (by omega) (by omega) hA (fun hc => ?_) (fun hc => ?_))
            · skip
              show bm_G _ _ _ 48 _ [.int 1] B _
              refine g_if1 (t := 101) (pc' := 51) cd_Kn_tryUses rfl rfl rfl (fun c48 => ?_) (fun c48 => ?_)
              · exact absurd (show (1 : Int32) = 0 from c48) (by decide)
              · have c48 : ¬ (1 : Int32) = 0 := c48
                refine g_ald (pc' := 52) cd_Kn_tryUses rfl (Or.inr ⟨_, rfl, rfl, rfl⟩) l0 rfl rfl ?_
                refine g_ild (pc' := 54) cd_Kn_tryUses rfl (Or.inl ⟨rfl, rfl⟩) l4 rfl ?_
                refine g_callv (pc' := 57) cd_Kn_tryUses rfl rfl rfl rfl rfl (tm_invV rfl rfl cd_Kn_learn rfl (Nat.le_of_ble_eq_true rfl) (by decide) hK.1.1.1 hK.1.1.2) (t_learn hT.1 hK (tv_lt hA) (fun B2 L2 hK2 hf2 hL2 hm2 => ?_))
                have hT2 := kt_TI hT hK hd hf2
                have hs2 := snd_add hs hL2 (fun x hx => by rw [hA] at hx; cases hx; exact (Kn_clo G).2.1 _ (can_mono (fun y hy => snd_KL hs hy) hc))
                have hP2 := (hP).trans (sub_add hL2)
                have hF2 := fz_trans hF hf2
                show bm_G _ _ _ 57 _ [] B2 _
                refine g_pure (pc' := 101) (st' := []) cd_Kn_tryUses rfl rfl (fun _ _ => rfl) ?_
                refine g_ald (pc' := 102) cd_Kn_tryUses rfl (Or.inr ⟨_, rfl, rfl, rfl⟩) l0 rfl rfl ?_
                refine g_fR (c := 3) (k := 1) (x := kc) (pc' := 105) cd_Kn_tryUses rfl rfl rfl rfl rfl (by decide) hK2.1.1.1 hK2.1.1.2 hK2.1.2.1.2.1 ?_
                refine g_ild (pc' := 107) cd_Kn_tryUses rfl (Or.inl ⟨rfl, rfl⟩) l4 rfl ?_
                refine g_k2 (v := 6) (pc' := 109) cd_Kn_tryUses rfl (by decide) rfl ?_
                refine g_pure (pc' := 110) (st' := [.int ((nI (ul fp u n / 4)) * 6), .ref kc]) cd_Kn_tryUses rfl rfl (fun _ _ => rfl) ?_
                refine g_k1 (v := 2) (pc' := 111) cd_Kn_tryUses rfl (by decide) rfl ?_
                refine g_pure (pc' := 112) (st' := [.int (((nI (ul fp u n / 4)) * 6) + 2), .ref kc]) cd_Kn_tryUses rfl rfl (fun _ _ => rfl) ?_
                refine g_ild (pc' := 113) cd_Kn_tryUses rfl (Or.inr ⟨_, rfl, rfl, rfl⟩) l2 rfl ?_
                refine g_k1 (v := 4) (pc' := 114) cd_Kn_tryUses rfl (by decide) rfl ?_
                refine g_rem (z := nI (ul fp u n % 4)) (pc' := 115) cd_Kn_tryUses rfl rfl (by decide) (pk_rem (d := 4) (by omega) (by decide) (by decide)) ?_
                refine g_pure (pc' := 116) (st' := [.int ((((nI (ul fp u n / 4)) * 6) + 2) + (nI (ul fp u n % 4))), .ref kc]) cd_Kn_tryUses rfl rfl (fun _ _ => rfl) ?_
                refine g_aI (x := (nI (ul fp u (ul fp u n)))) (pc' := 117) cd_Kn_tryUses rfl rfl hK2.1.2.2.1.1.1 hK2.1.2.2.1.1.2.1 (kn_ix2 hK2.1 (u := (ul fp u n / 4)) (j := 2) (i := ul fp u n % 4) (by omega) (by omega)).1 ((congrArg (bm_AI B2 kc) (kn_ix2 hK2.1 (u := (ul fp u n / 4)) (j := 2) (i := ul fp u n % 4) (by omega) (by omega)).2).trans ((hK2.2.2.2.2.2.1 (ul fp u n) hg.1 (by omega) (by rw [hg.2]; omega)).trans (by rw [hg.2]))) ?_
                refine g_ist (pc' := 118) cd_Kn_tryUses rfl (Or.inr ⟨_, rfl, rfl, rfl⟩) (by decide) rfl (fun lv el => ?_)
                have l0 := tm_lk el l0 rfl (by decide)
                have l1 := tm_lk el l1 rfl (by decide)
                have l3 := tm_lk el l3 rfl (by decide)
                have l4 := tm_lk el l4 rfl (by decide)
                have l2 : lv.lookup 2 = some (.int ((nI (ul fp u (ul fp u n))))) := tm_lks el
                clear el
                refine g_inc (y := nI (q + 1)) (pc' := 121) cd_Kn_tryUses rfl l3 (by decide) (nI_1 q) rfl (fun lv el => ?_)
                have l0 := tm_lk el l0 rfl (by decide)
                have l1 := tm_lk el l1 rfl (by decide)
                have l2 := tm_lk el l2 rfl (by decide)
                have l4 := tm_lk el l4 rfl (by decide)
                have l3 : lv.lookup 3 = some (.int (nI (q + 1))) := tm_lks el
                clear el
                refine g_pure (pc' := 14) (st' := []) cd_Kn_tryUses rfl rfl (fun _ _ => rfl) ?_
                exact ih (ul fp u n) (q + 1) _ L2 (by omega) (by omega) (by omega) hT2 hK2 hP2 hs2 hF2 (up_next hdone (sub_add hL2) (fun A2 hA2 => ⟨fun _ => hm2.elim (fun q => absurd q (by omega)) id, fun q1 _ _ => absurd (hP.subset q1) hwL⟩)) lv l0 l1 l2 l3
            · skip
              show bm_G _ _ _ 48 _ [.int 0] B _
              refine g_if1 (t := 101) (pc' := 51) cd_Kn_tryUses rfl rfl rfl (fun c48 => ?_) (fun c48 => ?_)
              · have c48 : (0 : Int32) = 0 := c48
                refine g_ald (pc' := 102) cd_Kn_tryUses rfl (Or.inr ⟨_, rfl, rfl, rfl⟩) l0 rfl rfl ?_
                refine g_fR (c := 3) (k := 1) (x := kc) (pc' := 105) cd_Kn_tryUses rfl rfl rfl rfl rfl (by decide) hK.1.1.1 hK.1.1.2 hK.1.2.1.2.1 ?_
                refine g_ild (pc' := 107) cd_Kn_tryUses rfl (Or.inl ⟨rfl, rfl⟩) l4 rfl ?_
                refine g_k2 (v := 6) (pc' := 109) cd_Kn_tryUses rfl (by decide) rfl ?_
                refine g_pure (pc' := 110) (st' := [.int ((nI (ul fp u n / 4)) * 6), .ref kc]) cd_Kn_tryUses rfl rfl (fun _ _ => rfl) ?_
                refine g_k1 (v := 2) (pc' := 111) cd_Kn_tryUses rfl (by decide) rfl ?_
                refine g_pure (pc' := 112) (st' := [.int (((nI (ul fp u n / 4)) * 6) + 2), .ref kc]) cd_Kn_tryUses rfl rfl (fun _ _ => rfl) ?_
                refine g_ild (pc' := 113) cd_Kn_tryUses rfl (Or.inr ⟨_, rfl, rfl, rfl⟩) l2 rfl ?_
                refine g_k1 (v := 4) (pc' := 114) cd_Kn_tryUses rfl (by decide) rfl ?_
                refine g_rem (z := nI (ul fp u n % 4)) (pc' := 115) cd_Kn_tryUses rfl rfl (by decide) (pk_rem (d := 4) (by omega) (by decide) (by decide)) ?_
                refine g_pure (pc' := 116) (st' := [.int ((((nI (ul fp u n / 4)) * 6) + 2) + (nI (ul fp u n % 4))), .ref kc]) cd_Kn_tryUses rfl rfl (fun _ _ => rfl) ?_
                refine g_aI (x := (nI (ul fp u (ul fp u n)))) (pc' := 117) cd_Kn_tryUses rfl rfl hK.1.2.2.1.1.1 hK.1.2.2.1.1.2.1 (kn_ix2 hK.1 (u := (ul fp u n / 4)) (j := 2) (i := ul fp u n % 4) (by omega) (by omega)).1 ((congrArg (bm_AI B kc) (kn_ix2 hK.1 (u := (ul fp u n / 4)) (j := 2) (i := ul fp u n % 4) (by omega) (by omega)).2).trans ((hK.2.2.2.2.2.1 (ul fp u n) hg.1 (by omega) (by rw [hg.2]; omega)).trans (by rw [hg.2]))) ?_
                refine g_ist (pc' := 118) cd_Kn_tryUses rfl (Or.inr ⟨_, rfl, rfl, rfl⟩) (by decide) rfl (fun lv el => ?_)
                have l0 := tm_lk el l0 rfl (by decide)
                have l1 := tm_lk el l1 rfl (by decide)
                have l3 := tm_lk el l3 rfl (by decide)
                have l4 := tm_lk el l4 rfl (by decide)
                have l2 : lv.lookup 2 = some (.int ((nI (ul fp u (ul fp u n))))) := tm_lks el
                clear el
                refine g_inc (y := nI (q + 1)) (pc' := 121) cd_Kn_tryUses rfl l3 (by decide) (nI_1 q) rfl (fun lv el => ?_)
                have l0 := tm_lk el l0 rfl (by decide)
                have l1 := tm_lk el l1 rfl (by decide)
                have l2 := tm_lk el l2 rfl (by decide)
                have l4 := tm_lk el l4 rfl (by decide)
                have l3 : lv.lookup 3 = some (.int (nI (q + 1))) := tm_lks el
                clear el
                refine g_pure (pc' := 14) (st' := []) cd_Kn_tryUses rfl rfl (fun _ _ => rfl) ?_
                exact ih (ul fp u n) (q + 1) _ L (by omega) (by omega) (by omega) hT hK hP hs hF (up_next hdone (List.prefix_refl L) (fun A2 hA2 => ⟨fun c2 => absurd (by rw [hA] at hA2; cases hA2; exact can_mono (fun y hy => KL_mono hP hy) c2) hc, fun q1 _ _ => absurd (hP.subset q1) hwL⟩)) lv l0 l1 l2 l3
              · exact absurd (show ¬ (0 : Int32) = 0 from c48) (by decide)
set_option maxRecDepth 100000 in
theorem t_tryUses {sc : tm_X} {d : Nat} {B : bm_H} {k a kc kl rk sp ln ca ba da rm dr : Nat} {L : List Nat} {fp : Nat → Nat} {T : List Tm} {G : Tm → Prop} {u : Nat} {U : Tm} {Q : bm_H → Prop} (hT : TI B a ca ba da rm dr T) (hK : KK B k a kc kl rk L sp ln (ln * 4) T.length fp) (hp : pp_ok T fp) (hd : kt_ap kc kl ca ba da) (u0 : 0 < u) (hul : u < ln) (hU : T[u]? = some U) (hln : ln ≤ T.length) (hs : snd T G L) (hKu : Kn G U) (kk : ∀ B' L', TI B' a ca ba da rm dr T → KK B' k a kc kl rk L' sp ln (ln * 4) T.length fp → L <+: L' → snd T G L' → fz (kx k kc kl) B B' → (∀ e, e < ln * 4 → 4 ≤ e → fp e = u → up T L U e L') → Q B') : bm_Gv sc (d + 2) 28 [.ref k, .int (nI u)] B Q := by
  have hr := KK_rk hK
  show bm_G sc (d + 2) 28 0 [(0, .ref k), (1, .int (nI u))] [] B _
  generalize elv : ([(0, .ref k), (1, .int (nI u))] : tm_L) = lv
  have l0 : lv.lookup 0 = some (.ref k) := by rw [← elv]; rfl
  have l1 : lv.lookup 1 = some (.int (nI u)) := by rw [← elv]; rfl
  clear elv
  refine g_ald (pc' := 1) cd_Kn_tryUses rfl (Or.inr ⟨_, rfl, rfl, rfl⟩) l0 rfl rfl ?_
  refine g_fR (c := 3) (k := 1) (x := kc) (pc' := 4) cd_Kn_tryUses rfl rfl rfl rfl rfl (by decide) hK.1.1.1 hK.1.1.2 hK.1.2.1.2.1 ?_
  refine g_ild (pc' := 5) cd_Kn_tryUses rfl (Or.inr ⟨_, rfl, rfl, rfl⟩) l1 rfl ?_
  refine g_k2 (v := 6) (pc' := 7) cd_Kn_tryUses rfl (by decide) rfl ?_
  refine g_pure (pc' := 8) (st' := [.int ((nI u) * 6), .ref kc]) cd_Kn_tryUses rfl rfl (fun _ _ => rfl) ?_
  refine g_k1 (v := 1) (pc' := 9) cd_Kn_tryUses rfl (by decide) rfl ?_
  refine g_pure (pc' := 10) (st' := [.int (((nI u) * 6) + 1), .ref kc]) cd_Kn_tryUses rfl rfl (fun _ _ => rfl) ?_
  refine g_aI (x := (nI (ul fp u (ln * 4)))) (pc' := 11) cd_Kn_tryUses rfl rfl hK.1.2.2.1.1.1 hK.1.2.2.1.1.2.1 (kn_ix hK.1 (u := u) (i := 1) (by omega) (by decide)).1 ((congrArg (bm_AI B kc) (kn_ix hK.1 (u := u) (i := 1) (by omega) (by decide)).2).trans (hK.2.2.2.2.1 u u0 (by omega))) ?_
  refine g_ist (pc' := 12) cd_Kn_tryUses rfl (Or.inr ⟨_, rfl, rfl, rfl⟩) (by decide) rfl (fun lv el => ?_)
  have l0 := tm_lk el l0 rfl (by decide)
  have l1 := tm_lk el l1 rfl (by decide)
  have l2 : lv.lookup 2 = some (.int ((nI (ul fp u (ln * 4))))) := tm_lks el
  clear el
  refine g_k1 (v := 0) (pc' := 13) cd_Kn_tryUses rfl (by decide) rfl ?_
  refine g_ist (pc' := 14) cd_Kn_tryUses rfl (Or.inr ⟨_, rfl, rfl, rfl⟩) (by decide) rfl (fun lv el => ?_)
  have l0 := tm_lk el l0 rfl (by decide)
  have l1 := tm_lk el l1 rfl (by decide)
  have l2 := tm_lk el l2 rfl (by decide)
  have l3 : lv.lookup 3 = some (.int 0) := tm_lks el
  clear el
  exact l_tryUses hp hd u0 hU hln hKu kk (ln * 4 + 1) (ln * 4) 0 B L (by omega) (by omega) (by omega) hT hK (List.prefix_refl L) hs (fz_rfl _ B) (fun e h1 h2 => by omega) lv l0 l1 l2 l3
