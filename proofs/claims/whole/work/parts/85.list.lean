/-! list -/
set_option maxRecDepth 100000 in
theorem t_list {sc : tm_X} {d : Nat} {B : bm_H} {F : Nat → Prop} {N S M ln : Nat} {T : List Tm} {dr : Nat} {K : Tm → Prop} {ca rm kc kl rk : Nat} {ws : List (Tm × Int32)} {wt : List Tm} {G : LG} {ids dir reg : Nat → Tm} {seen : List Tm} {π : Nat → Nat} {w : Nat → SW} {dev : Nat → DV} {sto : Nat → ST} {id : Tm} {K0 K1 : PK} {on : List (Tm × Int32)} {lnu : Int32} {se : Nat → List SS} {me : Nat → MM} {ve ma go ge : Int32} {ch si : Tm} {ix ga : Int32} {sl : Bool} {gv : Nat → List GV} {g : Nat} {k : Int32} {p0 : Bool} {P : EN2} {c : Option Nat} {Q : Int32 → bm_H → Prop} (hC : CK B F N S M ln T dr K ca rm kc kl rk) (hH : RH B T ws wt G ids dir reg seen π w dev sto) (hdr : dr ≤ 2960) (hws : ws.length ≤ 692) (hTl : T.length ≤ 30000) (hg : g < 4) (hk0 : ¬ k < 0) (hk6 : ¬ 64 ≤ k) (eD : dev g = (id, K0, K1, on, lnu, se, me)) (eM : me g = (ve, ma, go, ge, ch, si, ix, ga, sl, gv)) (hst : sto g = (p0, P, [], c, false)) (hen : (dv_en (id, K0, K1, on, lnu, se, fset me g (mm_adopt (ve, ma, go, ge, ch, si, ix, ga, sl, gv) (ve + 1) k))).length ≤ 536) (kN : ∀ B' M' ca' rm', (hbit k (nI g) = false ∨ ¬ k &&& go = 0) → CK B' F N S M' ln T dr K ca' rm' kc kl rk → RH B' T ws wt G ids dir reg seen π w dev sto → fr (fun y => ¬ F y) B B' → Q (-6) B') (k0 : ∀ B' T' M' ca' rm' kc' kl' rk' w', T <+: T' → T'.length ≤ T.length + 2 → hbit k (nI g) = true → k &&& go = 0 → (st_commit p0 P c (dv_en (id, K0, K1, on, lnu, se, fset me g (mm_adopt (ve, ma, go, ge, ch, si, ix, ga, sl, gv) (ve + 1) k)))).1 = 0 → CK B' F N S M' ln T' dr K ca' rm' kc' kl' rk' → RH B' T' ws [(Tsg (ids g) (Trw 6 (nI g) (ve + 1) k 0 tz tz tz tz))] G ids dir reg seen π w' (fset (fset dev 6 (dev g)) 6 (id, K0, K1, on, lnu, se, fset me g (mm_adopt (ve, ma, go, ge, ch, si, ix, ga, sl, gv) (ve + 1) k))) (fset sto g (st_commit p0 P c (dv_en (id, K0, K1, on, lnu, se, fset me g (mm_adopt (ve, ma, go, ge, ch, si, ix, ga, sl, gv) (ve + 1) k)))).2) → fr (fun y => ¬ F y) B B' → Q (-4) B') (k1 : ∀ B' T' M' ca' rm' kc' kl' rk' w', T <+: T' → T'.length ≤ T.length + 2 → hbit k (nI g) = true → k &&& go = 0 → (st_commit p0 P c (dv_en (id, K0, K1, on, lnu, se, fset me g (mm_adopt (ve, ma, go, ge, ch, si, ix, ga, sl, gv) (ve + 1) k)))).1 = 1 → CK B' F N S M' ln T' dr K ca' rm' kc' kl' rk' → RH B' T' ws [(Tsg (ids g) (Trw 6 (nI g) (ve + 1) k 0 tz tz tz tz))] G ids dir reg seen (sw6 π g) w' (sw6 (fset (fset dev 6 (dev g)) 6 (id, K0, K1, on, lnu, se, fset me g (mm_adopt (ve, ma, go, ge, ch, si, ix, ga, sl, gv) (ve + 1) k))) g) (fset sto g (st_commit p0 P c (dv_en (id, K0, K1, on, lnu, se, fset me g (mm_adopt (ve, ma, go, ge, ch, si, ix, ga, sl, gv) (ve + 1) k)))).2) → fr (fun y => ¬ F y) B B' → Q (-4) B') (k2 : ∀ B' T' M' ca' rm' kc' kl' rk' w', T <+: T' → T'.length ≤ T.length + 2 → hbit k (nI g) = true → k &&& go = 0 → (st_commit p0 P c (dv_en (id, K0, K1, on, lnu, se, fset me g (mm_adopt (ve, ma, go, ge, ch, si, ix, ga, sl, gv) (ve + 1) k)))).1 = 2 → CK B' F N S M' T'.length T' dr (fun y => K y ∨ y = (Tsg (ids g) (Trw 6 (nI g) (ve + 1) k 0 tz tz tz tz))) ca' rm' kc' kl' rk' → RH B' T' (ws ++ [((Tsg (ids g) (Trw 6 (nI g) (ve + 1) k 0 tz tz tz tz)), (-1 : Int32))]) [] G ids dir reg seen (sw6 π g) w' (sw6 (fset (fset dev 6 (dev g)) 6 (id, K0, K1, on, lnu, se, fset me g (mm_adopt (ve, ma, go, ge, ch, si, ix, ga, sl, gv) (ve + 1) k))) g) (fset sto g (st_commit p0 P c (dv_en (id, K0, K1, on, lnu, se, fset me g (mm_adopt (ve, ma, go, ge, ch, si, ix, ga, sl, gv) (ve + 1) k)))).2) → fr (fun y => ¬ F y) B B' → Q (nI ws.length) B') : bm_Gi sc (d + 6) 94 [.ref 0, .int (nI g), .int k] B Q := by
  show bm_G sc (d + 6) 94 0 [(0, .ref 0), (1, .int (nI g)), (2, .int k)] [] B _
  generalize elv : ([(0, .ref 0), (1, .int (nI g)), (2, .int k)] : tm_L) = lv
  have l0 : lv.lookup 0 = some (.ref 0) := by rw [← elv]; rfl
  have l1 : lv.lookup 1 = some (.int (nI g)) := by rw [← elv]; rfl
  have l2 : lv.lookup 2 = some (.int k) := by rw [← elv]; rfl
  clear elv
  refine g_ald (pc' := 1) cd_Ho_list rfl (Or.inr ⟨_, rfl, rfl, rfl⟩) l0 rfl rfl ?_
  refine g_ild (pc' := 2) cd_Ho_list rfl (Or.inr ⟨_, rfl, rfl, rfl⟩) l1 rfl ?_
  refine g_calli (pc' := 5) cd_Ho_list rfl rfl rfl rfl rfl (tm_invS rfl rfl cd_Ho_isGroup rfl (Nat.le_of_ble_eq_true rfl)) (t_isGroup ?_)
  rw [show inR (nI g) 4 = true from inR_nI hg (by decide)]
  show bm_G _ _ _ _ _ (.int 1 :: _) _ _
  show bm_G _ _ _ 5 _ [.int 1, .ref 0] B _
  refine g_if1 (t := 22) (pc' := 8) cd_Ho_list rfl rfl rfl (fun c5 => ?_) (fun c5 => ?_)
  · exact absurd (show (1 : Int32) = 0 from c5) (by decide)
  · have c5 : ¬ (1 : Int32) = 0 := c5
    refine g_ild (pc' := 9) cd_Ho_list rfl (Or.inr ⟨_, rfl, rfl, rfl⟩) l2 rfl ?_
    refine g_if1 (t := 22) (pc' := 12) cd_Ho_list rfl rfl rfl (fun c9 => ?_) (fun c9 => ?_)
    · have c9 : k < 0 := c9
      exact absurd c9 hk0
    · have c9 : ¬ k < 0 := c9
      refine g_ild (pc' := 13) cd_Ho_list rfl (Or.inr ⟨_, rfl, rfl, rfl⟩) l2 rfl ?_
      refine g_k2 (v := 64) (pc' := 15) cd_Ho_list rfl (by decide) rfl ?_
      refine g_if2 (t := 22) (pc' := 18) cd_Ho_list rfl rfl rfl (fun c15 => ?_) (fun c15 => ?_)
      · have c15 : (64 : Int32) ≤ k := c15
        exact absurd c15 hk6
      · have c15 : ¬ (64 : Int32) ≤ k := c15
        refine g_k1 (v := 1) (pc' := 19) cd_Ho_list rfl (by decide) rfl ?_
        refine g_pure (pc' := 23) (st' := [.int 1, .ref 0]) cd_Ho_list rfl rfl (fun _ _ => rfl) ?_
        refine g_ild (pc' := 24) cd_Ho_list rfl (Or.inr ⟨_, rfl, rfl, rfl⟩) l1 rfl ?_
        refine g_calli (pc' := 27) cd_Ho_list rfl rfl rfl rfl rfl (tm_invV rfl rfl cd_Ho_refusal rfl (Nat.le_of_ble_eq_true rfl) (by decide) hH.1.1.1 hH.1.1.2) (t_refusal hC hH hdr hws hTl (by omega) (fun _ _ _ hdn _ _ _ => by rw [hst] at hdn; cases hdn) (fun B1 ca1 rm1 hdn hC1 hH1 hf1 => ?_))
        have hV1 := hH1.2.2.2.2.1
        have hD1 := hV1.2.2.2.2 g (by omega)
        rw [eD] at hD1
        have hM1 := hD1.2.2.2.2.2.2 g hg
        rw [eM] at hM1
        have hf1n : fr (fun y => ¬ F y) B B1 := fr_mono (fun y q => nF_lo hC (by omega)) hf1
        show bm_G _ _ _ 27 _ [.int 0] B1 _
        refine g_ist (pc' := 28) cd_Ho_list rfl (Or.inr ⟨_, rfl, rfl, rfl⟩) (by decide) rfl (fun lv el => ?_)
        have l0 := tm_lk el l0 rfl (by decide)
        have l1 := tm_lk el l1 rfl (by decide)
        have l2 := tm_lk el l2 rfl (by decide)
        have l3 : lv.lookup 3 = some (.int 0) := tm_lks el
        clear el
        refine g_ild (pc' := 29) cd_Ho_list rfl (Or.inr ⟨_, rfl, rfl, rfl⟩) l3 rfl ?_
        refine g_if1 (t := 34) (pc' := 32) cd_Ho_list rfl rfl rfl (fun c29 => ?_) (fun c29 => ?_)
        · have c29 : (0 : Int32) = 0 := c29
          refine g_ild (pc' := 35) cd_Ho_list rfl (Or.inr ⟨_, rfl, rfl, rfl⟩) l2 rfl ?_
          refine g_ild (pc' := 36) cd_Ho_list rfl (Or.inr ⟨_, rfl, rfl, rfl⟩) l1 rfl ?_
          refine g_calli (pc' := 39) cd_Ho_list rfl rfl rfl rfl rfl (tm_invS rfl rfl cd_Ho_hasBit rfl (Nat.le_of_ble_eq_true rfl)) (t_hasBit ?_)
          show bm_G _ _ _ 39 _ [.int (bz (hbit k (nI g)))] B1 _
          refine g_if1 (t := 61) (pc' := 42) cd_Ho_list rfl rfl rfl (fun c39 => ?_) (fun c39 => ?_)
          · have c39 : (hbit k (nI g)) = false := bz_f c39
            refine g_k2 (v := (-6)) (pc' := 63) cd_Ho_list rfl (by decide) rfl ?_
            exact g_reti cd_Ho_list rfl ⟨_, rfl, (kN B1 _ ca1 rm1 (Or.inl c39) hC1 hH1 hf1n)⟩
          · have c39 : (hbit k (nI g)) = true := bz_t c39
            refine g_ild (pc' := 43) cd_Ho_list rfl (Or.inr ⟨_, rfl, rfl, rfl⟩) l2 rfl ?_
            refine g_ald (pc' := 44) cd_Ho_list rfl (Or.inr ⟨_, rfl, rfl, rfl⟩) l0 rfl rfl ?_
            refine g_fR (c := 11) (k := 4) (x := 19) (pc' := 47) cd_Ho_list rfl rfl rfl rfl rfl (by decide) hH1.1.1.1 hH1.1.1.2 hH1.1.2.1.2.2.2.2.1 ?_
            refine g_ild (pc' := 48) cd_Ho_list rfl (Or.inr ⟨_, rfl, rfl, rfl⟩) l1 rfl ?_
            refine g_aR (t := 2) (x := (rb (π g))) (pc' := 49) cd_Ho_list rfl rfl hH1.1.2.2.1.1 hH1.1.2.2.1.2.1 (by decide) rfl rfl (by rw [show bm_AL B1 19 = 6 from hH1.1.2.2.1.2.2]; exact vp_in_nI (by omega) (by decide)) (by rw [nI_clamp (by omega)]; exact hV1.1 g (by omega)) ?_
            refine g_fR (c := 0) (k := 5) (x := (rb (π g) + 10)) (pc' := 52) cd_Ho_list rfl rfl rfl rfl rfl (by decide) hD1.1.1.1 hD1.1.1.2 hD1.1.2.1.2.2.2.2.2 ?_
            refine g_ild (pc' := 53) cd_Ho_list rfl (Or.inr ⟨_, rfl, rfl, rfl⟩) l1 rfl ?_
            refine g_aR (t := 6) (x := (rb (π g) + 47 + 39 * g)) (pc' := 54) cd_Ho_list rfl rfl hD1.1.2.2.2.2.2.2.2.1 hD1.1.2.2.2.2.2.2.2.2.1 (by decide) rfl rfl (by rw [show bm_AL B1 (rb (π g) + 10) = 4 from hD1.1.2.2.2.2.2.2.2.2.2]; exact vp_in_nI (by omega) (by decide)) (by rw [nI_clamp (by omega)]; exact hD1.2.2.2.2.2.1 g hg) ?_
            refine g_fI (c := 5) (k := 4) (x := go) (pc' := 57) cd_Ho_list rfl rfl rfl rfl rfl (by decide) hM1.1.1.1 hM1.1.1.2 hM1.2.1.1.2.2.1 ?_
            refine g_pure (pc' := 58) (st' := [.int (k &&& go)]) cd_Ho_list rfl rfl (fun _ _ => rfl) ?_
            refine g_if1 (t := 64) (pc' := 61) cd_Ho_list rfl rfl rfl (fun c58 => ?_) (fun c58 => ?_)
            · have c58 : (k &&& go) = 0 := c58
              refine g_ald (pc' := 65) cd_Ho_list rfl (Or.inr ⟨_, rfl, rfl, rfl⟩) l0 rfl rfl ?_
              refine g_ild (pc' := 66) cd_Ho_list rfl (Or.inr ⟨_, rfl, rfl, rfl⟩) l1 rfl ?_
              refine g_callv (pc' := 69) cd_Ho_list rfl rfl rfl rfl rfl (tm_invV rfl rfl cd_Ho_startWork rfl (Nat.le_of_ble_eq_true rfl) (by decide) hH1.1.1.1 hH1.1.1.2) (t_startWork hC1 hH1 (by omega) (fun B2 hC2 hH2 hz2 => ?_))
              have eD2 : fset dev 6 (dev g) 6 = (id, K0, K1, on, lnu, se, me) := (fset_same _ _ _).trans eD
              have hrm2 := hC2.2.2.2.2.1.2
              have hf2 : fr (fun y => ¬ F y) B B2 := fr_trans hf1n (fr_mono (fun y q => nF_lo hC (by omega)) hz2.1)
              obtain ⟨hM2, hAR2, hnt2, r6a, r6b⟩ := mem_at hC2 hH2 hg eD2
              rw [eM] at hM2
              have hW2 := hH2.2.2.2.2.1.2.2.2.2 6 (by decide)
              rw [eD2] at hW2
              show bm_G _ _ _ 69 _ [] B2 _
              refine g_ald (pc' := 70) cd_Ho_list rfl (Or.inr ⟨_, rfl, rfl, rfl⟩) l0 rfl rfl ?_
              refine g_fR (c := 11) (k := 11) (x := (rb (π 6))) (pc' := 73) cd_Ho_list rfl rfl rfl rfl rfl (by decide) hH2.1.1.1 hH2.1.1.2 hH2.2.2.2.2.1.2.1 ?_
              refine g_fR (c := 0) (k := 5) (x := (rb (π 6) + 10)) (pc' := 76) cd_Ho_list rfl rfl rfl rfl rfl (by decide) (RDe_K (hH2.2.2.2.2.1.2.2.2.2 6 (by decide))).1 (RDe_K (hH2.2.2.2.2.1.2.2.2.2 6 (by decide))).2 hW2.1.2.1.2.2.2.2.2 ?_
              refine g_ild (pc' := 77) cd_Ho_list rfl (Or.inr ⟨_, rfl, rfl, rfl⟩) l1 rfl ?_
              refine g_aR (t := 6) (x := (rb (π 6) + 47 + 39 * g)) (pc' := 78) cd_Ho_list rfl rfl hW2.1.2.2.2.2.2.2.2.1 hW2.1.2.2.2.2.2.2.2.2.1 (by decide) rfl rfl (by rw [show bm_AL B2 (rb (π 6) + 10) = 4 from hW2.1.2.2.2.2.2.2.2.2.2]; exact vp_in_nI (by omega) (by decide)) (by rw [nI_clamp (by omega)]; exact hAR2) ?_
              refine g_ast (pc' := 80) cd_Ho_list rfl (Or.inl ⟨rfl, rfl⟩) rfl (by decide) rfl (fun lv el => ?_)
              have l0 := tm_lk el l0 rfl (by decide)
              have l1 := tm_lk el l1 rfl (by decide)
              have l2 := tm_lk el l2 rfl (by decide)
              have l3 := tm_lk el l3 rfl (by decide)
              have l4 : lv.lookup 4 = some (.ref ((rb (π 6) + 47 + 39 * g))) := tm_lks el
              clear el
              refine g_ald (pc' := 82) cd_Ho_list rfl (Or.inl ⟨rfl, rfl⟩) l4 rfl rfl ?_
              refine g_ald (pc' := 84) cd_Ho_list rfl (Or.inl ⟨rfl, rfl⟩) l4 rfl rfl ?_
              refine g_fI (c := 5) (k := 2) (x := ve) (pc' := 87) cd_Ho_list rfl rfl rfl rfl rfl (by decide) hM2.1.1.1 hM2.1.1.2 hM2.2.1.1.1 ?_
              refine g_k1 (v := 1) (pc' := 88) cd_Ho_list rfl (by decide) rfl ?_
              refine g_pure (pc' := 89) (st' := [.int (ve + 1), .ref ((rb (π 6) + 47 + 39 * g))]) cd_Ho_list rfl rfl (fun _ _ => rfl) ?_
              refine g_ild (pc' := 90) cd_Ho_list rfl (Or.inr ⟨_, rfl, rfl, rfl⟩) l2 rfl ?_
              refine g_callv (pc' := 93) cd_Ho_list rfl rfl rfl rfl rfl (tm_invV rfl rfl cd_Me_adopt rfl (Nat.le_of_ble_eq_true rfl) (by decide) hM2.1.1.1 hM2.1.1.2) (t_adopt hM2 (fun B3 hM3 hz3 => ?_))
              have hT3 := TI_fr hC2.1 hz3.1 (by omega) (by have := hC2.2.2.2.2.2.1; omega) (by omega)
              obtain ⟨hC3, hH3, hy3⟩ := RH_mem hC2 hH2 hg eD2 hT3 hz3 (fun y q => Or.inr (by omega)) (List.prefix_refl T) hM3
              have hf3 : fr (fun y => ¬ F y) B B3 := fr_trans hf2 (fr_mono (fun y q => nF_lo hC (by omega)) hz3.1)
              have hca := hC3.2.2.2.2.2.1
              have hnt : ∀ y, (y = 0 ∨ (8 ≤ y ∧ y < 1482)) → ¬ tcs 1 ca1 3 4 y := fun y a q => by unfold tcs at q; omega
              have ti := hH3.2.2.2.1.1 g (by omega)
              show bm_G _ _ _ 93 _ [] B3 _
              refine g_ald (pc' := 94) cd_Ho_list rfl (Or.inr ⟨_, rfl, rfl, rfl⟩) l0 rfl rfl ?_
              refine g_fR (c := 11) (k := 0) (x := 1) (pc' := 97) cd_Ho_list rfl rfl rfl rfl rfl (by decide) hH3.1.1.1 hH3.1.1.2 hH3.1.2.1.1 ?_
              refine g_k2 (v := 6) (pc' := 99) cd_Ho_list rfl (by decide) rfl ?_
              refine g_ild (pc' := 100) cd_Ho_list rfl (Or.inr ⟨_, rfl, rfl, rfl⟩) l1 rfl ?_
              refine g_ald (pc' := 102) cd_Ho_list rfl (Or.inl ⟨rfl, rfl⟩) l4 rfl rfl ?_
              refine g_fI (c := 5) (k := 2) (x := (ve + 1)) (pc' := 105) cd_Ho_list rfl rfl rfl rfl rfl (by decide) hM3.1.1.1 hM3.1.1.2 (show bm_FI B3 5 2 (rb (π 6) + 47 + 39 * g) = ve + 1 from hM3.2.1.1.1) ?_
              refine g_ild (pc' := 106) cd_Ho_list rfl (Or.inr ⟨_, rfl, rfl, rfl⟩) l2 rfl ?_
              refine g_k1 (v := 0) (pc' := 107) cd_Ho_list rfl (by decide) rfl ?_
              refine g_callv (pc' := 110) cd_Ho_list rfl rfl rfl rfl rfl (tm_invV rfl rfl cd_Te_startRow rfl (Nat.le_of_ble_eq_true rfl) (by decide) hC3.1.1.1.1 hC3.1.1.1.2) (t_startRow hC3.1 ?_)
              have f1_0 := fr_lt (fz_te (tt_draft_fr B3 1 ca1 3 4 6 (nI g) (ve + 1) k 0)).1 hH3.1.1.1
              have g1_0 := (fr_K (fz_te (tt_draft_fr B3 1 ca1 3 4 6 (nI g) (ve + 1) k 0)).1 hH3.1.1.1).trans hH3.1.1.2
              have f1_1 := fr_lt (fz_te (tt_draft_fr B3 1 ca1 3 4 6 (nI g) (ve + 1) k 0)).1 hC3.1.1.1.1
              have g1_1 := (fr_K (fz_te (tt_draft_fr B3 1 ca1 3 4 6 (nI g) (ve + 1) k 0)).1 hC3.1.1.1.1).trans hC3.1.1.1.2
              have f1_2 := fr_lt (fz_te (tt_draft_fr B3 1 ca1 3 4 6 (nI g) (ve + 1) k 0)).1 hH3.1.2.2.2.2.1.1
              have g1_2 := (fr_K (fz_te (tt_draft_fr B3 1 ca1 3 4 6 (nI g) (ve + 1) k 0)).1 hH3.1.2.2.2.2.1.1).trans hH3.1.2.2.2.2.1.2.1
              have f1_3 := fr_lt (fz_te (tt_draft_fr B3 1 ca1 3 4 6 (nI g) (ve + 1) k 0)).1 hM3.1.1.1
              have g1_3 := (fr_K (fz_te (tt_draft_fr B3 1 ca1 3 4 6 (nI g) (ve + 1) k 0)).1 hM3.1.1.1).trans hM3.1.1.2
              have f1_4 := fr_lt (fz_te (tt_draft_fr B3 1 ca1 3 4 6 (nI g) (ve + 1) k 0)).1 hH3.2.1.1.1.1
              have g1_4 := (fr_K (fz_te (tt_draft_fr B3 1 ca1 3 4 6 (nI g) (ve + 1) k 0)).1 hH3.2.1.1.1.1).trans hH3.2.1.1.1.2
              have q1_0 : bm_FI (tt_draft B3 4 6 (nI g) (ve + 1) k 0) 5 2 (rb (π 6) + 47 + 39 * g) = (ve + 1) := (fr_FI (fz_te (tt_draft_fr B3 1 ca1 3 4 6 (nI g) (ve + 1) k 0)).1 hM3.1.1.1 (hnt _ (by omega)) 5 2).trans (show bm_FI B3 5 2 (rb (π 6) + 47 + 39 * g) = ve + 1 from hM3.2.1.1.1)
              have r1_0 : bm_FR (tt_draft B3 4 6 (nI g) (ve + 1) k 0) 11 0 0 = some 1 := (fr_FR (fz_te (tt_draft_fr B3 1 ca1 3 4 6 (nI g) (ve + 1) k 0)).1 hH3.1.1.1 (hnt _ (by omega)) 11 0).trans hH3.1.2.1.1
              have r1_1 : bm_FR (tt_draft B3 4 6 (nI g) (ve + 1) k 0) 11 2 0 = some 8 := (fr_FR (fz_te (tt_draft_fr B3 1 ca1 3 4 6 (nI g) (ve + 1) k 0)).1 hH3.1.1.1 (hnt _ (by omega)) 11 2).trans hH3.1.2.1.2.2.1
              have r1_2 : bm_FR (tt_draft B3 4 6 (nI g) (ve + 1) k 0) 11 6 0 = some 21 := (fr_FR (fz_te (tt_draft_fr B3 1 ca1 3 4 6 (nI g) (ve + 1) k 0)).1 hH3.1.1.1 (hnt _ (by omega)) 11 6).trans hH3.1.2.1.2.2.2.2.2.2.1
              have u1_0 : bm_AI (tt_draft B3 4 6 (nI g) (ve + 1) k 0) 21 = (bm_AI B3 21) := (fr_AI (fz_te (tt_draft_fr B3 1 ca1 3 4 6 (nI g) (ve + 1) k 0)).1 hH3.1.2.2.2.2.1.1 (hnt _ (by omega))).trans rfl
              have w1_0 : bm_AL (tt_draft B3 4 6 (nI g) (ve + 1) k 0) 21 = 6 := (fr_AL (fz_te (tt_draft_fr B3 1 ca1 3 4 6 (nI g) (ve + 1) k 0)).1 hH3.1.2.2.2.2.1.1).trans hH3.1.2.2.2.2.1.2.2
              show bm_G _ _ _ 110 _ [] (tt_draft B3 4 6 (nI g) (ve + 1) k 0) _
              refine g_ald (pc' := 111) cd_Ho_list rfl (Or.inr ⟨_, rfl, rfl, rfl⟩) l0 rfl rfl ?_
              refine g_fR (c := 11) (k := 0) (x := 1) (pc' := 114) cd_Ho_list rfl rfl rfl rfl rfl (by decide) f1_0 g1_0 r1_0 ?_
              refine g_k1 (v := 0) (pc' := 115) cd_Ho_list rfl (by decide) rfl ?_
              refine g_k1 (v := 0) (pc' := 116) cd_Ho_list rfl (by decide) rfl ?_
              refine g_k1 (v := 0) (pc' := 117) cd_Ho_list rfl (by decide) rfl ?_
              refine g_k1 (v := 0) (pc' := 118) cd_Ho_list rfl (by decide) rfl ?_
              refine g_calli (pc' := 121) cd_Ho_list rfl rfl rfl rfl rfl (tm_invV rfl rfl cd_Te_endRow rfl (Nat.le_of_ble_eq_true rfl) (by decide) f1_1 g1_1) (t_endRow hC3.1 (by omega) (TI_z hC3.1) (TI_z hC3.1) (TI_z hC3.1) (TI_z hC3.1) (fun B2 T2 r2 hx2 ht2 => ?_))
              have hT2 := hx2.2.2.1
              have hl2 := hx2.2.1
              have hf2 := (fz_te hx2.2.2.2).1
              have hz2 := fz_te hx2.2.2.2
              have f3_0 := fr_lt hf2 hH3.1.1.1
              have g3_0 := (fr_K hf2 hH3.1.1.1).trans hH3.1.1.2
              have f3_1 := fr_lt hf2 hC3.1.1.1.1
              have g3_1 := (fr_K hf2 hC3.1.1.1.1).trans hC3.1.1.1.2
              have f3_2 := fr_lt hf2 hH3.1.2.2.2.2.1.1
              have g3_2 := (fr_K hf2 hH3.1.2.2.2.2.1.1).trans hH3.1.2.2.2.2.1.2.1
              have f3_3 := fr_lt hf2 hM3.1.1.1
              have g3_3 := (fr_K hf2 hM3.1.1.1).trans hM3.1.1.2
              have f3_4 := fr_lt hf2 hH3.2.1.1.1.1
              have g3_4 := (fr_K hf2 hH3.2.1.1.1.1).trans hH3.2.1.1.1.2
              have q3_0 : bm_FI B2 5 2 (rb (π 6) + 47 + 39 * g) = (ve + 1) := (fr_FI hf2 hM3.1.1.1 (hnt _ (by omega)) 5 2).trans (show bm_FI B3 5 2 (rb (π 6) + 47 + 39 * g) = ve + 1 from hM3.2.1.1.1)
              have r3_0 : bm_FR B2 11 0 0 = some 1 := (fr_FR hf2 hH3.1.1.1 (hnt _ (by omega)) 11 0).trans hH3.1.2.1.1
              have r3_1 : bm_FR B2 11 2 0 = some 8 := (fr_FR hf2 hH3.1.1.1 (hnt _ (by omega)) 11 2).trans hH3.1.2.1.2.2.1
              have r3_2 : bm_FR B2 11 6 0 = some 21 := (fr_FR hf2 hH3.1.1.1 (hnt _ (by omega)) 11 6).trans hH3.1.2.1.2.2.2.2.2.2.1
              have u3_0 : bm_AI B2 21 = (bm_AI B3 21) := (fr_AI hf2 hH3.1.2.2.2.2.1.1 (hnt _ (by omega))).trans rfl
              have w3_0 : bm_AL B2 21 = 6 := (fr_AL hf2 hH3.1.2.2.2.2.1.1).trans hH3.1.2.2.2.2.1.2.2
              have tv4_0 := tv_mono hx2.1 ti
              have Z5 : fz (tcs 1 ca1 3 4) B3 B2 := fz_trans (fz_rfl _ B3) (fz_mono (fun _ q => q) hz2)
              show bm_G _ _ _ 121 _ [.int r2] B2 _
              refine g_ist (pc' := 123) cd_Ho_list rfl (Or.inl ⟨rfl, rfl⟩) (by decide) rfl (fun lv el => ?_)
              have l0 := tm_lk el l0 rfl (by decide)
              have l1 := tm_lk el l1 rfl (by decide)
              have l2 := tm_lk el l2 rfl (by decide)
              have l3 := tm_lk el l3 rfl (by decide)
              have l4 := tm_lk el l4 rfl (by decide)
              have l5 : lv.lookup 5 = some (.int r2) := tm_lks el
              clear el
              refine g_ald (pc' := 124) cd_Ho_list rfl (Or.inr ⟨_, rfl, rfl, rfl⟩) l0 rfl rfl ?_
              refine g_fR (c := 11) (k := 2) (x := 8) (pc' := 127) cd_Ho_list rfl rfl rfl rfl rfl (by decide) f3_0 g3_0 r3_1 ?_
              refine g_ald (pc' := 128) cd_Ho_list rfl (Or.inr ⟨_, rfl, rfl, rfl⟩) l0 rfl rfl ?_
              refine g_fR (c := 11) (k := 0) (x := 1) (pc' := 131) cd_Ho_list rfl rfl rfl rfl rfl (by decide) f3_0 g3_0 r3_0 ?_
              refine g_ald (pc' := 132) cd_Ho_list rfl (Or.inr ⟨_, rfl, rfl, rfl⟩) l0 rfl rfl ?_
              refine g_fR (c := 11) (k := 6) (x := 21) (pc' := 135) cd_Ho_list rfl rfl rfl rfl rfl (by decide) f3_0 g3_0 r3_2 ?_
              refine g_ild (pc' := 136) cd_Ho_list rfl (Or.inr ⟨_, rfl, rfl, rfl⟩) l1 rfl ?_
              refine g_aI (x := (bm_AI B3 21 g)) (pc' := 137) cd_Ho_list rfl rfl f3_2 g3_2 (by rw [show bm_AL B2 21 = 6 from w3_0]; exact vp_in_nI (by omega) (by decide)) (by rw [show bm_AI B2 21 = _ from u3_0, nI_clamp (by omega)]) ?_
              refine g_ild (pc' := 139) cd_Ho_list rfl (Or.inl ⟨rfl, rfl⟩) l5 rfl ?_
              refine g_calli (pc' := 142) cd_Ho_list rfl rfl rfl rfl rfl (tm_invV rfl rfl cd_Te_signed rfl (Nat.le_of_ble_eq_true rfl) (by decide) f3_1 g3_1) (t_signed hT2 (by omega) tv4_0 ht2 (fun B6 T6 r6 hx6 ht6 => ?_))
              have hT6 := hx6.2.2.1
              have hl6 := hx6.2.1
              have hf6 := (fz_te hx6.2.2.2).1
              have hz6 := fz_te hx6.2.2.2
              have f7_0 := fr_lt hf6 f3_0
              have g7_0 := (fr_K hf6 f3_0).trans g3_0
              have f7_1 := fr_lt hf6 f3_1
              have g7_1 := (fr_K hf6 f3_1).trans g3_1
              have f7_2 := fr_lt hf6 f3_2
              have g7_2 := (fr_K hf6 f3_2).trans g3_2
              have f7_3 := fr_lt hf6 f3_3
              have g7_3 := (fr_K hf6 f3_3).trans g3_3
              have f7_4 := fr_lt hf6 f3_4
              have g7_4 := (fr_K hf6 f3_4).trans g3_4
              have q7_0 : bm_FI B6 5 2 (rb (π 6) + 47 + 39 * g) = (ve + 1) := (fr_FI hf6 f3_3 (hnt _ (by omega)) 5 2).trans q3_0
              have r7_0 : bm_FR B6 11 0 0 = some 1 := (fr_FR hf6 f3_0 (hnt _ (by omega)) 11 0).trans r3_0
              have r7_1 : bm_FR B6 11 2 0 = some 8 := (fr_FR hf6 f3_0 (hnt _ (by omega)) 11 2).trans r3_1
              have r7_2 : bm_FR B6 11 6 0 = some 21 := (fr_FR hf6 f3_0 (hnt _ (by omega)) 11 6).trans r3_2
              have u7_0 : bm_AI B6 21 = (bm_AI B3 21) := (fr_AI hf6 f3_2 (hnt _ (by omega))).trans u3_0
              have w7_0 : bm_AL B6 21 = 6 := (fr_AL hf6 f3_2).trans w3_0
              have tv8_0 := tv_mono hx6.1 tv4_0
              have tv8_1 := tv_mono hx6.1 ht2
              have Z9 : fz (tcs 1 ca1 3 4) B3 B6 := fz_trans Z5 (fz_mono (fun _ q => q) hz6)
              show bm_G _ _ _ 142 _ [.int r6, .ref 8] B6 _
              have hpp := (hx2.1.trans hx6.1)
              have hC4 := CK_made hC3 hT6 hpp Z9 (fun y q => Or.inl q)
              have hH4 := RH_te hC3 hH3 Z9 hpp
              have hf4 : fr (fun y => ¬ F y) B B6 := fr_trans hf3 (fr_mono (fun y q => nF_tcs hC3 q) Z9.1)
              have hlen : T6.length ≤ T.length + 2 := by omega
              refine g_callv (pc' := 145) cd_Ho_list rfl rfl rfl rfl rfl (tm_invV rfl rfl cd_Wi_add rfl (Nat.le_of_ble_eq_true rfl) (by decide) f7_4 g7_4) (t_Wadd hH4.2.1 (by simp; omega) ht6 (fun B5 hW5 hz5 => ?_))
              have hH5 := RH_wi hH4 hz5.1 (fun y q => by omega) (List.prefix_refl _) hW5
              have hC5 := CK_cls hC4 hz5 (fun y q => by omega)
              rw [List.nil_append] at hH5
              have hf5 : fr (fun y => ¬ F y) B B5 := fr_trans hf4 (fr_mono (fun y q => nF_lo hC (by omega)) hz5.1)
              show bm_G _ _ _ 145 _ [] B5 _
              refine g_ald (pc' := 146) cd_Ho_list rfl (Or.inr ⟨_, rfl, rfl, rfl⟩) l0 rfl rfl ?_
              refine g_ild (pc' := 147) cd_Ho_list rfl (Or.inr ⟨_, rfl, rfl, rfl⟩) l1 rfl ?_
              refine g_calli (pc' := 150) cd_Ho_list rfl rfl rfl rfl rfl (tm_invV rfl rfl cd_Ho_finish rfl (Nat.le_of_ble_eq_true rfl) (by decide) hH5.1.1.1 hH5.1.1.2) (t_finish hC5 hH5 (by omega) hst (by rw [fset_same]; exact hen) (fun B6 ho hC6 hH6 hz6 => ?_) (fun B6 ho hC6 hH6 hz6 => ?_))
              · skip
                rw [fset_same] at ho hH6
                show bm_G _ _ _ 150 _ [.int 0] B6 _
                refine g_if1 (t := 168) (pc' := 153) cd_Ho_list rfl rfl rfl (fun c150 => ?_) (fun c150 => ?_)
                · have c150 : (0 : Int32) = 0 := c150
                  refine g_k2 (v := (-4)) (pc' := 170) cd_Ho_list rfl (by decide) rfl ?_
                  exact g_reti cd_Ho_list rfl ⟨_, rfl, (k0 B6 T6 _ ca1 rm1 kc kl rk _ hpp hlen c39 c58 ho hC6 hH6 (fr_trans hf5 (fr_mono (fun y q => nF_lo hC (by omega)) hz6.1)))⟩
                · exact absurd (show ¬ (0 : Int32) = 0 from c150) (by decide)
              · skip
                rw [fset_same] at ho hH6
                rw [fset_same]
                show bm_G _ _ _ 150 _ [.int (bz (decide ((st_commit p0 P c (dv_en (id, K0, K1, on, lnu, se, fset me g (mm_adopt (ve, ma, go, ge, ch, si, ix, ga, sl, gv) (ve + 1) k)))).1 = 2)))] B6 _
                refine g_if1 (t := 168) (pc' := 153) cd_Ho_list rfl rfl rfl (fun c150 => ?_) (fun c150 => ?_)
                · have c150 : (decide ((st_commit p0 P c (dv_en (id, K0, K1, on, lnu, se, fset me g (mm_adopt (ve, ma, go, ge, ch, si, ix, ga, sl, gv) (ve + 1) k)))).1 = 2)) = false := bz_f c150
                  refine g_k2 (v := (-4)) (pc' := 170) cd_Ho_list rfl (by decide) rfl ?_
                  have ho1 : (st_commit p0 P c (dv_en (id, K0, K1, on, lnu, se, fset me g (mm_adopt (ve, ma, go, ge, ch, si, ix, ga, sl, gv) (ve + 1) k)))).1 = 1 := by have := st_commit_le (p := p0) (P := P) (c := c) (W := dv_en (id, K0, K1, on, lnu, se, fset me g (mm_adopt (ve, ma, go, ge, ch, si, ix, ga, sl, gv) (ve + 1) k))); have q2 := of_decide_eq_false c150; omega
                  exact g_reti cd_Ho_list rfl ⟨_, rfl, (k1 B6 T6 _ ca1 rm1 kc kl rk _ hpp hlen c39 c58 ho1 hC6 hH6 (fr_trans hf5 (fr_mono (fun y q => nF_lo hC (by omega)) hz6.1)))⟩
                · have c150 : (decide ((st_commit p0 P c (dv_en (id, K0, K1, on, lnu, se, fset me g (mm_adopt (ve, ma, go, ge, ch, si, ix, ga, sl, gv) (ve + 1) k)))).1 = 2)) = true := bz_t c150
                  refine g_ald (pc' := 154) cd_Ho_list rfl (Or.inr ⟨_, rfl, rfl, rfl⟩) l0 rfl rfl ?_
                  refine g_fR (c := 11) (k := 2) (x := 8) (pc' := 157) cd_Ho_list rfl rfl rfl rfl rfl (by decide) hH6.1.1.1 hH6.1.1.2 hH6.1.2.1.2.2.1 ?_
                  refine g_ald (pc' := 158) cd_Ho_list rfl (Or.inr ⟨_, rfl, rfl, rfl⟩) l0 rfl rfl ?_
                  refine g_fR (c := 11) (k := 1) (x := 5) (pc' := 161) cd_Ho_list rfl rfl rfl rfl rfl (by decide) hH6.1.1.1 hH6.1.1.2 hH6.1.2.1.2.1 ?_
                  refine g_k1 (v := (-1)) (pc' := 162) cd_Ho_list rfl (by decide) rfl ?_
                  refine g_calli (pc' := 165) cd_Ho_list rfl rfl rfl rfl rfl (tm_invV rfl rfl cd_Wi_tell rfl (Nat.le_of_ble_eq_true rfl) (by decide) hH6.2.1.1.1.1 hH6.2.1.1.1.2) (t_Wtell (wt := []) hC6 hH6.2.1 (fun B8 kc8 kl8 rk8 hC8 hW8 hf8 => ?_))
                  have hH8 := RH_wi (ws' := ws ++ [((Tsg (ids g) (Trw 6 (nI g) (ve + 1) k 0 tz tz tz tz)), (-1 : Int32))]) (wt' := []) hH6 hf8 (fun y q r => by unfold xw xc at r; omega) (List.prefix_refl _) (by simpa using hW8)
                  show bm_G _ _ _ 165 _ [.int (nI (ws.length + ([] : List Tm).length))] B8 _
                  refine g_pure (pc' := 170) (st' := [.int (nI (ws.length + ([] : List Tm).length))]) cd_Ho_list rfl rfl (fun _ _ => rfl) ?_
                  exact g_reti cd_Ho_list rfl ⟨_, rfl, (k2 B8 T6 _ ca1 rm1 kc8 kl8 rk8 _ hpp hlen c39 c58 (of_decide_eq_true c150) (CK_eqK hC8 (fun y => by simp)) hH8 (fr_trans (fr_trans hf5 (fr_mono (fun y q => nF_lo hC (by omega)) hz6.1)) (fr_mono (fun y q => q.elim (nF_xc hC) (fun q => nF_lo hC (by omega))) hf8)))⟩
            · have c58 : ¬ (k &&& go) = 0 := c58
              refine g_k2 (v := (-6)) (pc' := 63) cd_Ho_list rfl (by decide) rfl ?_
              exact g_reti cd_Ho_list rfl ⟨_, rfl, (kN B1 _ ca1 rm1 (Or.inr c58) hC1 hH1 hf1n)⟩
        · exact absurd (show ¬ (0 : Int32) = 0 from c29) (by decide)
