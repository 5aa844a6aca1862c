/-! post, whole -/
noncomputable def po_hand (id : Tm) (ids : Nat → Tm) (s g : Nat) (se : Nat → List SS) (me : Nat → MM) (dir : Nat → Tm) (dr : Nat) : HS := ho id ids s g (mm_gift (mm_ren (me g) dr (nI s)) (nI g)) 6 0 (se, fset me g (mm_ren (me g) dr (nI s)), dir, dr_ren (me g) dr, [])
theorem po_hand_eq {id : Tm} {ids : Nat → Tm} {s g : Nat} {se : Nat → List SS} {me : Nat → MM} {dir : Nat → Tm} {dr : Nat} : ho id ids s g (mm_gift (fset me g (mm_ren (me g) dr (nI s)) g) (nI g)) 6 0 (se, fset me g (mm_ren (me g) dr (nI s)), dir, dr_ren (me g) dr, []) = po_hand id ids s g se me dir dr := by rw [fset_same]; rfl
theorem dr_ren_le (M : MM) (dr : Nat) : dr_ren M dr ≤ dr + 2 := by unfold dr_ren; split <;> omega
theorem RMs_ve {B : bm_H} {T : List Tm} {m : Nat} {M : MM} (h : RMs B T m M) : bm_FI B 5 2 m = M.1 := by
  obtain ⟨ve, ma, go, ge, ch, si, ix, ga, sl, gv⟩ := M
  exact h.1.1
set_option maxRecDepth 100000 in
theorem t_post {sc : tm_X} {d : Nat} {B : bm_H} {F : Nat → Prop} {N S M ln : Nat} {T : List Tm} {dr : Nat} {K : Tm → Prop} {ca rm kc kl rk : Nat} {ws : List (Tm × Int32)} {wt : List Tm} {L : List LT} {bd ll tc tl tf tg : Nat → Int32} {cf cg : Int32} {ct : Tm} {co : Bool} {li fo db : Int32} {ids dir reg : Nat → Tm} {seen : List Tm} {π : Nat → Nat} {w : Nat → SW} {dev : Nat → DV} {sto : Nat → ST} {id : Tm} {K0 K1 : PK} {on : List (Tm × Int32)} {lnu : Int32} {se : Nat → List SS} {me : Nat → MM} {s g : Nat} {p0 : Bool} {P : EN2} {c : Option Nat} {Q : Int32 → bm_H → Prop} (hC : CK B F N S M ln T dr K ca rm kc kl rk) (hH : RH B T ws wt (L, bd, ll, tc, tl, tf, tg, cf, cg, ct, co, li, fo, db) ids dir reg seen π w dev sto) (hdr : dr ≤ 2900) (hws : ws.length ≤ 692) (hTl : T.length ≤ 30000) (hs : s < 6) (hg : g < 4) (eD : dev s = (id, K0, K1, on, lnu, se, me)) (hL : L.length < 700) (hst : sto s = (p0, P, [], c, false)) (kI : kd id = 1) (kJ : ∀ p, p < 6 → kd (ids p) = 1) (hok : okSe se) (hsi : mm_fresh (me g) = true → kd (me g).2.2.2.2.2.1 = 1) (hen : (me g).1 ≠ 0 → (dv_en (id, K0, K1, on, lnu, (po_hand id ids s g se me dir dr).1, fset (po_hand id ids s g se me dir dr).2.1 g (mm_posted ((po_hand id ids s g se me dir dr).2.1 g)))).length ≤ 536) (kN : ∀ B' M' ca' rm', (me g).1 = 0 → CK B' F N S M' ln T dr K ca' rm' kc kl rk → RH B' T ws wt (L, bd, ll, tc, tl, tf, tg, cf, cg, ct, co, li, fo, db) ids dir reg seen π w dev sto → fr (fun y => ¬ F y) B B' → Q (-6) B') (k0 : ∀ B' T' M' ca' rm' kc' kl' rk' w', T <+: T' → T'.length ≤ T.length + 160 → (me g).1 ≠ 0 → (st_commit p0 P c (dv_en (id, K0, K1, on, lnu, (po_hand id ids s g se me dir dr).1, fset (po_hand id ids s g se me dir dr).2.1 g (mm_posted ((po_hand id ids s g se me dir dr).2.1 g))))).1 = 0 → CK B' F N S M' ln T' ((po_hand id ids s g se me dir dr).2.2.2.1 + 1) K ca' rm' kc' kl' rk' → RH B' T' ws ((po_hand id ids s g se me dir dr).2.2.2.2 ++ [(mm_post ((po_hand id ids s g se me dir dr).2.1 g) (nI g) (nI s) (Trw 4 0 0 0 0 (Tsec (nI (po_hand id ids s g se me dir dr).2.2.2.1) (nI s) 0) tz tz tz))]) (L, bd, ll, tc, tl, tf, tg, cf, cg, ct, co, li, fo, db) ids (po_hand id ids s g se me dir dr).2.2.1 reg seen π w' (fset (fset dev 6 (dev s)) 6 (id, K0, K1, on, lnu, (po_hand id ids s g se me dir dr).1, fset (po_hand id ids s g se me dir dr).2.1 g (mm_posted ((po_hand id ids s g se me dir dr).2.1 g)))) (fset sto s (st_commit p0 P c (dv_en (id, K0, K1, on, lnu, (po_hand id ids s g se me dir dr).1, fset (po_hand id ids s g se me dir dr).2.1 g (mm_posted ((po_hand id ids s g se me dir dr).2.1 g))))).2) → fr (fun y => ¬ F y) B B' → Q (-4) B') (k1 : ∀ B' T' M' ca' rm' kc' kl' rk' w', T <+: T' → T'.length ≤ T.length + 160 → (me g).1 ≠ 0 → (st_commit p0 P c (dv_en (id, K0, K1, on, lnu, (po_hand id ids s g se me dir dr).1, fset (po_hand id ids s g se me dir dr).2.1 g (mm_posted ((po_hand id ids s g se me dir dr).2.1 g))))).1 = 1 → CK B' F N S M' ln T' ((po_hand id ids s g se me dir dr).2.2.2.1 + 1) K ca' rm' kc' kl' rk' → RH B' T' ws ((po_hand id ids s g se me dir dr).2.2.2.2 ++ [(mm_post ((po_hand id ids s g se me dir dr).2.1 g) (nI g) (nI s) (Trw 4 0 0 0 0 (Tsec (nI (po_hand id ids s g se me dir dr).2.2.2.1) (nI s) 0) tz tz tz))]) (L, bd, ll, tc, tl, tf, tg, cf, cg, ct, co, li, fo, db) ids (po_hand id ids s g se me dir dr).2.2.1 reg seen (sw6 π s) w' (sw6 (fset (fset dev 6 (dev s)) 6 (id, K0, K1, on, lnu, (po_hand id ids s g se me dir dr).1, fset (po_hand id ids s g se me dir dr).2.1 g (mm_posted ((po_hand id ids s g se me dir dr).2.1 g)))) s) (fset sto s (st_commit p0 P c (dv_en (id, K0, K1, on, lnu, (po_hand id ids s g se me dir dr).1, fset (po_hand id ids s g se me dir dr).2.1 g (mm_posted ((po_hand id ids s g se me dir dr).2.1 g))))).2) → fr (fun y => ¬ F y) B B' → Q (-4) B') (k2 : ∀ B' T' M' ca' rm' kc' kl' rk' w', T <+: T' → T'.length ≤ T.length + 160 → (me g).1 ≠ 0 → (st_commit p0 P c (dv_en (id, K0, K1, on, lnu, (po_hand id ids s g se me dir dr).1, fset (po_hand id ids s g se me dir dr).2.1 g (mm_posted ((po_hand id ids s g se me dir dr).2.1 g))))).1 = 2 → CK B' F N S M' T'.length T' ((po_hand id ids s g se me dir dr).2.2.2.1 + 1) (fun y => K y ∨ y ∈ ((po_hand id ids s g se me dir dr).2.2.2.2 ++ [(mm_post ((po_hand id ids s g se me dir dr).2.1 g) (nI g) (nI s) (Trw 4 0 0 0 0 (Tsec (nI (po_hand id ids s g se me dir dr).2.2.2.1) (nI s) 0) tz tz tz))])) ca' rm' kc' kl' rk' → RH B' T' (ws ++ (po_hand id ids s g se me dir dr).2.2.2.2.map (fun A => (A, (-1 : Int32))) ++ [((mm_post ((po_hand id ids s g se me dir dr).2.1 g) (nI g) (nI s) (Trw 4 0 0 0 0 (Tsec (nI (po_hand id ids s g se me dir dr).2.2.2.1) (nI s) 0) tz tz tz)), nI L.length)]) [] (L ++ [lt_post (Tsec (nI (po_hand id ids s g se me dir dr).2.2.2.1) (nI s) 0) (nI s) (nI g) ((po_hand id ids s g se me dir dr).2.1 g).2.1 li], upd bd (po_hand id ids s g se me dir dr).2.2.2.1 (nI L.length), ll, tc, tl, tf, tg, cf, cg, ct, co, li, fo, db) ids (po_hand id ids s g se me dir dr).2.2.1 reg seen (sw6 π s) w' (sw6 (fset (fset dev 6 (dev s)) 6 (id, K0, K1, on, lnu, (po_hand id ids s g se me dir dr).1, fset (po_hand id ids s g se me dir dr).2.1 g (mm_posted ((po_hand id ids s g se me dir dr).2.1 g)))) s) (fset sto s (st_commit p0 P c (dv_en (id, K0, K1, on, lnu, (po_hand id ids s g se me dir dr).1, fset (po_hand id ids s g se me dir dr).2.1 g (mm_posted ((po_hand id ids s g se me dir dr).2.1 g))))).2) → fr (fun y => ¬ F y) B B' → Q (nI (ws.length + (po_hand id ids s g se me dir dr).2.2.2.2.length)) B') : bm_Gi sc (d + 6) 97 [.ref 0, .int (nI s), .int (nI g)] B Q := by
  show bm_G sc (d + 6) 97 0 [(0, .ref 0), (1, .int (nI s)), (2, .int (nI g))] [] B _
  generalize elv : ([(0, .ref 0), (1, .int (nI s)), (2, .int (nI g))] : tm_L) = lv
  have l0 : lv.lookup 0 = some (.ref 0) := by rw [← elv]; rfl
  have l1 : lv.lookup 1 = some (.int (nI s)) := by rw [← elv]; rfl
  have l2 : lv.lookup 2 = some (.int (nI g)) := by rw [← elv]; rfl
  clear elv
  refine g_ald (pc' := 1) cd_Ho_post rfl (Or.inr ⟨_, rfl, rfl, rfl⟩) l0 rfl rfl ?_
  refine g_ild (pc' := 2) cd_Ho_post rfl (Or.inr ⟨_, rfl, rfl, rfl⟩) l1 rfl ?_
  refine g_calli (pc' := 5) cd_Ho_post rfl rfl rfl rfl rfl (tm_invS rfl rfl cd_Ho_isDevice rfl (Nat.le_of_ble_eq_true rfl)) (t_isDevice ?_)
  rw [show inR (nI s) 6 = true from inR_nI hs (by decide)]
  show bm_G _ _ _ _ _ (.int 1 :: _) _ _
  show bm_G _ _ _ 5 _ [.int 1, .ref 0] B _
  refine g_if1 (t := 19) (pc' := 8) cd_Ho_post rfl rfl rfl (fun c5 => ?_) (fun c5 => ?_)
  · exact absurd (show (1 : Int32) = 0 from c5) (by decide)
  · have c5 : ¬ (1 : Int32) = 0 := c5
    refine g_ild (pc' := 9) cd_Ho_post rfl (Or.inr ⟨_, rfl, rfl, rfl⟩) l2 rfl ?_
    refine g_calli (pc' := 12) cd_Ho_post rfl rfl rfl rfl rfl (tm_invS rfl rfl cd_Ho_isGroup rfl (Nat.le_of_ble_eq_true rfl)) (t_isGroup ?_)
    rw [show inR (nI g) 4 = true from inR_nI hg (by decide)]
    show bm_G _ _ _ _ _ (.int 1 :: _) _ _
    show bm_G _ _ _ 12 _ [.int 1, .ref 0] B _
    refine g_if1 (t := 19) (pc' := 15) cd_Ho_post rfl rfl rfl (fun c12 => ?_) (fun c12 => ?_)
    · exact absurd (show (1 : Int32) = 0 from c12) (by decide)
    · have c12 : ¬ (1 : Int32) = 0 := c12
      refine g_k1 (v := 1) (pc' := 16) cd_Ho_post rfl (by decide) rfl ?_
      refine g_pure (pc' := 20) (st' := [.int 1, .ref 0]) cd_Ho_post rfl rfl (fun _ _ => rfl) ?_
      refine g_ild (pc' := 21) cd_Ho_post rfl (Or.inr ⟨_, rfl, rfl, rfl⟩) l1 rfl ?_
      refine g_calli (pc' := 24) cd_Ho_post rfl rfl rfl rfl rfl (tm_invV rfl rfl cd_Ho_refusal rfl (Nat.le_of_ble_eq_true rfl) (by decide) hH.1.1.1 hH.1.1.2) (t_refusal hC hH (by omega) hws hTl hs (fun _ _ _ hdn _ _ _ => by rw [hst] at hdn; cases hdn) (fun B1 ca1 rm1 hdn hC1 hH1 hf1 => ?_))
      have hV1 := hH1.2.2.2.2.1
      have hD1 := hV1.2.2.2.2 s (by omega)
      rw [eD] at hD1
      have hM1 := hD1.2.2.2.2.2.2 g hg
      have hve := RMs_ve hM1.2.1
      have hf1n : fr (fun y => ¬ F y) B B1 := fr_mono (fun y q => nF_lo hC (by omega)) hf1
      show bm_G _ _ _ 24 _ [.int 0] B1 _
      refine g_ist (pc' := 25) cd_Ho_post rfl (Or.inr ⟨_, rfl, rfl, rfl⟩) (by decide) rfl (fun lv el => ?_)
      have l0 := tm_lk el l0 rfl (by decide)
      have l1 := tm_lk el l1 rfl (by decide)
      have l2 := tm_lk el l2 rfl (by decide)
      have l3 : lv.lookup 3 = some (.int 0) := tm_lks el
      clear el
      refine g_ild (pc' := 26) cd_Ho_post rfl (Or.inr ⟨_, rfl, rfl, rfl⟩) l3 rfl ?_
      refine g_if1 (t := 31) (pc' := 29) cd_Ho_post rfl rfl rfl (fun c26 => ?_) (fun c26 => ?_)
      · have c26 : (0 : Int32) = 0 := c26
        refine g_ald (pc' := 32) cd_Ho_post rfl (Or.inr ⟨_, rfl, rfl, rfl⟩) l0 rfl rfl ?_
        refine g_fR (c := 11) (k := 4) (x := 19) (pc' := 35) cd_Ho_post rfl rfl rfl rfl rfl (by decide) hH1.1.1.1 hH1.1.1.2 hH1.1.2.1.2.2.2.2.1 ?_
        refine g_ild (pc' := 36) cd_Ho_post rfl (Or.inr ⟨_, rfl, rfl, rfl⟩) l1 rfl ?_
        refine g_aR (t := 2) (x := (rb (π s))) (pc' := 37) cd_Ho_post rfl rfl hH1.1.2.2.1.1 hH1.1.2.2.1.2.1 (by decide) rfl rfl (by rw [show bm_AL B1 19 = 6 from hH1.1.2.2.1.2.2]; exact vp_in_nI (by omega) (by decide)) (by rw [nI_clamp (by omega)]; exact hV1.1 s hs) ?_
        refine g_fR (c := 0) (k := 5) (x := (rb (π s) + 10)) (pc' := 40) cd_Ho_post rfl rfl rfl rfl rfl (by decide) hD1.1.1.1 hD1.1.1.2 hD1.1.2.1.2.2.2.2.2 ?_
        refine g_ild (pc' := 41) cd_Ho_post rfl (Or.inr ⟨_, rfl, rfl, rfl⟩) l2 rfl ?_
        refine g_aR (t := 6) (x := (rb (π s) + 47 + 39 * g)) (pc' := 42) cd_Ho_post rfl rfl hD1.1.2.2.2.2.2.2.2.1 hD1.1.2.2.2.2.2.2.2.2.1 (by decide) rfl rfl (by rw [show bm_AL B1 (rb (π s) + 10) = 4 from hD1.1.2.2.2.2.2.2.2.2.2]; exact vp_in_nI (by omega) (by decide)) (by rw [nI_clamp (by omega)]; exact hD1.2.2.2.2.2.1 g hg) ?_
        refine g_fI (c := 5) (k := 2) (x := (me g).1) (pc' := 45) cd_Ho_post rfl rfl rfl rfl rfl (by decide) hM1.1.1.1 hM1.1.1.2 hve ?_
        refine g_if1 (t := 51) (pc' := 48) cd_Ho_post rfl rfl rfl (fun c45 => ?_) (fun c45 => ?_)
        · have c45 : ¬ ((me g).1) = 0 := c45
          refine g_ald (pc' := 52) cd_Ho_post rfl (Or.inr ⟨_, rfl, rfl, rfl⟩) l0 rfl rfl ?_
          refine g_ild (pc' := 53) cd_Ho_post rfl (Or.inr ⟨_, rfl, rfl, rfl⟩) l1 rfl ?_
          refine g_callv (pc' := 56) cd_Ho_post rfl rfl rfl rfl rfl (tm_invV rfl rfl cd_Ho_startWork rfl (Nat.le_of_ble_eq_true rfl) (by decide) hH1.1.1.1 hH1.1.1.2) (t_startWork hC1 hH1 hs (fun B2 hC2 hH2 hz2 => ?_))
          have eD2 : fset dev 6 (dev s) 6 = (id, K0, K1, on, lnu, se, me) := (fset_same _ _ _).trans eD
          have hf2 : fr (fun y => ¬ F y) B B2 := fr_trans hf1n (fr_mono (fun y q => nF_lo hC (by omega)) hz2.1)
          obtain ⟨hM2, hAR2, hnt2, r6a, r6b⟩ := mem_at hC2 hH2 hg eD2
          have hW2 := hH2.2.2.2.2.1.2.2.2.2 6 (by decide)
          rw [eD2] at hW2
          show bm_G _ _ _ 56 _ [] B2 _
          refine g_ald (pc' := 57) cd_Ho_post rfl (Or.inr ⟨_, rfl, rfl, rfl⟩) l0 rfl rfl ?_
          refine g_fR (c := 11) (k := 11) (x := (rb (π 6))) (pc' := 60) cd_Ho_post rfl rfl rfl rfl rfl (by decide) hH2.1.1.1 hH2.1.1.2 hH2.2.2.2.2.1.2.1 ?_
          refine g_fR (c := 0) (k := 5) (x := (rb (π 6) + 10)) (pc' := 63) cd_Ho_post rfl rfl rfl rfl rfl (by decide) (RDe_K (hH2.2.2.2.2.1.2.2.2.2 6 (by decide))).1 (RDe_K (hH2.2.2.2.2.1.2.2.2.2 6 (by decide))).2 hW2.1.2.1.2.2.2.2.2 ?_
          refine g_ild (pc' := 64) cd_Ho_post rfl (Or.inr ⟨_, rfl, rfl, rfl⟩) l2 rfl ?_
          refine g_aR (t := 6) (x := (rb (π 6) + 47 + 39 * g)) (pc' := 65) cd_Ho_post rfl rfl hW2.1.2.2.2.2.2.2.2.1 hW2.1.2.2.2.2.2.2.2.2.1 (by decide) rfl rfl (by rw [show bm_AL B2 (rb (π 6) + 10) = 4 from hW2.1.2.2.2.2.2.2.2.2.2]; exact vp_in_nI (by omega) (by decide)) (by rw [nI_clamp (by omega)]; exact hAR2) ?_
          refine g_ast (pc' := 67) cd_Ho_post rfl (Or.inl ⟨rfl, rfl⟩) rfl (by decide) rfl (fun lv el => ?_)
          have l0 := tm_lk el l0 rfl (by decide)
          have l1 := tm_lk el l1 rfl (by decide)
          have l2 := tm_lk el l2 rfl (by decide)
          have l3 := tm_lk el l3 rfl (by decide)
          have l4 : lv.lookup 4 = some (.ref ((rb (π 6) + 47 + 39 * g))) := tm_lks el
          clear el
          refine g_ald (pc' := 69) cd_Ho_post rfl (Or.inl ⟨rfl, rfl⟩) l4 rfl rfl ?_
          refine g_ald (pc' := 70) cd_Ho_post rfl (Or.inr ⟨_, rfl, rfl, rfl⟩) l0 rfl rfl ?_
          refine g_fR (c := 11) (k := 0) (x := 1) (pc' := 73) cd_Ho_post rfl rfl rfl rfl rfl (by decide) hH2.1.1.1 hH2.1.1.2 hH2.1.2.1.1 ?_
          refine g_ild (pc' := 74) cd_Ho_post rfl (Or.inr ⟨_, rfl, rfl, rfl⟩) l1 rfl ?_
          refine g_callv (pc' := 77) cd_Ho_post rfl rfl rfl rfl rfl (tm_invV rfl rfl cd_Me_renewChain rfl (Nat.le_of_ble_eq_true rfl) (by decide) hM2.1.1.1 hM2.1.1.2) (t_renewH (v := nI s) hC2 hH2 hg eD2 (by omega) (by omega) (fun B3 T3 w3 hp3 hl3 hC3 hH3 hz3 => ?_))
          have eD3 : fset (fset dev 6 (dev s)) 6 (id, K0, K1, on, lnu, se, fset me g (mm_ren (me g) dr (nI s))) 6 = (id, K0, K1, on, lnu, se, fset me g (mm_ren (me g) dr (nI s))) := fset_same _ _ _
          obtain ⟨hM3, -⟩ := mem_at hC3 hH3 hg eD3
          have hdl := dr_ren_le (me g) dr
          show bm_G _ _ _ 77 _ [] B3 _
          refine g_ald (pc' := 78) cd_Ho_post rfl (Or.inr ⟨_, rfl, rfl, rfl⟩) l0 rfl rfl ?_
          refine g_ild (pc' := 79) cd_Ho_post rfl (Or.inr ⟨_, rfl, rfl, rfl⟩) l1 rfl ?_
          refine g_ild (pc' := 80) cd_Ho_post rfl (Or.inr ⟨_, rfl, rfl, rfl⟩) l2 rfl ?_
          refine g_ald (pc' := 82) cd_Ho_post rfl (Or.inl ⟨rfl, rfl⟩) l4 rfl rfl ?_
          refine g_callv (pc' := 85) cd_Ho_post rfl rfl rfl rfl rfl (tm_invV rfl rfl cd_Ho_handOut rfl (Nat.le_of_ble_eq_true rfl) (by decide) hH3.1.1.1 hH3.1.1.2) (t_handOut hC3 hH3 hs hg eD3 kI kJ hws hok (by rw [fset_same]; exact mm_ren_si hsi) rfl (by omega) (by omega) (fun B4 T4 w4 hp4 hl4 hdr4 hwl4 hok4 hC4 hH4 hf4 => ?_))
          rw [po_hand_eq] at hC4 hH4 hdr4 hwl4 hok4
          rw [fset_fset] at hH4
          have eD4 : fset (fset dev 6 (dev s)) 6 (id, K0, K1, on, lnu, (po_hand id ids s g se me dir dr).1, (po_hand id ids s g se me dir dr).2.1) 6 = (id, K0, K1, on, lnu, (po_hand id ids s g se me dir dr).1, (po_hand id ids s g se me dir dr).2.1) := fset_same _ _ _
          obtain ⟨hM4, -⟩ := mem_at hC4 hH4 hg eD4
          have hrm4 := hC4.2.2.2.2.1.2
          show bm_G _ _ _ 85 _ [] B4 _
          refine g_ald (pc' := 86) cd_Ho_post rfl (Or.inr ⟨_, rfl, rfl, rfl⟩) l0 rfl rfl ?_
          refine g_fR (c := 11) (k := 0) (x := 1) (pc' := 89) cd_Ho_post rfl rfl rfl rfl rfl (by decide) hH4.1.1.1 hH4.1.1.2 hH4.1.2.1.1 ?_
          refine g_ild (pc' := 90) cd_Ho_post rfl (Or.inr ⟨_, rfl, rfl, rfl⟩) l1 rfl ?_
          refine g_k1 (v := 0) (pc' := 91) cd_Ho_post rfl (by decide) rfl ?_
          refine g_calli (pc' := 94) cd_Ho_post rfl rfl rfl rfl rfl (tm_invV rfl rfl cd_Te_secret rfl (Nat.le_of_ble_eq_true rfl) (by decide) hC4.1.1.1.1 hC4.1.1.1.2) (t_secret (xd := nI s) (xp := 0) hC4.1 (by omega) (by omega) (fun B5 r5 hx5 ht5 => ?_))
          have hC5 := CK_made hC4 hx5.2.2.1 hx5.1 (fz_te hx5.2.2.2) (fun y q => Or.inl q)
          have hH5 := RH_te hC4 hH4 (fz_te hx5.2.2.2) hx5.1
          obtain ⟨hM5, -⟩ := mem_at hC5 hH5 hg eD4
          have hl5 : (T4 ++ [(Tsec (nI (po_hand id ids s g se me dir dr).2.2.2.1) (nI s) 0), Tpub (Tsec (nI (po_hand id ids s g se me dir dr).2.2.2.1) (nI s) 0)]).length = T4.length + 2 := by simp
          show bm_G _ _ _ 94 _ [.int r5] B5 _
          refine g_ist (pc' := 96) cd_Ho_post rfl (Or.inl ⟨rfl, rfl⟩) (by decide) rfl (fun lv el => ?_)
          have l0 := tm_lk el l0 rfl (by decide)
          have l1 := tm_lk el l1 rfl (by decide)
          have l2 := tm_lk el l2 rfl (by decide)
          have l3 := tm_lk el l3 rfl (by decide)
          have l4 := tm_lk el l4 rfl (by decide)
          have l5 : lv.lookup 5 = some (.int r5) := tm_lks el
          clear el
          refine g_ald (pc' := 97) cd_Ho_post rfl (Or.inr ⟨_, rfl, rfl, rfl⟩) l0 rfl rfl ?_
          refine g_fR (c := 11) (k := 2) (x := 8) (pc' := 100) cd_Ho_post rfl rfl rfl rfl rfl (by decide) hH5.1.1.1 hH5.1.1.2 hH5.1.2.1.2.2.1 ?_
          refine g_ald (pc' := 102) cd_Ho_post rfl (Or.inl ⟨rfl, rfl⟩) l4 rfl rfl ?_
          refine g_ald (pc' := 103) cd_Ho_post rfl (Or.inr ⟨_, rfl, rfl, rfl⟩) l0 rfl rfl ?_
          refine g_fR (c := 11) (k := 0) (x := 1) (pc' := 106) cd_Ho_post rfl rfl rfl rfl rfl (by decide) hH5.1.1.1 hH5.1.1.2 hH5.1.2.1.1 ?_
          refine g_ild (pc' := 107) cd_Ho_post rfl (Or.inr ⟨_, rfl, rfl, rfl⟩) l2 rfl ?_
          refine g_ild (pc' := 108) cd_Ho_post rfl (Or.inr ⟨_, rfl, rfl, rfl⟩) l1 rfl ?_
          refine g_ald (pc' := 109) cd_Ho_post rfl (Or.inr ⟨_, rfl, rfl, rfl⟩) l0 rfl rfl ?_
          refine g_ild (pc' := 111) cd_Ho_post rfl (Or.inl ⟨rfl, rfl⟩) l5 rfl ?_
          refine g_calli (pc' := 114) cd_Ho_post rfl rfl rfl rfl rfl (tm_invV rfl rfl cd_Ho_letterRow rfl (Nat.le_of_ble_eq_true rfl) (by decide) hH5.1.1.1 hH5.1.1.2) (t_letterRow hC5 hH5 ht5 (by omega) (fun B6 T6 r6 hp6 hl6 hC6 hH6 ht6 hz6 => ?_))
          obtain ⟨hM6, -⟩ := mem_at hC6 hH6 hg eD4
          show bm_G _ _ _ 114 _ [.int r6, .int (nI s), .int (nI g), .ref 1, .ref ((rb (π 6) + 47 + 39 * g)), .ref 8] B6 _
          refine g_calli (pc' := 117) cd_Ho_post rfl rfl rfl rfl rfl (tm_invV rfl rfl cd_Me_nextPost rfl (Nat.le_of_ble_eq_true rfl) (by decide) hM6.1.1.1 hM6.1.1.2) (t_postH hC6 hH6 hg eD4 (by omega) ht6 (fun B7 T7 r7 w7 hp7 hl7 hC7 hH7 ht7 hw7 hz7 => ?_))
          rw [fset_fset] at hH7
          show bm_G _ _ _ 117 _ [.int r7, .ref 8] B7 _
          refine g_callv (pc' := 120) cd_Ho_post rfl rfl rfl rfl rfl (tm_invV rfl rfl cd_Wi_add rfl (Nat.le_of_ble_eq_true rfl) (by decide) hH7.2.1.1.1.1 hH7.2.1.1.1.2) (t_Wadd hH7.2.1 (by omega) ht7 (fun B8 hW8 hz8 => ?_))
          have hH8 := RH_wi hH7 hz8.1 (fun y q => by omega) (List.prefix_refl T7) hW8
          have hC8 := CK_cls hC7 hz8 (fun y q => by omega)
          have hd6 := (rb_in (hH2.2.2.2.2.1.2.2.1 6 (by decide)))
          have hf8 : fr (fun y => ¬ F y) B B8 := fr_trans (fr_trans (fr_trans (fr_trans (fr_trans (fr_trans hf2 (fr_mono (fun y q => q.elim (nF_tcs hC2) (fun q => nF_lo hC (by omega))) hz3.1)) hf4) (fr_mono (fun y q => nF_tcs hC4 q) (fz_te hx5.2.2.2).1)) (fr_mono (fun y q => nF_tcs hC5 q) hz6.1)) (fr_mono (fun y q => q.elim (nF_tcs hC6) (fun q => nF_lo hC (by omega))) hz7.1)) (fr_mono (fun y q => nF_lo hC (by omega)) hz8.1)
          have hpT : T <+: T7 := (((hp3.trans hp4).trans hx5.1).trans hp6).trans hp7
          show bm_G _ _ _ 120 _ [] B8 _
          refine g_ald (pc' := 121) cd_Ho_post rfl (Or.inr ⟨_, rfl, rfl, rfl⟩) l0 rfl rfl ?_
          refine g_ild (pc' := 122) cd_Ho_post rfl (Or.inr ⟨_, rfl, rfl, rfl⟩) l1 rfl ?_
          refine g_calli (pc' := 125) cd_Ho_post rfl rfl rfl rfl rfl (tm_invV rfl rfl cd_Ho_finish rfl (Nat.le_of_ble_eq_true rfl) (by decide) hH8.1.1.1 hH8.1.1.2) (t_finish hC8 hH8 hs hst (by rw [fset_same]; exact hen c45) (fun B9 ho hC9 hH9 hz9 => ?_) (fun B9 ho hC9 hH9 hz9 => ?_))
          · skip
            rw [fset_same] at ho hH9
            show bm_G _ _ _ 125 _ [.int 0] B9 _
            refine g_if1 (t := 131) (pc' := 128) cd_Ho_post rfl rfl rfl (fun c125 => ?_) (fun c125 => ?_)
            · exact absurd (show ¬ (0 : Int32) = 0 from c125) (by decide)
            · have c125 : (0 : Int32) = 0 := Classical.not_not.mp c125
              refine g_k2 (v := (-4)) (pc' := 130) cd_Ho_post rfl (by decide) rfl ?_
              exact g_reti cd_Ho_post rfl ⟨_, rfl, (k0 B9 T7 _ ca1 rm1 kc kl rk _ hpT (by omega) c45 ho hC9 hH9 (fr_trans hf8 (fr_mono (fun y q => nF_lo hC (by omega)) hz9.1)))⟩
          · skip
            rw [fset_same] at ho hH9
            rw [fset_same]
            have hM9 := mem_sw hC9 hH9 hs hg
            rw [show fset (po_hand id ids s g se me dir dr).2.1 g (mm_posted ((po_hand id ids s g se me dir dr).2.1 g)) g = mm_posted ((po_hand id ids s g se me dir dr).2.1 g) from fset_same _ _ _] at hM9
            obtain ⟨ve, ma, go, ge, ch, si, ix, ga, sl, gv, eM⟩ : ∃ a1 a2 a3 a4 a5 a6 a7 a8 a9 a10, (po_hand id ids s g se me dir dr).2.1 g = (a1, a2, a3, a4, a5, a6, a7, a8, a9, a10) := ⟨_, _, _, _, _, _, _, _, _, _, rfl⟩
            have hM9' := hM9
            rw [eM] at hM9'
            show bm_G _ _ _ 125 _ [.int (bz (decide ((st_commit p0 P c (dv_en (id, K0, K1, on, lnu, (po_hand id ids s g se me dir dr).1, fset (po_hand id ids s g se me dir dr).2.1 g (mm_posted ((po_hand id ids s g se me dir dr).2.1 g))))).1 = 2)))] B9 _
            refine g_if1 (t := 131) (pc' := 128) cd_Ho_post rfl rfl rfl (fun c125 => ?_) (fun c125 => ?_)
            · have c125 : (decide ((st_commit p0 P c (dv_en (id, K0, K1, on, lnu, (po_hand id ids s g se me dir dr).1, fset (po_hand id ids s g se me dir dr).2.1 g (mm_posted ((po_hand id ids s g se me dir dr).2.1 g))))).1 = 2)) = true := bz_t c125
              refine g_ald (pc' := 132) cd_Ho_post rfl (Or.inr ⟨_, rfl, rfl, rfl⟩) l0 rfl rfl ?_
              refine g_fR (c := 11) (k := 2) (x := 8) (pc' := 135) cd_Ho_post rfl rfl rfl rfl rfl (by decide) hH9.1.1.1 hH9.1.1.2 hH9.1.2.1.2.2.1 ?_
              refine g_ald (pc' := 136) cd_Ho_post rfl (Or.inr ⟨_, rfl, rfl, rfl⟩) l0 rfl rfl ?_
              refine g_fR (c := 11) (k := 1) (x := 5) (pc' := 139) cd_Ho_post rfl rfl rfl rfl rfl (by decide) hH9.1.1.1 hH9.1.1.2 hH9.1.2.1.2.1 ?_
              refine g_ald (pc' := 140) cd_Ho_post rfl (Or.inr ⟨_, rfl, rfl, rfl⟩) l0 rfl rfl ?_
              refine g_fR (c := 11) (k := 3) (x := 11) (pc' := 143) cd_Ho_post rfl rfl rfl rfl rfl (by decide) hH9.1.1.1 hH9.1.1.2 hH9.1.2.1.2.2.2.1 ?_
              refine g_ald (pc' := 144) cd_Ho_post rfl (Or.inr ⟨_, rfl, rfl, rfl⟩) l0 rfl rfl ?_
              refine g_fR (c := 11) (k := 0) (x := 1) (pc' := 147) cd_Ho_post rfl rfl rfl rfl rfl (by decide) hH9.1.1.1 hH9.1.1.2 hH9.1.2.1.1 ?_
              refine g_ild (pc' := 149) cd_Ho_post rfl (Or.inl ⟨rfl, rfl⟩) l5 rfl ?_
              refine g_ild (pc' := 150) cd_Ho_post rfl (Or.inr ⟨_, rfl, rfl, rfl⟩) l1 rfl ?_
              refine g_ild (pc' := 151) cd_Ho_post rfl (Or.inr ⟨_, rfl, rfl, rfl⟩) l2 rfl ?_
              refine g_ald (pc' := 153) cd_Ho_post rfl (Or.inl ⟨rfl, rfl⟩) l4 rfl rfl ?_
              refine g_fI (c := 5) (k := 3) (x := (((po_hand id ids s g se me dir dr).2.1 g).2.1)) (pc' := 156) cd_Ho_post rfl rfl rfl rfl rfl (by decide) hM9.1.1.1 hM9.1.1.2 (by rw [eM]; exact hM9'.2.1.1.2.1) ?_
              have ht9 : tv T7 r5 (Tsec (nI (po_hand id ids s g se me dir dr).2.2.2.1) (nI s) 0) := tv_mono (hp6.trans hp7) ht5
              refine g_calli (pc' := 159) cd_Ho_post rfl rfl rfl rfl rfl (tm_invV rfl rfl cd_Le_addPosted rfl (Nat.le_of_ble_eq_true rfl) (by decide) hH9.2.2.1.1.1.1 hH9.2.2.1.1.1.2) (t_addPosted hC9.1 hC9.2.2.2.2.2.1 hH9.2.2.1 hL ht9 rfl (by omega) (fun BA hLA hzA => ?_))
              have hHA := RH_le hH9 hzA.1 (fun y q => by unfold lex; omega) (List.prefix_refl T7) hLA
              have hCA := CK_cls hC9 hzA (fun y q => by unfold lex at q; omega)
              show bm_G _ _ _ 159 _ [.int (nI L.length), .ref 5, .ref 8] BA _
              refine g_calli (pc' := 162) cd_Ho_post rfl rfl rfl rfl rfl (tm_invV rfl rfl cd_Wi_tell rfl (Nat.le_of_ble_eq_true rfl) (by decide) hHA.2.1.1.1.1 hHA.2.1.1.1.2) (t_Wtell hCA hHA.2.1 (fun BB kcB klB rkB hCB hWB hfB => ?_))
              have hHB := RH_wi hHA hfB (fun y q r => by unfold xw xc at r; omega) (List.prefix_refl T7) hWB
              show bm_G _ _ _ 162 _ [.int (nI (ws.length + (po_hand id ids s g se me dir dr).2.2.2.2.length))] BB _
              exact g_reti cd_Ho_post rfl ⟨_, rfl, (k2 BB T7 _ ca1 rm1 kcB klB rkB _ hpT (by omega) c45 (of_decide_eq_true c125) hCB hHB (fr_trans (fr_trans (fr_trans hf8 (fr_mono (fun y q => nF_lo hC (by omega)) hz9.1)) (fr_mono (fun y q => nF_lo hC (by unfold lex at q; omega)) hzA.1)) (fr_mono (fun y q => q.elim (nF_xc hC) (fun q => nF_lo hC (by omega))) hfB)))⟩
            · have c125 : (decide ((st_commit p0 P c (dv_en (id, K0, K1, on, lnu, (po_hand id ids s g se me dir dr).1, fset (po_hand id ids s g se me dir dr).2.1 g (mm_posted ((po_hand id ids s g se me dir dr).2.1 g))))).1 = 2)) = false := bz_f (Classical.not_not.mp c125)
              refine g_k2 (v := (-4)) (pc' := 130) cd_Ho_post rfl (by decide) rfl ?_
              have ho1 : (st_commit p0 P c (dv_en (id, K0, K1, on, lnu, (po_hand id ids s g se me dir dr).1, fset (po_hand id ids s g se me dir dr).2.1 g (mm_posted ((po_hand id ids s g se me dir dr).2.1 g))))).1 = 1 := by have := st_commit_le (p := p0) (P := P) (c := c) (W := dv_en (id, K0, K1, on, lnu, (po_hand id ids s g se me dir dr).1, fset (po_hand id ids s g se me dir dr).2.1 g (mm_posted ((po_hand id ids s g se me dir dr).2.1 g)))); have q2 := of_decide_eq_false c125; omega
              exact g_reti cd_Ho_post rfl ⟨_, rfl, (k1 B9 T7 _ ca1 rm1 kc kl rk _ hpT (by omega) c45 ho1 hC9 hH9 (fr_trans hf8 (fr_mono (fun y q => nF_lo hC (by omega)) hz9.1)))⟩
        · have c45 : ((me g).1) = 0 := Classical.not_not.mp c45
          refine g_k2 (v := (-6)) (pc' := 50) cd_Ho_post rfl (by decide) rfl ?_
          exact g_reti cd_Ho_post rfl ⟨_, rfl, (kN B1 _ ca1 rm1 c45 hC1 hH1 hf1n)⟩
      · exact absurd (show ¬ (0 : Int32) = 0 from c26) (by decide)
