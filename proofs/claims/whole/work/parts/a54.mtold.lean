/-! The reference: device, session, group -/
set_option maxRecDepth 100000 in
theorem mo_device {sc : tm_X} {d : Nat} {f : Nat → Int32} {A : Nat → Nat → Int32} {T : List Tm} {DL : List (Int32 × Int32)} {G Kw : Tm → Prop} {dev : Nat → DV} {sto : Nat → ST} {ws : List (Tm × Int32)} {dir reg : Nat → Tm} {seen : List Tm} {ls : List RL} {lo dt db rt fl ll tl tf tg tm : Nat → Int32} {ck fo du : Int32} {id : Tm} {K0 K1 : PK} {on : List (Tm × Int32)} {lnu : Int32} {se : Nat → List SS} {me : Nat → MM} {p : Nat} {x : Int32} {p0 dn : Bool} {P O : EN2} {c : Option Nat} {Q : Int32 → MS → Prop} (hM : MT f A T DL G Kw) (hS : RS f A T DL dev sto ws dir reg seen ls lo (dt, db, rt, fl, ll, tl, tf, tg, tm, ck, fo, du)) (hp : p < 6) (eD : dev p = (id, K0, K1, on, lnu, se, me)) (hst : sto p = (p0, P, O, c, dn)) (hz0 : K0.1 = tz ↔ K0.2.1 = 0) (hz1 : K1.1 = tz ↔ K1.2.1 = 0) (hP : P.length = (dv_en (id, K0, K1, on, lnu, se, me)).length) (kk : ∀ f1 A1, MT f1 A1 T DL G Kw → f1 16 = f 16 → RS f1 A1 T DL dev sto ws dir reg seen ls lo (dt, db, rt, fl, ll, tl, tf, tg, tm, ck, fo, du) → Q (dv_spec (dev p) (sto p) x) (f1, A1)) : mGi sc (d + 4) 279 [.ref 1482, .int (nI p), .int x] (f, A) Q := by
  have h11 : f 11 = nI DL.length := hS.2.2.2.1.1
  have h21 : f 21 = ck := hS.2.2.2.1.2.1
  have hdv := hS.1.2.1 p hp
  rw [eD] at hdv
  have hq0 := hS.1.2.2 p hp
  have hq1 := hq0
  rw [hst] at hq0
  have hid : tv T (A 16 p) id := by have q := hS.1.1 p hp; rw [eD] at q; exact q
  have hP5 : P.length ≤ 536 := hq0.2.1.1.2.1
  rw [eD, hst] at kk
  show mg sc (d + 4) 279 0 [(0, .ref 1482), (1, .int (nI p)), (2, .int x)] [] (f, A) _
  generalize elv : ([(0, .ref 1482), (1, .int (nI p)), (2, .int x)] : tm_L) = lv
  have l0 : lv.lookup 0 = some (.ref 1482) := by rw [← elv]; rfl
  have l1 : lv.lookup 1 = some (.int (nI p)) := by rw [← elv]; rfl
  have l2 : lv.lookup 2 = some (.int x) := by rw [← elv]; rfl
  clear elv
  refine m_ild (pc' := 1) cd_Mo_device rfl (Or.inr ⟨_, rfl, rfl, rfl⟩) l1 rfl ?_
  refine m_si (pc' := 4) cd_Mo_device rfl rfl rfl rfl rfl cd_Mo_isDevice rfl (Nat.le_of_ble_eq_true rfl) (m_isDev1 hp ?_)
  show mg _ _ _ 4 _ [.int 1] _ _
  refine m_if1 (t := 9) (pc' := 7) cd_Mo_device rfl rfl rfl (fun c4 => ?_) (fun c4 => ?_)
  · have c4 : ¬ (1 : Int32) = 0 := c4
    refine m_ald (pc' := 10) cd_Mo_device rfl (Or.inr ⟨_, rfl, rfl, rfl⟩) l0 rfl rfl ?_
    refine m_ild (pc' := 11) cd_Mo_device rfl (Or.inr ⟨_, rfl, rfl, rfl⟩) l1 rfl ?_
    refine m_cv (pc' := 14) cd_Mo_device rfl rfl rfl rfl rfl cd_Mo_load rfl (Nat.le_of_ble_eq_true rfl) (m_load hp (fun gw hgw => ?_))
    have hDw : qDv gw T (id, K0, K1, on, lnu, se, me) := qDv_c (List.prefix_refl T) hgw hdv
    show mg _ _ _ 14 _ [] _ _
    refine m_ild (pc' := 15) cd_Mo_device rfl (Or.inr ⟨_, rfl, rfl, rfl⟩) l2 rfl ?_
    by_cases s15_0 : x = 0
    · skip
      refine m_swk (pc' := 60) s15_0 cd_Mo_device rfl rfl (fun _ _ => rfl) ?_
      refine m_ald (pc' := 61) cd_Mo_device rfl (Or.inr ⟨_, rfl, rfl, rfl⟩) l0 rfl rfl ?_
      refine m_fR (r := 14) (a := 15) (ad := 1497) (pc' := 64) rfl rfl cd_Mo_device rfl rfl rfl rfl rfl ?_
      refine m_k1 (v := 1) (pc' := 65) cd_Mo_device rfl (by decide) rfl ?_
      refine m_aI (r := 14) (a := 15) (g := gw) (x := K0.2.1) (pc' := 66) rfl rfl cd_Mo_device rfl rfl rfl (vp_in_nI (n := 1) (by decide) (by decide)) ((congrArg gw (show (1 : Int32).toNatClampNeg = 1 by decide)).trans hDw.1.1.1.2.1) ?_
      unfold dv_spec at kk
      dsimp only at kk
      rw [if_pos s15_0] at kk
      exact m_reti cd_Mo_device rfl ⟨_, rfl, (kk _ _ (by exact MT_i hM rfl rfl rfl rfl rfl rfl rfl rfl rfl rfl) rfl (RS_p hS (List.prefix_refl T) h11 h21 ⟨rfl, rfl, rfl, rfl, rfl⟩ ⟨rfl, rfl, rfl, rfl, rfl, rfl, rfl, rfl, rfl, rfl, rfl, rfl, rfl, rfl, rfl, rfl, rfl, rfl, rfl, rfl, rfl, rfl, rfl, rfl, rfl, rfl, rfl⟩ (hS.2.1.2.1) hS.2.2.2.2.1.1 hS.2.2.2.2.1.2.1 hS.2.2.2.2.1.2.2 hS.2.2.1.2))⟩
    by_cases s15_1 : x = 1
    · skip
      refine m_swk (pc' := 67) s15_1 cd_Mo_device rfl rfl (fun _ _ => rfl) ?_
      refine m_ald (pc' := 68) cd_Mo_device rfl (Or.inr ⟨_, rfl, rfl, rfl⟩) l0 rfl rfl ?_
      refine m_fR (r := 14) (a := 15) (ad := 1497) (pc' := 71) rfl rfl cd_Mo_device rfl rfl rfl rfl rfl ?_
      refine m_k2 (v := 8) (pc' := 73) cd_Mo_device rfl (by decide) rfl ?_
      refine m_aI (r := 14) (a := 15) (g := gw) (x := K1.2.1) (pc' := 74) rfl rfl cd_Mo_device rfl rfl rfl (vp_in_nI (n := 8) (by decide) (by decide)) ((congrArg gw (show (8 : Int32).toNatClampNeg = 8 by decide)).trans hDw.1.2.1.2.1) ?_
      unfold dv_spec at kk
      dsimp only at kk
      rw [if_neg s15_0, if_pos s15_1] at kk
      exact m_reti cd_Mo_device rfl ⟨_, rfl, (kk _ _ (by exact MT_i hM rfl rfl rfl rfl rfl rfl rfl rfl rfl rfl) rfl (RS_p hS (List.prefix_refl T) h11 h21 ⟨rfl, rfl, rfl, rfl, rfl⟩ ⟨rfl, rfl, rfl, rfl, rfl, rfl, rfl, rfl, rfl, rfl, rfl, rfl, rfl, rfl, rfl, rfl, rfl, rfl, rfl, rfl, rfl, rfl, rfl, rfl, rfl, rfl, rfl⟩ (hS.2.1.2.1) hS.2.2.2.2.1.1 hS.2.2.2.2.1.2.1 hS.2.2.2.2.1.2.2 hS.2.2.1.2))⟩
    by_cases s15_2 : x = 2
    · skip
      refine m_swk (pc' := 75) s15_2 cd_Mo_device rfl rfl (fun _ _ => rfl) ?_
      refine m_ald (pc' := 76) cd_Mo_device rfl (Or.inr ⟨_, rfl, rfl, rfl⟩) l0 rfl rfl ?_
      refine m_fR (r := 14) (a := 15) (ad := 1497) (pc' := 79) rfl rfl cd_Mo_device rfl rfl rfl rfl rfl ?_
      refine m_k2 (v := 14) (pc' := 81) cd_Mo_device rfl (by decide) rfl ?_
      refine m_aI (r := 14) (a := 15) (g := gw) (x := (nI on.length)) (pc' := 82) rfl rfl cd_Mo_device rfl rfl rfl (vp_in_nI (n := 14) (by decide) (by decide)) ((congrArg gw (show (14 : Int32).toNatClampNeg = 14 by decide)).trans hDw.2.1.1.1.1) ?_
      unfold dv_spec at kk
      dsimp only at kk
      rw [if_neg s15_0, if_neg s15_1, if_pos s15_2] at kk
      exact m_reti cd_Mo_device rfl ⟨_, rfl, (kk _ _ (by exact MT_i hM rfl rfl rfl rfl rfl rfl rfl rfl rfl rfl) rfl (RS_p hS (List.prefix_refl T) h11 h21 ⟨rfl, rfl, rfl, rfl, rfl⟩ ⟨rfl, rfl, rfl, rfl, rfl, rfl, rfl, rfl, rfl, rfl, rfl, rfl, rfl, rfl, rfl, rfl, rfl, rfl, rfl, rfl, rfl, rfl, rfl, rfl, rfl, rfl, rfl⟩ (hS.2.1.2.1) hS.2.2.2.2.1.1 hS.2.2.2.2.1.2.1 hS.2.2.2.2.1.2.2 hS.2.2.1.2))⟩
    by_cases s15_3 : x = 3
    · skip
      refine m_swk (pc' := 83) s15_3 cd_Mo_device rfl rfl (fun _ _ => rfl) ?_
      refine m_ald (pc' := 84) cd_Mo_device rfl (Or.inr ⟨_, rfl, rfl, rfl⟩) l0 rfl rfl ?_
      refine m_fR (r := 14) (a := 15) (ad := 1497) (pc' := 87) rfl rfl cd_Mo_device rfl rfl rfl rfl rfl ?_
      refine m_k1 (v := 2) (pc' := 88) cd_Mo_device rfl (by decide) rfl ?_
      refine m_aI (r := 14) (a := 15) (g := gw) (x := (nI K0.2.2.length)) (pc' := 89) rfl rfl cd_Mo_device rfl rfl rfl (vp_in_nI (n := 2) (by decide) (by decide)) ((congrArg gw (show (2 : Int32).toNatClampNeg = 2 by decide)).trans hDw.1.1.1.2.2.1) ?_
      unfold dv_spec at kk
      dsimp only at kk
      rw [if_neg s15_0, if_neg s15_1, if_neg s15_2, if_pos s15_3] at kk
      exact m_reti cd_Mo_device rfl ⟨_, rfl, (kk _ _ (by exact MT_i hM rfl rfl rfl rfl rfl rfl rfl rfl rfl rfl) rfl (RS_p hS (List.prefix_refl T) h11 h21 ⟨rfl, rfl, rfl, rfl, rfl⟩ ⟨rfl, rfl, rfl, rfl, rfl, rfl, rfl, rfl, rfl, rfl, rfl, rfl, rfl, rfl, rfl, rfl, rfl, rfl, rfl, rfl, rfl, rfl, rfl, rfl, rfl, rfl, rfl⟩ (hS.2.1.2.1) hS.2.2.2.2.1.1 hS.2.2.2.2.1.2.1 hS.2.2.2.2.1.2.2 hS.2.2.1.2))⟩
    by_cases s15_4 : x = 4
    · skip
      refine m_swk (pc' := 90) s15_4 cd_Mo_device rfl rfl (fun _ _ => rfl) ?_
      refine m_ald (pc' := 91) cd_Mo_device rfl (Or.inr ⟨_, rfl, rfl, rfl⟩) l0 rfl rfl ?_
      refine m_ild (pc' := 92) cd_Mo_device rfl (Or.inr ⟨_, rfl, rfl, rfl⟩) l1 rfl ?_
      refine m_cv (pc' := 95) cd_Mo_device rfl rfl rfl rfl rfl cd_Mo_list rfl (Nat.le_of_ble_eq_true rfl) (m_list (f := fset (fset f 30 0) 32 0) (A := fset A 15 gw) (by exact MT_i hM rfl rfl rfl rfl rfl rfl rfl rfl rfl rfl) hp hid hDw hz0 hz1 (by omega) (fun g hE => ?_))
      show mg _ _ _ 95 _ [] _ _
      refine m_ald (pc' := 96) cd_Mo_device rfl (Or.inr ⟨_, rfl, rfl, rfl⟩) l0 rfl rfl ?_
      refine m_fI (k := 38) (x := (nI (dv_en (id, K0, K1, on, lnu, se, me)).length)) (pc' := 99) cd_Mo_device rfl rfl rfl rfl rfl rfl ?_
      unfold dv_spec at kk
      dsimp only at kk
      rw [if_neg s15_0, if_neg s15_1, if_neg s15_2, if_neg s15_3, if_pos s15_4, hP] at kk
      exact m_reti cd_Mo_device rfl ⟨_, rfl, (kk _ _ (by exact MT_i hM rfl rfl rfl rfl rfl rfl rfl rfl rfl rfl) rfl (RS_p hS (List.prefix_refl T) h11 h21 ⟨rfl, rfl, rfl, rfl, rfl⟩ ⟨rfl, rfl, rfl, rfl, rfl, rfl, rfl, rfl, rfl, rfl, rfl, rfl, rfl, rfl, rfl, rfl, rfl, rfl, rfl, rfl, rfl, rfl, rfl, rfl, rfl, rfl, rfl⟩ (hS.2.1.2.1) hS.2.2.2.2.1.1 hS.2.2.2.2.1.2.1 hS.2.2.2.2.1.2.2 hS.2.2.1.2))⟩
    by_cases s15_5 : x = 5
    · skip
      refine m_swk (pc' := 100) s15_5 cd_Mo_device rfl rfl (fun _ _ => rfl) ?_
      refine m_ald (pc' := 101) cd_Mo_device rfl (Or.inr ⟨_, rfl, rfl, rfl⟩) l0 rfl rfl ?_
      refine m_ild (pc' := 102) cd_Mo_device rfl (Or.inr ⟨_, rfl, rfl, rfl⟩) l1 rfl ?_
      refine m_k1 (v := 0) (pc' := 103) cd_Mo_device rfl (by decide) rfl ?_
      refine m_ci (pc' := 106) cd_Mo_device rfl rfl rfl rfl rfl cd_Mo_lying rfl (Nat.le_of_ble_eq_true rfl) (m_lying0 (S := (p0, P, O, c, dn)) (by exact MT_i hM rfl rfl rfl rfl rfl rfl rfl rfl rfl rfl) hp (qSt_c (List.prefix_refl T) rfl rfl rfl (fun _ _ => rfl) (fun _ _ _ _ => rfl) (fun _ _ _ _ => rfl) hq0) ?_)
      show mg _ _ _ 106 _ [.int (nI (st_terms (p0, P, O, c, dn)).length)] _ _
      unfold dv_spec at kk
      dsimp only at kk
      rw [if_neg s15_0, if_neg s15_1, if_neg s15_2, if_neg s15_3, if_neg s15_4, if_pos s15_5] at kk
      exact m_reti cd_Mo_device rfl ⟨_, rfl, (kk _ _ (by exact MT_i hM rfl rfl rfl rfl rfl rfl rfl rfl rfl rfl) rfl (RS_p hS (List.prefix_refl T) h11 h21 ⟨rfl, rfl, rfl, rfl, rfl⟩ ⟨rfl, rfl, rfl, rfl, rfl, rfl, rfl, rfl, rfl, rfl, rfl, rfl, rfl, rfl, rfl, rfl, rfl, rfl, rfl, rfl, rfl, rfl, rfl, rfl, rfl, rfl, rfl⟩ (hS.2.1.2.1) hS.2.2.2.2.1.1 hS.2.2.2.2.1.2.1 hS.2.2.2.2.1.2.2 hS.2.2.1.2))⟩
    by_cases s15_6 : x = 6
    · skip
      refine m_swk (pc' := 107) s15_6 cd_Mo_device rfl rfl (fun _ _ => rfl) ?_
      refine m_ald (pc' := 108) cd_Mo_device rfl (Or.inr ⟨_, rfl, rfl, rfl⟩) l0 rfl rfl ?_
      refine m_fR (r := 20) (a := 21) (ad := 1503) (pc' := 111) rfl rfl cd_Mo_device rfl rfl rfl rfl rfl ?_
      refine m_ild (pc' := 112) cd_Mo_device rfl (Or.inr ⟨_, rfl, rfl, rfl⟩) l1 rfl ?_
      refine m_aI (r := 20) (a := 21) (g := (A 21)) (x := (bz p0)) (pc' := 113) rfl rfl cd_Mo_device rfl rfl rfl (vp_in_nI (by omega) (by decide)) ((congrArg (A 21) (nI_clamp (by omega))).trans hq0.1.1) ?_
      unfold dv_spec at kk
      dsimp only at kk
      rw [if_neg s15_0, if_neg s15_1, if_neg s15_2, if_neg s15_3, if_neg s15_4, if_neg s15_5, if_pos s15_6] at kk
      exact m_reti cd_Mo_device rfl ⟨_, rfl, (kk _ _ (by exact MT_i hM rfl rfl rfl rfl rfl rfl rfl rfl rfl rfl) rfl (RS_p hS (List.prefix_refl T) h11 h21 ⟨rfl, rfl, rfl, rfl, rfl⟩ ⟨rfl, rfl, rfl, rfl, rfl, rfl, rfl, rfl, rfl, rfl, rfl, rfl, rfl, rfl, rfl, rfl, rfl, rfl, rfl, rfl, rfl, rfl, rfl, rfl, rfl, rfl, rfl⟩ (hS.2.1.2.1) hS.2.2.2.2.1.1 hS.2.2.2.2.1.2.1 hS.2.2.2.2.1.2.2 hS.2.2.1.2))⟩
    by_cases s15_7 : x = 7
    · skip
      refine m_swk (pc' := 114) s15_7 cd_Mo_device rfl rfl (fun _ _ => rfl) ?_
      refine m_ald (pc' := 115) cd_Mo_device rfl (Or.inr ⟨_, rfl, rfl, rfl⟩) l0 rfl rfl ?_
      refine m_fR (r := 21) (a := 22) (ad := 1504) (pc' := 118) rfl rfl cd_Mo_device rfl rfl rfl rfl rfl ?_
      refine m_ild (pc' := 119) cd_Mo_device rfl (Or.inr ⟨_, rfl, rfl, rfl⟩) l1 rfl ?_
      refine m_bI (r := 21) (a := 22) (g := (A 22)) (x := bz dn) (pc' := 120) rfl rfl cd_Mo_device rfl rfl rfl (vp_in_nI (by omega) (by decide)) ((congrArg (A 22) (nI_clamp (by omega))).trans hq0.1.2.2.1) ?_
      refine m_if1 (t := 127) (pc' := 123) cd_Mo_device rfl rfl rfl (fun c120 => ?_) (fun c120 => ?_)
      · have c120 : dn = false := bz_f c120
        refine m_k1 (v := 0) (pc' := 128) cd_Mo_device rfl (by decide) rfl ?_
        unfold dv_spec at kk
        dsimp only at kk
        rw [if_neg s15_0, if_neg s15_1, if_neg s15_2, if_neg s15_3, if_neg s15_4, if_neg s15_5, if_neg s15_6, if_pos s15_7, c120] at kk
        exact m_reti cd_Mo_device rfl ⟨_, rfl, (kk _ _ (by exact MT_i hM rfl rfl rfl rfl rfl rfl rfl rfl rfl rfl) rfl (RS_p hS (List.prefix_refl T) h11 h21 ⟨rfl, rfl, rfl, rfl, rfl⟩ ⟨rfl, rfl, rfl, rfl, rfl, rfl, rfl, rfl, rfl, rfl, rfl, rfl, rfl, rfl, rfl, rfl, rfl, rfl, rfl, rfl, rfl, rfl, rfl, rfl, rfl, rfl, rfl⟩ (hS.2.1.2.1) hS.2.2.2.2.1.1 hS.2.2.2.2.1.2.1 hS.2.2.2.2.1.2.2 hS.2.2.1.2))⟩
      · have c120 : dn = true := bz_t c120
        refine m_k1 (v := 1) (pc' := 124) cd_Mo_device rfl (by decide) rfl ?_
        refine m_pure (pc' := 128) (st' := [.int 1]) cd_Mo_device rfl rfl (fun _ _ => rfl) ?_
        unfold dv_spec at kk
        dsimp only at kk
        rw [if_neg s15_0, if_neg s15_1, if_neg s15_2, if_neg s15_3, if_neg s15_4, if_neg s15_5, if_neg s15_6, if_pos s15_7, c120] at kk
        exact m_reti cd_Mo_device rfl ⟨_, rfl, (kk _ _ (by exact MT_i hM rfl rfl rfl rfl rfl rfl rfl rfl rfl rfl) rfl (RS_p hS (List.prefix_refl T) h11 h21 ⟨rfl, rfl, rfl, rfl, rfl⟩ ⟨rfl, rfl, rfl, rfl, rfl, rfl, rfl, rfl, rfl, rfl, rfl, rfl, rfl, rfl, rfl, rfl, rfl, rfl, rfl, rfl, rfl, rfl, rfl, rfl, rfl, rfl, rfl⟩ (hS.2.1.2.1) hS.2.2.2.2.1.1 hS.2.2.2.2.1.2.1 hS.2.2.2.2.1.2.2 hS.2.2.1.2))⟩
    refine m_swd (t := 129) cd_Mo_device rfl rfl (by have := i32_ne (n := 0) (by decide) s15_0; have := i32_ne (n := 1) (by decide) s15_1; have := i32_ne (n := 2) (by decide) s15_2; have := i32_ne (n := 3) (by decide) s15_3; have := i32_ne (n := 4) (by decide) s15_4; have := i32_ne (n := 5) (by decide) s15_5; have := i32_ne (n := 6) (by decide) s15_6; have := i32_ne (n := 7) (by decide) s15_7; omega) ?_
    refine m_k1 (v := (-1)) (pc' := 130) cd_Mo_device rfl (by decide) rfl ?_
    unfold dv_spec at kk
    dsimp only at kk
    rw [if_neg s15_0, if_neg s15_1, if_neg s15_2, if_neg s15_3, if_neg s15_4, if_neg s15_5, if_neg s15_6, if_neg s15_7] at kk
    exact m_reti cd_Mo_device rfl ⟨_, rfl, (kk _ _ (by exact MT_i hM rfl rfl rfl rfl rfl rfl rfl rfl rfl rfl) rfl (RS_p hS (List.prefix_refl T) h11 h21 ⟨rfl, rfl, rfl, rfl, rfl⟩ ⟨rfl, rfl, rfl, rfl, rfl, rfl, rfl, rfl, rfl, rfl, rfl, rfl, rfl, rfl, rfl, rfl, rfl, rfl, rfl, rfl, rfl, rfl, rfl, rfl, rfl, rfl, rfl⟩ (hS.2.1.2.1) hS.2.2.2.2.1.1 hS.2.2.2.2.1.2.1 hS.2.2.2.2.1.2.2 hS.2.2.1.2))⟩
  · exact absurd (show ¬ (¬ (1 : Int32) = 0) from c4) (by decide)
set_option maxRecDepth 100000 in
theorem mo_deviceB {sc : tm_X} {d : Nat} {f : Nat → Int32} {A : Nat → Nat → Int32} {x y : Int32} {Q : Int32 → MS → Prop} (hB : inR x 6 = false) (kk : Q (-1) (f, A)) : mGi sc (d + 2) 279 [.ref 1482, .int x, .int y] (f, A) Q := by
  show mg sc (d + 2) 279 0 [(0, .ref 1482), (1, .int x), (2, .int y)] [] (f, A) _
  generalize elv : ([(0, .ref 1482), (1, .int x), (2, .int y)] : tm_L) = lv
  have l0 : lv.lookup 0 = some (.ref 1482) := by rw [← elv]; rfl
  have l1 : lv.lookup 1 = some (.int x) := by rw [← elv]; rfl
  have l2 : lv.lookup 2 = some (.int y) := by rw [← elv]; rfl
  clear elv
  refine m_ild (pc' := 1) cd_Mo_device rfl (Or.inr ⟨_, rfl, rfl, rfl⟩) l1 rfl ?_
  refine m_si (pc' := 4) cd_Mo_device rfl rfl rfl rfl rfl cd_Mo_isDevice rfl (Nat.le_of_ble_eq_true rfl) (m_isDevice ?_)
  show mg _ _ _ 4 _ [.int (bz (inR x 6))] _ _
  refine m_if1 (t := 9) (pc' := 7) cd_Mo_device rfl rfl rfl (fun c4 => ?_) (fun c4 => ?_)
  · have c4 : (inR x 6) = true := bz_t c4
    exact absurd (c4.symm.trans hB) (by decide)
  · have c4 : (inR x 6) = false := bz_f (Classical.not_not.mp c4)
    refine m_k1 (v := (-1)) (pc' := 8) cd_Mo_device rfl (by decide) rfl ?_
    exact m_reti cd_Mo_device rfl ⟨_, rfl, kk⟩
set_option maxRecDepth 100000 in
theorem mo_sessionB {sc : tm_X} {d : Nat} {f : Nat → Int32} {A : Nat → Nat → Int32} {x y k z : Int32} {Q : Int32 → MS → Prop} (hB : inR x 6 = false ∨ inR y 6 = false) (kk : Q (-1) (f, A)) : mGi sc (d + 2) 280 [.ref 1482, .int x, .int y, .int k, .int z] (f, A) Q := by
  show mg sc (d + 2) 280 0 [(0, .ref 1482), (1, .int x), (2, .int y), (3, .int k), (4, .int z)] [] (f, A) _
  generalize elv : ([(0, .ref 1482), (1, .int x), (2, .int y), (3, .int k), (4, .int z)] : tm_L) = lv
  have l0 : lv.lookup 0 = some (.ref 1482) := by rw [← elv]; rfl
  have l1 : lv.lookup 1 = some (.int x) := by rw [← elv]; rfl
  have l2 : lv.lookup 2 = some (.int y) := by rw [← elv]; rfl
  have l3 : lv.lookup 3 = some (.int k) := by rw [← elv]; rfl
  have l4 : lv.lookup 4 = some (.int z) := by rw [← elv]; rfl
  clear elv
  refine m_ild (pc' := 1) cd_Mo_session rfl (Or.inr ⟨_, rfl, rfl, rfl⟩) l1 rfl ?_
  refine m_si (pc' := 4) cd_Mo_session rfl rfl rfl rfl rfl cd_Mo_isDevice rfl (Nat.le_of_ble_eq_true rfl) (m_isDevice ?_)
  show mg _ _ _ 4 _ [.int (bz (inR x 6))] _ _
  refine m_if1 (t := 23) (pc' := 7) cd_Mo_session rfl rfl rfl (fun c4 => ?_) (fun c4 => ?_)
  · have c4 : (inR x 6) = false := bz_f c4
    refine m_k1 (v := (-1)) (pc' := 24) cd_Mo_session rfl (by decide) rfl ?_
    exact m_reti cd_Mo_session rfl ⟨_, rfl, kk⟩
  · have c4 : (inR x 6) = true := bz_t c4
    refine m_ild (pc' := 8) cd_Mo_session rfl (Or.inr ⟨_, rfl, rfl, rfl⟩) l2 rfl ?_
    refine m_si (pc' := 11) cd_Mo_session rfl rfl rfl rfl rfl cd_Mo_isDevice rfl (Nat.le_of_ble_eq_true rfl) (m_isDevice ?_)
    show mg _ _ _ 11 _ [.int (bz (inR y 6))] _ _
    refine m_if1 (t := 23) (pc' := 14) cd_Mo_session rfl rfl rfl (fun c11 => ?_) (fun c11 => ?_)
    · have c11 : (inR y 6) = false := bz_f c11
      refine m_k1 (v := (-1)) (pc' := 24) cd_Mo_session rfl (by decide) rfl ?_
      exact m_reti cd_Mo_session rfl ⟨_, rfl, kk⟩
    · have c11 : (inR y 6) = true := bz_t c11
      exact absurd hB (fun q => q.elim (fun q => Bool.noConfusion (q.symm.trans c4)) (fun q => Bool.noConfusion (q.symm.trans c11)))
theorem inR_hiL {l : List SS} {k : Int32} (h : l.length ≤ 2) (hk : ¬ k ≤ 1) : inR k (nI l.length) = false := inR_hi (Int32.le_iff_toInt_le.mpr (by have g2 := Int32.lt_iff_toInt_lt.mp (Int32.not_le.mp hk); rw [nI_toInt (by omega)]; have : (1 : Int32).toInt = 1 := rfl; omega))
set_option maxRecDepth 100000 in
theorem mo_session {sc : tm_X} {d : Nat} {f : Nat → Int32} {A : Nat → Nat → Int32} {T : List Tm} {DL : List (Int32 × Int32)} {G Kw : Tm → Prop} {dev : Nat → DV} {sto : Nat → ST} {ws : List (Tm × Int32)} {dir reg : Nat → Tm} {seen : List Tm} {ls : List RL} {lo dt db rt fl ll tl tf tg tm : Nat → Int32} {ck fo du : Int32} {id : Tm} {K0 K1 : PK} {on : List (Tm × Int32)} {lnu : Int32} {se : Nat → List SS} {me : Nat → MM} {s p : Nat} {k z : Int32} {Q : Int32 → MS → Prop} (hM : MT f A T DL G Kw) (hS : RS f A T DL dev sto ws dir reg seen ls lo (dt, db, rt, fl, ll, tl, tf, tg, tm, ck, fo, du)) (hs : s < 6) (hp : p < 6) (eD : dev s = (id, K0, K1, on, lnu, se, me)) (kk : ∀ f1 A1, MT f1 A1 T DL G Kw → f1 16 = f 16 → RS f1 A1 T DL dev sto ws dir reg seen ls lo (dt, db, rt, fl, ll, tl, tf, tg, tm, ck, fo, du) → Q (se_spec (se p) k z) (f1, A1)) : mGi sc (d + 2) 280 [.ref 1482, .int (nI s), .int (nI p), .int k, .int z] (f, A) Q := by
  have h11 : f 11 = nI DL.length := hS.2.2.2.1.1
  have h21 : f 21 = ck := hS.2.2.2.1.2.1
  have hdv := hS.1.2.1 s hs
  rw [eD] at hdv
  have hl2 := (hdv.2.2.1 p hp).1.2
  show mg sc (d + 2) 280 0 [(0, .ref 1482), (1, .int (nI s)), (2, .int (nI p)), (3, .int k), (4, .int z)] [] (f, A) _
  generalize elv : ([(0, .ref 1482), (1, .int (nI s)), (2, .int (nI p)), (3, .int k), (4, .int z)] : tm_L) = lv
  have l0 : lv.lookup 0 = some (.ref 1482) := by rw [← elv]; rfl
  have l1 : lv.lookup 1 = some (.int (nI s)) := by rw [← elv]; rfl
  have l2 : lv.lookup 2 = some (.int (nI p)) := by rw [← elv]; rfl
  have l3 : lv.lookup 3 = some (.int k) := by rw [← elv]; rfl
  have l4 : lv.lookup 4 = some (.int z) := by rw [← elv]; rfl
  clear elv
  refine m_ild (pc' := 1) cd_Mo_session rfl (Or.inr ⟨_, rfl, rfl, rfl⟩) l1 rfl ?_
  refine m_si (pc' := 4) cd_Mo_session rfl rfl rfl rfl rfl cd_Mo_isDevice rfl (Nat.le_of_ble_eq_true rfl) (m_isDev1 hs ?_)
  show mg _ _ _ 4 _ [.int 1] _ _
  refine m_if1 (t := 23) (pc' := 7) cd_Mo_session rfl rfl rfl (fun c4 => ?_) (fun c4 => ?_)
  · exact absurd (show (1 : Int32) = 0 from c4) (by decide)
  · have c4 : ¬ (1 : Int32) = 0 := c4
    refine m_ild (pc' := 8) cd_Mo_session rfl (Or.inr ⟨_, rfl, rfl, rfl⟩) l2 rfl ?_
    refine m_si (pc' := 11) cd_Mo_session rfl rfl rfl rfl rfl cd_Mo_isDevice rfl (Nat.le_of_ble_eq_true rfl) (m_isDev1 hp ?_)
    show mg _ _ _ 11 _ [.int 1] _ _
    refine m_if1 (t := 23) (pc' := 14) cd_Mo_session rfl rfl rfl (fun c11 => ?_) (fun c11 => ?_)
    · exact absurd (show (1 : Int32) = 0 from c11) (by decide)
    · have c11 : ¬ (1 : Int32) = 0 := c11
      refine m_ild (pc' := 15) cd_Mo_session rfl (Or.inr ⟨_, rfl, rfl, rfl⟩) l3 rfl ?_
      refine m_if1 (t := 23) (pc' := 18) cd_Mo_session rfl rfl rfl (fun c15 => ?_) (fun c15 => ?_)
      · have c15 : k < 0 := c15
        refine m_k1 (v := (-1)) (pc' := 24) cd_Mo_session rfl (by decide) rfl ?_
        exact m_reti cd_Mo_session rfl ⟨_, rfl, (by rw [show se_spec (se p) k z = -1 from if_neg (fun q => Bool.noConfusion ((inR_lo c15).symm.trans q))] at kk; exact kk f A hM rfl hS)⟩
      · have c15 : ¬ k < 0 := c15
        refine m_ild (pc' := 19) cd_Mo_session rfl (Or.inr ⟨_, rfl, rfl, rfl⟩) l3 rfl ?_
        refine m_k1 (v := 1) (pc' := 20) cd_Mo_session rfl (by decide) rfl ?_
        refine m_if2 (t := 25) (pc' := 23) cd_Mo_session rfl rfl rfl (fun c20 => ?_) (fun c20 => ?_)
        · have c20 : k ≤ 1 := c20
          have hk2 : inR k 2 = true := inR_le (m := 1) (by decide) c15 c20
          obtain ⟨j, hj, ek⟩ := inR_of (n := 2) (by decide) hk2
          subst ek
          refine m_ald (pc' := 26) cd_Mo_session rfl (Or.inr ⟨_, rfl, rfl, rfl⟩) l0 rfl rfl ?_
          refine m_ild (pc' := 27) cd_Mo_session rfl (Or.inr ⟨_, rfl, rfl, rfl⟩) l1 rfl ?_
          refine m_cv (pc' := 30) cd_Mo_session rfl rfl rfl rfl rfl cd_Mo_load rfl (Nat.le_of_ble_eq_true rfl) (m_load hs (fun gw hgw => ?_))
          have hDw : qDv gw T (id, K0, K1, on, lnu, se, me) := qDv_c (List.prefix_refl T) hgw hdv
          show mg _ _ _ 30 _ [] _ _
          refine m_ild (pc' := 31) cd_Mo_session rfl (Or.inr ⟨_, rfl, rfl, rfl⟩) l3 rfl ?_
          refine m_ald (pc' := 32) cd_Mo_session rfl (Or.inr ⟨_, rfl, rfl, rfl⟩) l0 rfl rfl ?_
          refine m_fR (r := 14) (a := 15) (ad := 1497) (pc' := 35) rfl rfl cd_Mo_session rfl rfl rfl rfl rfl ?_
          refine m_k2 (v := 24) (pc' := 37) cd_Mo_session rfl (by decide) rfl ?_
          refine m_ild (pc' := 38) cd_Mo_session rfl (Or.inr ⟨_, rfl, rfl, rfl⟩) l2 rfl ?_
          refine m_pure (pc' := 39) (st' := [.int ((24 : Int32) + (nI p)), .ref 1497, .int (nI j)]) cd_Mo_session rfl rfl (fun _ _ => rfl) ?_
          refine m_eq (show ((24 : Int32) + (nI p) : Int32) = nI (24 + p) from nI_add 24 p) ?_
          refine m_aI (r := 14) (a := 15) (g := gw) (x := (nI (se p).length)) (pc' := 40) rfl rfl cd_Mo_session rfl rfl rfl (vp_in_nI (by omega) (by decide)) ((congrArg gw (nI_clamp (by omega))).trans (hDw.2.2.1 p hp).1.1) ?_
          refine m_if2 (t := 45) (pc' := 43) cd_Mo_session rfl rfl rfl (fun c40 => ?_) (fun c40 => ?_)
          · have c40 : (nI j) < (nI (se p).length) := c40
            have hjl : j < (se p).length := (nI_ltI (by omega) (by omega)).mp c40
            obtain ⟨S, hSj⟩ : ∃ S, (se p)[j]? = some S := ⟨_, List.getElem?_eq_getElem hjl⟩
            have hq := (hDw.2.2.1 p hp).2 j S hSj
            have hsp : se_spec (se p) (nI j) z = ss_tell S z := (if_pos (inR_nI hjl (by omega))).trans (by rw [nI_clamp (by omega), hSj])
            obtain ⟨⟨th, ch, nx, le⟩, ba, ro, mi, sd, n, b, br, bp, bo, o1⟩ := S
            obtain ⟨⟨a1, a2, a3, a4, a5, a6⟩, ⟨a7, a8, a9⟩, ⟨a10, a11⟩, ⟨a12, a13⟩, a14, a15⟩ := hq
            rw [hsp] at kk
            refine m_ild (pc' := 46) cd_Mo_session rfl (Or.inr ⟨_, rfl, rfl, rfl⟩) l2 rfl ?_
            refine m_ild (pc' := 47) cd_Mo_session rfl (Or.inr ⟨_, rfl, rfl, rfl⟩) l3 rfl ?_
            refine m_si (pc' := 50) cd_Mo_session rfl rfl rfl rfl rfl cd_Mo_sessionAt rfl (Nat.le_of_ble_eq_true rfl) (m_sessionAt ?_)
            show mg _ _ _ 50 _ [.int (nI (30 + (2 * p + j) * 38))] _ _
            refine m_ist (pc' := 52) cd_Mo_session rfl (Or.inl ⟨rfl, rfl⟩) (by decide) rfl (fun lv el => ?_)
            have l0 := tm_lk el l0 rfl (by decide)
            have l1 := tm_lk el l1 rfl (by decide)
            have l2 := tm_lk el l2 rfl (by decide)
            have l3 := tm_lk el l3 rfl (by decide)
            have l4 := tm_lk el l4 rfl (by decide)
            have l5 : lv.lookup 5 = some (.int (nI (30 + (2 * p + j) * 38))) := tm_lks el
            clear el
            refine m_ild (pc' := 54) cd_Mo_session rfl (Or.inl ⟨rfl, rfl⟩) l4 rfl ?_
            by_cases s54_0 : z = 0
            · skip
              refine m_swk (pc' := 96) s54_0 cd_Mo_session rfl rfl (fun _ _ => rfl) ?_
              refine m_ald (pc' := 97) cd_Mo_session rfl (Or.inr ⟨_, rfl, rfl, rfl⟩) l0 rfl rfl ?_
              refine m_fR (r := 14) (a := 15) (ad := 1497) (pc' := 100) rfl rfl cd_Mo_session rfl rfl rfl rfl rfl ?_
              refine m_ild (pc' := 102) cd_Mo_session rfl (Or.inl ⟨rfl, rfl⟩) l5 rfl ?_
              refine m_k1 (v := 5) (pc' := 103) cd_Mo_session rfl (by decide) rfl ?_
              refine m_pure (pc' := 104) (st' := [.int ((nI (30 + (2 * p + j) * 38)) + 5), .ref 1497]) cd_Mo_session rfl rfl (fun _ _ => rfl) ?_
              refine m_eq (show ((nI (30 + (2 * p + j) * 38)) + 5 : Int32) = nI ((30 + (2 * p + j) * 38) + 5) from nI_add (30 + (2 * p + j) * 38) 5) ?_
              refine m_aI (r := 14) (a := 15) (g := gw) (x := n) (pc' := 105) rfl rfl cd_Mo_session rfl rfl rfl (vp_in_nI (by omega) (by decide)) ((congrArg gw (nI_clamp (by omega))).trans a7) ?_
              unfold ss_tell at kk
              dsimp only at kk
              rw [if_pos s54_0] at kk
              exact m_reti cd_Mo_session rfl ⟨_, rfl, (kk _ _ (by exact MT_i hM rfl rfl rfl rfl rfl rfl rfl rfl rfl rfl) rfl (RS_p hS (List.prefix_refl T) h11 h21 ⟨rfl, rfl, rfl, rfl, rfl⟩ ⟨rfl, rfl, rfl, rfl, rfl, rfl, rfl, rfl, rfl, rfl, rfl, rfl, rfl, rfl, rfl, rfl, rfl, rfl, rfl, rfl, rfl, rfl, rfl, rfl, rfl, rfl, rfl⟩ (hS.2.1.2.1) hS.2.2.2.2.1.1 hS.2.2.2.2.1.2.1 hS.2.2.2.2.1.2.2 hS.2.2.1.2))⟩
            by_cases s54_1 : z = 1
            · skip
              refine m_swk (pc' := 106) s54_1 cd_Mo_session rfl rfl (fun _ _ => rfl) ?_
              refine m_ald (pc' := 107) cd_Mo_session rfl (Or.inr ⟨_, rfl, rfl, rfl⟩) l0 rfl rfl ?_
              refine m_fR (r := 14) (a := 15) (ad := 1497) (pc' := 110) rfl rfl cd_Mo_session rfl rfl rfl rfl rfl ?_
              refine m_ild (pc' := 112) cd_Mo_session rfl (Or.inl ⟨rfl, rfl⟩) l5 rfl ?_
              refine m_k2 (v := 6) (pc' := 114) cd_Mo_session rfl (by decide) rfl ?_
              refine m_pure (pc' := 115) (st' := [.int ((nI (30 + (2 * p + j) * 38)) + 6), .ref 1497]) cd_Mo_session rfl rfl (fun _ _ => rfl) ?_
              refine m_eq (show ((nI (30 + (2 * p + j) * 38)) + 6 : Int32) = nI ((30 + (2 * p + j) * 38) + 6) from nI_add (30 + (2 * p + j) * 38) 6) ?_
              refine m_aI (r := 14) (a := 15) (g := gw) (x := b) (pc' := 116) rfl rfl cd_Mo_session rfl rfl rfl (vp_in_nI (by omega) (by decide)) ((congrArg gw (nI_clamp (by omega))).trans a8) ?_
              unfold ss_tell at kk
              dsimp only at kk
              rw [if_neg s54_0, if_pos s54_1] at kk
              exact m_reti cd_Mo_session rfl ⟨_, rfl, (kk _ _ (by exact MT_i hM rfl rfl rfl rfl rfl rfl rfl rfl rfl rfl) rfl (RS_p hS (List.prefix_refl T) h11 h21 ⟨rfl, rfl, rfl, rfl, rfl⟩ ⟨rfl, rfl, rfl, rfl, rfl, rfl, rfl, rfl, rfl, rfl, rfl, rfl, rfl, rfl, rfl, rfl, rfl, rfl, rfl, rfl, rfl, rfl, rfl, rfl, rfl, rfl, rfl⟩ (hS.2.1.2.1) hS.2.2.2.2.1.1 hS.2.2.2.2.1.2.1 hS.2.2.2.2.1.2.2 hS.2.2.1.2))⟩
            by_cases s54_2 : z = 2
            · skip
              refine m_swk (pc' := 117) s54_2 cd_Mo_session rfl rfl (fun _ _ => rfl) ?_
              refine m_ald (pc' := 118) cd_Mo_session rfl (Or.inr ⟨_, rfl, rfl, rfl⟩) l0 rfl rfl ?_
              refine m_fR (r := 14) (a := 15) (ad := 1497) (pc' := 121) rfl rfl cd_Mo_session rfl rfl rfl rfl rfl ?_
              refine m_ild (pc' := 123) cd_Mo_session rfl (Or.inl ⟨rfl, rfl⟩) l5 rfl ?_
              refine m_k2 (v := 8) (pc' := 125) cd_Mo_session rfl (by decide) rfl ?_
              refine m_pure (pc' := 126) (st' := [.int ((nI (30 + (2 * p + j) * 38)) + 8), .ref 1497]) cd_Mo_session rfl rfl (fun _ _ => rfl) ?_
              refine m_eq (show ((nI (30 + (2 * p + j) * 38)) + 8 : Int32) = nI ((30 + (2 * p + j) * 38) + 8) from nI_add (30 + (2 * p + j) * 38) 8) ?_
              refine m_aI (r := 14) (a := 15) (g := gw) (x := nx) (pc' := 127) rfl rfl cd_Mo_session rfl rfl rfl (vp_in_nI (by omega) (by decide)) ((congrArg gw (nI_clamp (by omega))).trans a9) ?_
              unfold ss_tell at kk
              dsimp only at kk
              rw [if_neg s54_0, if_neg s54_1, if_pos s54_2] at kk
              exact m_reti cd_Mo_session rfl ⟨_, rfl, (kk _ _ (by exact MT_i hM rfl rfl rfl rfl rfl rfl rfl rfl rfl rfl) rfl (RS_p hS (List.prefix_refl T) h11 h21 ⟨rfl, rfl, rfl, rfl, rfl⟩ ⟨rfl, rfl, rfl, rfl, rfl, rfl, rfl, rfl, rfl, rfl, rfl, rfl, rfl, rfl, rfl, rfl, rfl, rfl, rfl, rfl, rfl, rfl, rfl, rfl, rfl, rfl, rfl⟩ (hS.2.1.2.1) hS.2.2.2.2.1.1 hS.2.2.2.2.1.2.1 hS.2.2.2.2.1.2.2 hS.2.2.1.2))⟩
            by_cases s54_3 : z = 3
            · skip
              refine m_swk (pc' := 128) s54_3 cd_Mo_session rfl rfl (fun _ _ => rfl) ?_
              refine m_ald (pc' := 129) cd_Mo_session rfl (Or.inr ⟨_, rfl, rfl, rfl⟩) l0 rfl rfl ?_
              refine m_fR (r := 14) (a := 15) (ad := 1497) (pc' := 132) rfl rfl cd_Mo_session rfl rfl rfl rfl rfl ?_
              refine m_ild (pc' := 134) cd_Mo_session rfl (Or.inl ⟨rfl, rfl⟩) l5 rfl ?_
              refine m_k2 (v := 12) (pc' := 136) cd_Mo_session rfl (by decide) rfl ?_
              refine m_pure (pc' := 137) (st' := [.int ((nI (30 + (2 * p + j) * 38)) + 12), .ref 1497]) cd_Mo_session rfl rfl (fun _ _ => rfl) ?_
              refine m_eq (show ((nI (30 + (2 * p + j) * 38)) + 12 : Int32) = nI ((30 + (2 * p + j) * 38) + 12) from nI_add (30 + (2 * p + j) * 38) 12) ?_
              refine m_aI (r := 14) (a := 15) (g := gw) (x := (nI le.length)) (pc' := 138) rfl rfl cd_Mo_session rfl rfl rfl (vp_in_nI (by omega) (by decide)) ((congrArg gw (nI_clamp (by omega))).trans a12) ?_
              unfold ss_tell at kk
              dsimp only at kk
              rw [if_neg s54_0, if_neg s54_1, if_neg s54_2, if_pos s54_3] at kk
              exact m_reti cd_Mo_session rfl ⟨_, rfl, (kk _ _ (by exact MT_i hM rfl rfl rfl rfl rfl rfl rfl rfl rfl rfl) rfl (RS_p hS (List.prefix_refl T) h11 h21 ⟨rfl, rfl, rfl, rfl, rfl⟩ ⟨rfl, rfl, rfl, rfl, rfl, rfl, rfl, rfl, rfl, rfl, rfl, rfl, rfl, rfl, rfl, rfl, rfl, rfl, rfl, rfl, rfl, rfl, rfl, rfl, rfl, rfl, rfl⟩ (hS.2.1.2.1) hS.2.2.2.2.1.1 hS.2.2.2.2.1.2.1 hS.2.2.2.2.1.2.2 hS.2.2.1.2))⟩
            by_cases s54_4 : z = 4
            · skip
              refine m_swk (pc' := 139) s54_4 cd_Mo_session rfl rfl (fun _ _ => rfl) ?_
              refine m_ald (pc' := 140) cd_Mo_session rfl (Or.inr ⟨_, rfl, rfl, rfl⟩) l0 rfl rfl ?_
              refine m_fR (r := 14) (a := 15) (ad := 1497) (pc' := 143) rfl rfl cd_Mo_session rfl rfl rfl rfl rfl ?_
              refine m_ild (pc' := 145) cd_Mo_session rfl (Or.inl ⟨rfl, rfl⟩) l5 rfl ?_
              refine m_k2 (v := 9) (pc' := 147) cd_Mo_session rfl (by decide) rfl ?_
              refine m_pure (pc' := 148) (st' := [.int ((nI (30 + (2 * p + j) * 38)) + 9), .ref 1497]) cd_Mo_session rfl rfl (fun _ _ => rfl) ?_
              refine m_eq (show ((nI (30 + (2 * p + j) * 38)) + 9 : Int32) = nI ((30 + (2 * p + j) * 38) + 9) from nI_add (30 + (2 * p + j) * 38) 9) ?_
              refine m_aI (r := 14) (a := 15) (g := gw) (x := (bz br)) (pc' := 149) rfl rfl cd_Mo_session rfl rfl rfl (vp_in_nI (by omega) (by decide)) ((congrArg gw (nI_clamp (by omega))).trans a10) ?_
              unfold ss_tell at kk
              dsimp only at kk
              rw [if_neg s54_0, if_neg s54_1, if_neg s54_2, if_neg s54_3, if_pos s54_4] at kk
              exact m_reti cd_Mo_session rfl ⟨_, rfl, (kk _ _ (by exact MT_i hM rfl rfl rfl rfl rfl rfl rfl rfl rfl rfl) rfl (RS_p hS (List.prefix_refl T) h11 h21 ⟨rfl, rfl, rfl, rfl, rfl⟩ ⟨rfl, rfl, rfl, rfl, rfl, rfl, rfl, rfl, rfl, rfl, rfl, rfl, rfl, rfl, rfl, rfl, rfl, rfl, rfl, rfl, rfl, rfl, rfl, rfl, rfl, rfl, rfl⟩ (hS.2.1.2.1) hS.2.2.2.2.1.1 hS.2.2.2.2.1.2.1 hS.2.2.2.2.1.2.2 hS.2.2.1.2))⟩
            by_cases s54_5 : z = 5
            · skip
              refine m_swk (pc' := 150) s54_5 cd_Mo_session rfl rfl (fun _ _ => rfl) ?_
              refine m_ald (pc' := 151) cd_Mo_session rfl (Or.inr ⟨_, rfl, rfl, rfl⟩) l0 rfl rfl ?_
              refine m_fR (r := 14) (a := 15) (ad := 1497) (pc' := 154) rfl rfl cd_Mo_session rfl rfl rfl rfl rfl ?_
              refine m_ild (pc' := 156) cd_Mo_session rfl (Or.inl ⟨rfl, rfl⟩) l5 rfl ?_
              refine m_k1 (v := 4) (pc' := 157) cd_Mo_session rfl (by decide) rfl ?_
              refine m_pure (pc' := 158) (st' := [.int ((nI (30 + (2 * p + j) * 38)) + 4), .ref 1497]) cd_Mo_session rfl rfl (fun _ _ => rfl) ?_
              refine m_eq (show ((nI (30 + (2 * p + j) * 38)) + 4 : Int32) = nI ((30 + (2 * p + j) * 38) + 4) from nI_add (30 + (2 * p + j) * 38) 4) ?_
              refine m_aI (r := 14) (a := 15) (g := gw) (x := (gw ((30 + (2 * p + j) * 38) + 4))) (pc' := 159) rfl rfl cd_Mo_session rfl rfl rfl (vp_in_nI (by omega) (by decide)) (congrArg gw (nI_clamp (by omega))) ?_
              refine m_if1 (t := 166) (pc' := 162) cd_Mo_session rfl rfl rfl (fun c159 => ?_) (fun c159 => ?_)
              · have c159 : (gw ((30 + (2 * p + j) * 38) + 4)) = 0 := c159
                refine m_k1 (v := 0) (pc' := 167) cd_Mo_session rfl (by decide) rfl ?_
                unfold ss_tell at kk
                dsimp only at kk
                rw [if_neg s54_0, if_neg s54_1, if_neg s54_2, if_neg s54_3, if_neg s54_4, if_pos s54_5, tnil_iff.mpr ((MT_0 hM a5).mp c159)] at kk
                exact m_reti cd_Mo_session rfl ⟨_, rfl, (kk _ _ (by exact MT_i hM rfl rfl rfl rfl rfl rfl rfl rfl rfl rfl) rfl (RS_p hS (List.prefix_refl T) h11 h21 ⟨rfl, rfl, rfl, rfl, rfl⟩ ⟨rfl, rfl, rfl, rfl, rfl, rfl, rfl, rfl, rfl, rfl, rfl, rfl, rfl, rfl, rfl, rfl, rfl, rfl, rfl, rfl, rfl, rfl, rfl, rfl, rfl, rfl, rfl⟩ (hS.2.1.2.1) hS.2.2.2.2.1.1 hS.2.2.2.2.1.2.1 hS.2.2.2.2.1.2.2 hS.2.2.1.2))⟩
              · have c159 : ¬ (gw ((30 + (2 * p + j) * 38) + 4)) = 0 := c159
                refine m_k1 (v := 1) (pc' := 163) cd_Mo_session rfl (by decide) rfl ?_
                refine m_pure (pc' := 167) (st' := [.int 1]) cd_Mo_session rfl rfl (fun _ _ => rfl) ?_
                unfold ss_tell at kk
                dsimp only at kk
                rw [if_neg s54_0, if_neg s54_1, if_neg s54_2, if_neg s54_3, if_neg s54_4, if_pos s54_5, tnil_f (fun q => c159 ((MT_0 hM a5).mpr q))] at kk
                exact m_reti cd_Mo_session rfl ⟨_, rfl, (kk _ _ (by exact MT_i hM rfl rfl rfl rfl rfl rfl rfl rfl rfl rfl) rfl (RS_p hS (List.prefix_refl T) h11 h21 ⟨rfl, rfl, rfl, rfl, rfl⟩ ⟨rfl, rfl, rfl, rfl, rfl, rfl, rfl, rfl, rfl, rfl, rfl, rfl, rfl, rfl, rfl, rfl, rfl, rfl, rfl, rfl, rfl, rfl, rfl, rfl, rfl, rfl, rfl⟩ (hS.2.1.2.1) hS.2.2.2.2.1.1 hS.2.2.2.2.1.2.1 hS.2.2.2.2.1.2.2 hS.2.2.1.2))⟩
            by_cases s54_6 : z = 6
            · skip
              refine m_swk (pc' := 168) s54_6 cd_Mo_session rfl rfl (fun _ _ => rfl) ?_
              refine m_ald (pc' := 169) cd_Mo_session rfl (Or.inr ⟨_, rfl, rfl, rfl⟩) l0 rfl rfl ?_
              refine m_fR (r := 14) (a := 15) (ad := 1497) (pc' := 172) rfl rfl cd_Mo_session rfl rfl rfl rfl rfl ?_
              refine m_ild (pc' := 174) cd_Mo_session rfl (Or.inl ⟨rfl, rfl⟩) l5 rfl ?_
              refine m_k2 (v := 7) (pc' := 176) cd_Mo_session rfl (by decide) rfl ?_
              refine m_pure (pc' := 177) (st' := [.int ((nI (30 + (2 * p + j) * 38)) + 7), .ref 1497]) cd_Mo_session rfl rfl (fun _ _ => rfl) ?_
              refine m_eq (show ((nI (30 + (2 * p + j) * 38)) + 7 : Int32) = nI ((30 + (2 * p + j) * 38) + 7) from nI_add (30 + (2 * p + j) * 38) 7) ?_
              refine m_aI (r := 14) (a := 15) (g := gw) (x := (gw ((30 + (2 * p + j) * 38) + 7))) (pc' := 178) rfl rfl cd_Mo_session rfl rfl rfl (vp_in_nI (by omega) (by decide)) (congrArg gw (nI_clamp (by omega))) ?_
              refine m_if1 (t := 185) (pc' := 181) cd_Mo_session rfl rfl rfl (fun c178 => ?_) (fun c178 => ?_)
              · have c178 : (gw ((30 + (2 * p + j) * 38) + 7)) = 0 := c178
                refine m_k1 (v := 0) (pc' := 186) cd_Mo_session rfl (by decide) rfl ?_
                unfold ss_tell at kk
                dsimp only at kk
                rw [if_neg s54_0, if_neg s54_1, if_neg s54_2, if_neg s54_3, if_neg s54_4, if_neg s54_5, if_pos s54_6, tnil_iff.mpr ((MT_0 hM a6).mp c178)] at kk
                exact m_reti cd_Mo_session rfl ⟨_, rfl, (kk _ _ (by exact MT_i hM rfl rfl rfl rfl rfl rfl rfl rfl rfl rfl) rfl (RS_p hS (List.prefix_refl T) h11 h21 ⟨rfl, rfl, rfl, rfl, rfl⟩ ⟨rfl, rfl, rfl, rfl, rfl, rfl, rfl, rfl, rfl, rfl, rfl, rfl, rfl, rfl, rfl, rfl, rfl, rfl, rfl, rfl, rfl, rfl, rfl, rfl, rfl, rfl, rfl⟩ (hS.2.1.2.1) hS.2.2.2.2.1.1 hS.2.2.2.2.1.2.1 hS.2.2.2.2.1.2.2 hS.2.2.1.2))⟩
              · have c178 : ¬ (gw ((30 + (2 * p + j) * 38) + 7)) = 0 := c178
                refine m_k1 (v := 1) (pc' := 182) cd_Mo_session rfl (by decide) rfl ?_
                refine m_pure (pc' := 186) (st' := [.int 1]) cd_Mo_session rfl rfl (fun _ _ => rfl) ?_
                unfold ss_tell at kk
                dsimp only at kk
                rw [if_neg s54_0, if_neg s54_1, if_neg s54_2, if_neg s54_3, if_neg s54_4, if_neg s54_5, if_pos s54_6, tnil_f (fun q => c178 ((MT_0 hM a6).mpr q))] at kk
                exact m_reti cd_Mo_session rfl ⟨_, rfl, (kk _ _ (by exact MT_i hM rfl rfl rfl rfl rfl rfl rfl rfl rfl rfl) rfl (RS_p hS (List.prefix_refl T) h11 h21 ⟨rfl, rfl, rfl, rfl, rfl⟩ ⟨rfl, rfl, rfl, rfl, rfl, rfl, rfl, rfl, rfl, rfl, rfl, rfl, rfl, rfl, rfl, rfl, rfl, rfl, rfl, rfl, rfl, rfl, rfl, rfl, rfl, rfl, rfl⟩ (hS.2.1.2.1) hS.2.2.2.2.1.1 hS.2.2.2.2.1.2.1 hS.2.2.2.2.1.2.2 hS.2.2.1.2))⟩
            refine m_swd (t := 187) cd_Mo_session rfl rfl (by have := i32_ne (n := 0) (by decide) s54_0; have := i32_ne (n := 1) (by decide) s54_1; have := i32_ne (n := 2) (by decide) s54_2; have := i32_ne (n := 3) (by decide) s54_3; have := i32_ne (n := 4) (by decide) s54_4; have := i32_ne (n := 5) (by decide) s54_5; have := i32_ne (n := 6) (by decide) s54_6; omega) ?_
            refine m_k1 (v := (-1)) (pc' := 188) cd_Mo_session rfl (by decide) rfl ?_
            unfold ss_tell at kk
            dsimp only at kk
            rw [if_neg s54_0, if_neg s54_1, if_neg s54_2, if_neg s54_3, if_neg s54_4, if_neg s54_5, if_neg s54_6] at kk
            exact m_reti cd_Mo_session rfl ⟨_, rfl, (kk _ _ (by exact MT_i hM rfl rfl rfl rfl rfl rfl rfl rfl rfl rfl) rfl (RS_p hS (List.prefix_refl T) h11 h21 ⟨rfl, rfl, rfl, rfl, rfl⟩ ⟨rfl, rfl, rfl, rfl, rfl, rfl, rfl, rfl, rfl, rfl, rfl, rfl, rfl, rfl, rfl, rfl, rfl, rfl, rfl, rfl, rfl, rfl, rfl, rfl, rfl, rfl, rfl⟩ (hS.2.1.2.1) hS.2.2.2.2.1.1 hS.2.2.2.2.1.2.1 hS.2.2.2.2.1.2.2 hS.2.2.1.2))⟩
          · have c40 : ¬ (nI j) < (nI (se p).length) := c40
            refine m_k1 (v := (-1)) (pc' := 44) cd_Mo_session rfl (by decide) rfl ?_
            exact m_reti cd_Mo_session rfl ⟨_, rfl, (by rw [show se_spec (se p) (nI j) z = -1 from if_neg (fun q => Bool.noConfusion ((inR_hi (Int32.not_lt.mp c40)).symm.trans q))] at kk; exact kk _ _ (by exact MT_i hM rfl rfl rfl rfl rfl rfl rfl rfl rfl rfl) rfl (RS_p hS (List.prefix_refl T) h11 h21 ⟨rfl, rfl, rfl, rfl, rfl⟩ ⟨rfl, rfl, rfl, rfl, rfl, rfl, rfl, rfl, rfl, rfl, rfl, rfl, rfl, rfl, rfl, rfl, rfl, rfl, rfl, rfl, rfl, rfl, rfl, rfl, rfl, rfl, rfl⟩ (hS.2.1.2.1) hS.2.2.2.2.1.1 hS.2.2.2.2.1.2.1 hS.2.2.2.2.1.2.2 hS.2.2.1.2))⟩
        · have c20 : ¬ k ≤ 1 := c20
          refine m_k1 (v := (-1)) (pc' := 24) cd_Mo_session rfl (by decide) rfl ?_
          exact m_reti cd_Mo_session rfl ⟨_, rfl, (by rw [show se_spec (se p) k z = -1 from if_neg (fun q => Bool.noConfusion ((inR_hiL hl2 c20).symm.trans q))] at kk; exact kk f A hM rfl hS)⟩
set_option maxRecDepth 100000 in
theorem mo_groupB {sc : tm_X} {d : Nat} {f : Nat → Int32} {A : Nat → Nat → Int32} {x y z : Int32} {Q : Int32 → MS → Prop} (hB : inR x 6 = false ∨ inR y 4 = false) (kk : Q (-1) (f, A)) : mGi sc (d + 2) 281 [.ref 1482, .int x, .int y, .int z] (f, A) Q := by
  show mg sc (d + 2) 281 0 [(0, .ref 1482), (1, .int x), (2, .int y), (3, .int z)] [] (f, A) _
  generalize elv : ([(0, .ref 1482), (1, .int x), (2, .int y), (3, .int z)] : tm_L) = lv
  have l0 : lv.lookup 0 = some (.ref 1482) := by rw [← elv]; rfl
  have l1 : lv.lookup 1 = some (.int x) := by rw [← elv]; rfl
  have l2 : lv.lookup 2 = some (.int y) := by rw [← elv]; rfl
  have l3 : lv.lookup 3 = some (.int z) := by rw [← elv]; rfl
  clear elv
  refine m_ild (pc' := 1) cd_Mo_group rfl (Or.inr ⟨_, rfl, rfl, rfl⟩) l1 rfl ?_
  refine m_si (pc' := 4) cd_Mo_group rfl rfl rfl rfl rfl cd_Mo_isDevice rfl (Nat.le_of_ble_eq_true rfl) (m_isDevice ?_)
  show mg _ _ _ 4 _ [.int (bz (inR x 6))] _ _
  refine m_if1 (t := 20) (pc' := 7) cd_Mo_group rfl rfl rfl (fun c4 => ?_) (fun c4 => ?_)
  · have c4 : (inR x 6) = false := bz_f c4
    refine m_k1 (v := (-1)) (pc' := 21) cd_Mo_group rfl (by decide) rfl ?_
    exact m_reti cd_Mo_group rfl ⟨_, rfl, kk⟩
  · have c4 : (inR x 6) = true := bz_t c4
    refine m_ild (pc' := 8) cd_Mo_group rfl (Or.inr ⟨_, rfl, rfl, rfl⟩) l2 rfl ?_
    refine m_if1 (t := 20) (pc' := 11) cd_Mo_group rfl rfl rfl (fun c8 => ?_) (fun c8 => ?_)
    · have c8 : y < 0 := c8
      refine m_k1 (v := (-1)) (pc' := 21) cd_Mo_group rfl (by decide) rfl ?_
      exact m_reti cd_Mo_group rfl ⟨_, rfl, kk⟩
    · have c8 : ¬ y < 0 := c8
      refine m_ild (pc' := 12) cd_Mo_group rfl (Or.inr ⟨_, rfl, rfl, rfl⟩) l2 rfl ?_
      refine m_k1 (v := 4) (pc' := 13) cd_Mo_group rfl (by decide) rfl ?_
      refine m_if2 (t := 20) (pc' := 16) cd_Mo_group rfl rfl rfl (fun c13 => ?_) (fun c13 => ?_)
      · have c13 : (4 : Int32) ≤ y := c13
        refine m_k1 (v := (-1)) (pc' := 21) cd_Mo_group rfl (by decide) rfl ?_
        exact m_reti cd_Mo_group rfl ⟨_, rfl, kk⟩
      · have c13 : ¬ (4 : Int32) ≤ y := c13
        exact absurd hB (fun q => q.elim (fun q => Bool.noConfusion (q.symm.trans c4)) (fun q => Bool.noConfusion (q.symm.trans (inR_t c8 c13))))
theorem z_mod0 {z : Int32} (h : ¬ z < 0) : ¬ z - z / 10 * 10 < 0 := by
  have h0 : 0 ≤ z.toInt := Int32.le_iff_toInt_le.mp (Int32.not_lt.mp h)
  obtain ⟨n, hn, rfl⟩ : ∃ n : Nat, n < 2147483648 ∧ z = nI n := ⟨z.toInt.toNat, by have := z.toInt_lt; omega, by apply Int32.toInt_inj.mp; rw [nI_toInt (by have := z.toInt_lt; omega)]; omega⟩
  rw [show nI n / 10 = nI (n / 10) from nI_div n 10 (by omega) (by decide) (by decide), show nI (n / 10) * 10 = nI (n / 10 * 10) from pk_mul (n / 10) 10, pk_sub (by omega)]
  exact nI_nlt0 (by omega)
theorem mt_neg {M : MM} {z : Int32} (h : z < 0) : mm_tell M z = -1 := by
  obtain ⟨ve, ma, go, ge, ch, si, ix, ga, sl, gv⟩ := M
  have hz := Int32.lt_iff_toInt_lt.mp h
  have z0 : (0 : Int32).toInt = 0 := rfl
  rw [z0] at hz
  have ne : ∀ k : Int32, 0 ≤ k.toInt → ¬ z = k := fun k hk e => by rw [e] at hz; omega
  have hd : ¬ ¬ z / 10 < 1 := fun q => by
    have q1 := Int32.le_iff_toInt_le.mp (Int32.not_lt.mp q)
    have e1 : (1 : Int32).toInt = 1 := rfl
    rw [e1, Int32.toInt_div, show (10 : Int32).toInt = 10 from rfl] at q1
    have l1 := z.le_toInt
    obtain ⟨m, hm⟩ : ∃ m : Nat, z.toInt = -(m : Int) := ⟨(-z.toInt).toNat, by omega⟩
    rw [hm, Int.neg_tdiv, Int.tdiv_eq_ediv_of_nonneg (Int.natCast_nonneg m)] at q1
    have h2 : ((m : Int) / 10) = ((m / 10 : Nat) : Int) := by simp
    rw [h2] at q1
    have h3 : m / 10 ≤ m := Nat.div_le_self m 10
    have h4 : m ≤ 2147483648 := by have : -(2:Int)^31 ≤ z.toInt := l1; omega
    generalize m / 10 = q5 at h3 q1
    rw [Int.bmod_def] at q1
    split at q1 <;> omega
  unfold mm_tell
  dsimp only
  rw [if_neg (ne 0 (by decide)), if_neg (ne 1 (by decide)), if_neg (ne 2 (by decide)), if_neg (ne 3 (by decide)), if_neg (ne 4 (by decide)), if_neg (ne 5 (by decide)), if_neg (ne 6 (by decide))]
  exact if_neg (fun q => hd q.2.1)
set_option maxRecDepth 100000 in
theorem mo_group {sc : tm_X} {d : Nat} {f : Nat → Int32} {A : Nat → Nat → Int32} {T : List Tm} {DL : List (Int32 × Int32)} {G Kw : Tm → Prop} {dev : Nat → DV} {sto : Nat → ST} {ws : List (Tm × Int32)} {dir reg : Nat → Tm} {seen : List Tm} {ls : List RL} {lo dt db rt fl ll tl tf tg tm : Nat → Int32} {ck fo du : Int32} {id : Tm} {K0 K1 : PK} {on : List (Tm × Int32)} {lnu : Int32} {se : Nat → List SS} {me : Nat → MM} {s g : Nat} {z : Int32} {Q : Int32 → MS → Prop} (hM : MT f A T DL G Kw) (hS : RS f A T DL dev sto ws dir reg seen ls lo (dt, db, rt, fl, ll, tl, tf, tg, tm, ck, fo, du)) (hs : s < 6) (hg : g < 4) (eD : dev s = (id, K0, K1, on, lnu, se, me)) (kk : ∀ f1 A1, MT f1 A1 T DL G Kw → f1 16 = f 16 → RS f1 A1 T DL dev sto ws dir reg seen ls lo (dt, db, rt, fl, ll, tl, tf, tg, tm, ck, fo, du) → Q (mm_tell (me g) z) (f1, A1)) : mGi sc (d + 2) 281 [.ref 1482, .int (nI s), .int (nI g), .int z] (f, A) Q := by
  have h11 : f 11 = nI DL.length := hS.2.2.2.1.1
  have h21 : f 21 = ck := hS.2.2.2.1.2.1
  have hdv := hS.1.2.1 s hs
  rw [eD] at hdv
  rcases hmg : me g with ⟨ve, ma, go, ge, ch, si, ix, ga, sl, gv⟩
  rw [hmg] at kk
  show mg sc (d + 2) 281 0 [(0, .ref 1482), (1, .int (nI s)), (2, .int (nI g)), (3, .int z)] [] (f, A) _
  generalize elv : ([(0, .ref 1482), (1, .int (nI s)), (2, .int (nI g)), (3, .int z)] : tm_L) = lv
  have l0 : lv.lookup 0 = some (.ref 1482) := by rw [← elv]; rfl
  have l1 : lv.lookup 1 = some (.int (nI s)) := by rw [← elv]; rfl
  have l2 : lv.lookup 2 = some (.int (nI g)) := by rw [← elv]; rfl
  have l3 : lv.lookup 3 = some (.int z) := by rw [← elv]; rfl
  clear elv
  refine m_ild (pc' := 1) cd_Mo_group rfl (Or.inr ⟨_, rfl, rfl, rfl⟩) l1 rfl ?_
  refine m_si (pc' := 4) cd_Mo_group rfl rfl rfl rfl rfl cd_Mo_isDevice rfl (Nat.le_of_ble_eq_true rfl) (m_isDev1 hs ?_)
  show mg _ _ _ 4 _ [.int 1] _ _
  refine m_if1 (t := 20) (pc' := 7) cd_Mo_group rfl rfl rfl (fun c4 => ?_) (fun c4 => ?_)
  · exact absurd (show (1 : Int32) = 0 from c4) (by decide)
  · have c4 : ¬ (1 : Int32) = 0 := c4
    refine m_ild (pc' := 8) cd_Mo_group rfl (Or.inr ⟨_, rfl, rfl, rfl⟩) l2 rfl ?_
    refine m_if1 (t := 20) (pc' := 11) cd_Mo_group rfl rfl rfl (fun c8 => ?_) (fun c8 => ?_)
    · have c8 : (nI g) < 0 := c8
      exact absurd c8 (nI_nlt0 (by omega))
    · have c8 : ¬ (nI g) < 0 := c8
      refine m_ild (pc' := 12) cd_Mo_group rfl (Or.inr ⟨_, rfl, rfl, rfl⟩) l2 rfl ?_
      refine m_k1 (v := 4) (pc' := 13) cd_Mo_group rfl (by decide) rfl ?_
      refine m_if2 (t := 20) (pc' := 16) cd_Mo_group rfl rfl rfl (fun c13 => ?_) (fun c13 => ?_)
      · have c13 : (4 : Int32) ≤ (nI g) := c13
        exact absurd c13 (nI_ge (b := 4) hg (by decide))
      · have c13 : ¬ (4 : Int32) ≤ (nI g) := c13
        refine m_ild (pc' := 17) cd_Mo_group rfl (Or.inr ⟨_, rfl, rfl, rfl⟩) l3 rfl ?_
        refine m_if1 (t := 22) (pc' := 20) cd_Mo_group rfl rfl rfl (fun c17 => ?_) (fun c17 => ?_)
        · have c17 : (0 : Int32) ≤ z := c17
          refine m_ald (pc' := 23) cd_Mo_group rfl (Or.inr ⟨_, rfl, rfl, rfl⟩) l0 rfl rfl ?_
          refine m_ild (pc' := 24) cd_Mo_group rfl (Or.inr ⟨_, rfl, rfl, rfl⟩) l1 rfl ?_
          refine m_cv (pc' := 27) cd_Mo_group rfl rfl rfl rfl rfl cd_Mo_load rfl (Nat.le_of_ble_eq_true rfl) (m_load hs (fun gw hgw => ?_))
          have hDw : qDv gw T (id, K0, K1, on, lnu, se, me) := qDv_c (List.prefix_refl T) hgw hdv
          have hG := hDw.2.2.2 g hg
          rw [hmg] at hG
          show mg _ _ _ 27 _ [] _ _
          refine m_ild (pc' := 28) cd_Mo_group rfl (Or.inr ⟨_, rfl, rfl, rfl⟩) l2 rfl ?_
          refine m_si (pc' := 31) cd_Mo_group rfl rfl rfl rfl rfl cd_Mo_groupAt rfl (Nat.le_of_ble_eq_true rfl) (m_groupAt ?_)
          show mg _ _ _ 31 _ [.int (nI (486 + g * 279))] _ _
          refine m_ist (pc' := 33) cd_Mo_group rfl (Or.inl ⟨rfl, rfl⟩) (by decide) rfl (fun lv el => ?_)
          have l0 := tm_lk el l0 rfl (by decide)
          have l1 := tm_lk el l1 rfl (by decide)
          have l2 := tm_lk el l2 rfl (by decide)
          have l3 := tm_lk el l3 rfl (by decide)
          have l4 : lv.lookup 4 = some (.int (nI (486 + g * 279))) := tm_lks el
          clear el
          refine m_ild (pc' := 34) cd_Mo_group rfl (Or.inr ⟨_, rfl, rfl, rfl⟩) l3 rfl ?_
          by_cases s34_0 : z = 0
          · skip
            refine m_swk (pc' := 76) s34_0 cd_Mo_group rfl rfl (fun _ _ => rfl) ?_
            refine m_ald (pc' := 77) cd_Mo_group rfl (Or.inr ⟨_, rfl, rfl, rfl⟩) l0 rfl rfl ?_
            refine m_fR (r := 14) (a := 15) (ad := 1497) (pc' := 80) rfl rfl cd_Mo_group rfl rfl rfl rfl rfl ?_
            refine m_ild (pc' := 82) cd_Mo_group rfl (Or.inl ⟨rfl, rfl⟩) l4 rfl ?_
            refine m_k1 (v := 0) (pc' := 83) cd_Mo_group rfl (by decide) rfl ?_
            refine m_pure (pc' := 84) (st' := [.int ((nI (486 + g * 279)) + 0), .ref 1497]) cd_Mo_group rfl rfl (fun _ _ => rfl) ?_
            refine m_eq (show ((nI (486 + g * 279)) + 0 : Int32) = nI ((486 + g * 279) + 0) from nI_add (486 + g * 279) 0) ?_
            refine m_aI (r := 14) (a := 15) (g := gw) (x := ve) (pc' := 85) rfl rfl cd_Mo_group rfl rfl rfl (vp_in_nI (by omega) (by decide)) ((congrArg gw (nI_clamp (by omega))).trans hG.1.1) ?_
            unfold mm_tell at kk
            dsimp only at kk
            rw [if_pos s34_0] at kk
            exact m_reti cd_Mo_group rfl ⟨_, rfl, (kk _ _ (by exact MT_i hM rfl rfl rfl rfl rfl rfl rfl rfl rfl rfl) rfl (RS_p hS (List.prefix_refl T) h11 h21 ⟨rfl, rfl, rfl, rfl, rfl⟩ ⟨rfl, rfl, rfl, rfl, rfl, rfl, rfl, rfl, rfl, rfl, rfl, rfl, rfl, rfl, rfl, rfl, rfl, rfl, rfl, rfl, rfl, rfl, rfl, rfl, rfl, rfl, rfl⟩ (hS.2.1.2.1) hS.2.2.2.2.1.1 hS.2.2.2.2.1.2.1 hS.2.2.2.2.1.2.2 hS.2.2.1.2))⟩
          by_cases s34_1 : z = 1
          · skip
            refine m_swk (pc' := 86) s34_1 cd_Mo_group rfl rfl (fun _ _ => rfl) ?_
            refine m_ald (pc' := 87) cd_Mo_group rfl (Or.inr ⟨_, rfl, rfl, rfl⟩) l0 rfl rfl ?_
            refine m_fR (r := 14) (a := 15) (ad := 1497) (pc' := 90) rfl rfl cd_Mo_group rfl rfl rfl rfl rfl ?_
            refine m_ild (pc' := 92) cd_Mo_group rfl (Or.inl ⟨rfl, rfl⟩) l4 rfl ?_
            refine m_k1 (v := 1) (pc' := 93) cd_Mo_group rfl (by decide) rfl ?_
            refine m_pure (pc' := 94) (st' := [.int ((nI (486 + g * 279)) + 1), .ref 1497]) cd_Mo_group rfl rfl (fun _ _ => rfl) ?_
            refine m_eq (show ((nI (486 + g * 279)) + 1 : Int32) = nI ((486 + g * 279) + 1) from nI_add (486 + g * 279) 1) ?_
            refine m_aI (r := 14) (a := 15) (g := gw) (x := ma) (pc' := 95) rfl rfl cd_Mo_group rfl rfl rfl (vp_in_nI (by omega) (by decide)) ((congrArg gw (nI_clamp (by omega))).trans hG.1.2.1) ?_
            unfold mm_tell at kk
            dsimp only at kk
            rw [if_neg s34_0, if_pos s34_1] at kk
            exact m_reti cd_Mo_group rfl ⟨_, rfl, (kk _ _ (by exact MT_i hM rfl rfl rfl rfl rfl rfl rfl rfl rfl rfl) rfl (RS_p hS (List.prefix_refl T) h11 h21 ⟨rfl, rfl, rfl, rfl, rfl⟩ ⟨rfl, rfl, rfl, rfl, rfl, rfl, rfl, rfl, rfl, rfl, rfl, rfl, rfl, rfl, rfl, rfl, rfl, rfl, rfl, rfl, rfl, rfl, rfl, rfl, rfl, rfl, rfl⟩ (hS.2.1.2.1) hS.2.2.2.2.1.1 hS.2.2.2.2.1.2.1 hS.2.2.2.2.1.2.2 hS.2.2.1.2))⟩
          by_cases s34_2 : z = 2
          · skip
            refine m_swk (pc' := 96) s34_2 cd_Mo_group rfl rfl (fun _ _ => rfl) ?_
            refine m_ald (pc' := 97) cd_Mo_group rfl (Or.inr ⟨_, rfl, rfl, rfl⟩) l0 rfl rfl ?_
            refine m_fR (r := 14) (a := 15) (ad := 1497) (pc' := 100) rfl rfl cd_Mo_group rfl rfl rfl rfl rfl ?_
            refine m_ild (pc' := 102) cd_Mo_group rfl (Or.inl ⟨rfl, rfl⟩) l4 rfl ?_
            refine m_k1 (v := 2) (pc' := 103) cd_Mo_group rfl (by decide) rfl ?_
            refine m_pure (pc' := 104) (st' := [.int ((nI (486 + g * 279)) + 2), .ref 1497]) cd_Mo_group rfl rfl (fun _ _ => rfl) ?_
            refine m_eq (show ((nI (486 + g * 279)) + 2 : Int32) = nI ((486 + g * 279) + 2) from nI_add (486 + g * 279) 2) ?_
            refine m_aI (r := 14) (a := 15) (g := gw) (x := go) (pc' := 105) rfl rfl cd_Mo_group rfl rfl rfl (vp_in_nI (by omega) (by decide)) ((congrArg gw (nI_clamp (by omega))).trans hG.1.2.2.1) ?_
            unfold mm_tell at kk
            dsimp only at kk
            rw [if_neg s34_0, if_neg s34_1, if_pos s34_2] at kk
            exact m_reti cd_Mo_group rfl ⟨_, rfl, (kk _ _ (by exact MT_i hM rfl rfl rfl rfl rfl rfl rfl rfl rfl rfl) rfl (RS_p hS (List.prefix_refl T) h11 h21 ⟨rfl, rfl, rfl, rfl, rfl⟩ ⟨rfl, rfl, rfl, rfl, rfl, rfl, rfl, rfl, rfl, rfl, rfl, rfl, rfl, rfl, rfl, rfl, rfl, rfl, rfl, rfl, rfl, rfl, rfl, rfl, rfl, rfl, rfl⟩ (hS.2.1.2.1) hS.2.2.2.2.1.1 hS.2.2.2.2.1.2.1 hS.2.2.2.2.1.2.2 hS.2.2.1.2))⟩
          by_cases s34_3 : z = 3
          · skip
            refine m_swk (pc' := 106) s34_3 cd_Mo_group rfl rfl (fun _ _ => rfl) ?_
            refine m_ald (pc' := 107) cd_Mo_group rfl (Or.inr ⟨_, rfl, rfl, rfl⟩) l0 rfl rfl ?_
            refine m_fR (r := 14) (a := 15) (ad := 1497) (pc' := 110) rfl rfl cd_Mo_group rfl rfl rfl rfl rfl ?_
            refine m_ild (pc' := 112) cd_Mo_group rfl (Or.inl ⟨rfl, rfl⟩) l4 rfl ?_
            refine m_k1 (v := 3) (pc' := 113) cd_Mo_group rfl (by decide) rfl ?_
            refine m_pure (pc' := 114) (st' := [.int ((nI (486 + g * 279)) + 3), .ref 1497]) cd_Mo_group rfl rfl (fun _ _ => rfl) ?_
            refine m_eq (show ((nI (486 + g * 279)) + 3 : Int32) = nI ((486 + g * 279) + 3) from nI_add (486 + g * 279) 3) ?_
            refine m_aI (r := 14) (a := 15) (g := gw) (x := ge) (pc' := 115) rfl rfl cd_Mo_group rfl rfl rfl (vp_in_nI (by omega) (by decide)) ((congrArg gw (nI_clamp (by omega))).trans hG.1.2.2.2) ?_
            unfold mm_tell at kk
            dsimp only at kk
            rw [if_neg s34_0, if_neg s34_1, if_neg s34_2, if_pos s34_3] at kk
            exact m_reti cd_Mo_group rfl ⟨_, rfl, (kk _ _ (by exact MT_i hM rfl rfl rfl rfl rfl rfl rfl rfl rfl rfl) rfl (RS_p hS (List.prefix_refl T) h11 h21 ⟨rfl, rfl, rfl, rfl, rfl⟩ ⟨rfl, rfl, rfl, rfl, rfl, rfl, rfl, rfl, rfl, rfl, rfl, rfl, rfl, rfl, rfl, rfl, rfl, rfl, rfl, rfl, rfl, rfl, rfl, rfl, rfl, rfl, rfl⟩ (hS.2.1.2.1) hS.2.2.2.2.1.1 hS.2.2.2.2.1.2.1 hS.2.2.2.2.1.2.2 hS.2.2.1.2))⟩
          by_cases s34_4 : z = 4
          · skip
            refine m_swk (pc' := 116) s34_4 cd_Mo_group rfl rfl (fun _ _ => rfl) ?_
            refine m_ald (pc' := 117) cd_Mo_group rfl (Or.inr ⟨_, rfl, rfl, rfl⟩) l0 rfl rfl ?_
            refine m_fR (r := 14) (a := 15) (ad := 1497) (pc' := 120) rfl rfl cd_Mo_group rfl rfl rfl rfl rfl ?_
            refine m_ild (pc' := 122) cd_Mo_group rfl (Or.inl ⟨rfl, rfl⟩) l4 rfl ?_
            refine m_k2 (v := 6) (pc' := 124) cd_Mo_group rfl (by decide) rfl ?_
            refine m_pure (pc' := 125) (st' := [.int ((nI (486 + g * 279)) + 6), .ref 1497]) cd_Mo_group rfl rfl (fun _ _ => rfl) ?_
            refine m_eq (show ((nI (486 + g * 279)) + 6 : Int32) = nI ((486 + g * 279) + 6) from nI_add (486 + g * 279) 6) ?_
            refine m_aI (r := 14) (a := 15) (g := gw) (x := ix) (pc' := 126) rfl rfl cd_Mo_group rfl rfl rfl (vp_in_nI (by omega) (by decide)) ((congrArg gw (nI_clamp (by omega))).trans hG.2.2.1.1) ?_
            unfold mm_tell at kk
            dsimp only at kk
            rw [if_neg s34_0, if_neg s34_1, if_neg s34_2, if_neg s34_3, if_pos s34_4] at kk
            exact m_reti cd_Mo_group rfl ⟨_, rfl, (kk _ _ (by exact MT_i hM rfl rfl rfl rfl rfl rfl rfl rfl rfl rfl) rfl (RS_p hS (List.prefix_refl T) h11 h21 ⟨rfl, rfl, rfl, rfl, rfl⟩ ⟨rfl, rfl, rfl, rfl, rfl, rfl, rfl, rfl, rfl, rfl, rfl, rfl, rfl, rfl, rfl, rfl, rfl, rfl, rfl, rfl, rfl, rfl, rfl, rfl, rfl, rfl, rfl⟩ (hS.2.1.2.1) hS.2.2.2.2.1.1 hS.2.2.2.2.1.2.1 hS.2.2.2.2.1.2.2 hS.2.2.1.2))⟩
          by_cases s34_5 : z = 5
          · skip
            refine m_swk (pc' := 127) s34_5 cd_Mo_group rfl rfl (fun _ _ => rfl) ?_
            refine m_ald (pc' := 128) cd_Mo_group rfl (Or.inr ⟨_, rfl, rfl, rfl⟩) l0 rfl rfl ?_
            refine m_fR (r := 14) (a := 15) (ad := 1497) (pc' := 131) rfl rfl cd_Mo_group rfl rfl rfl rfl rfl ?_
            refine m_ild (pc' := 133) cd_Mo_group rfl (Or.inl ⟨rfl, rfl⟩) l4 rfl ?_
            refine m_k2 (v := 7) (pc' := 135) cd_Mo_group rfl (by decide) rfl ?_
            refine m_pure (pc' := 136) (st' := [.int ((nI (486 + g * 279)) + 7), .ref 1497]) cd_Mo_group rfl rfl (fun _ _ => rfl) ?_
            refine m_eq (show ((nI (486 + g * 279)) + 7 : Int32) = nI ((486 + g * 279) + 7) from nI_add (486 + g * 279) 7) ?_
            refine m_aI (r := 14) (a := 15) (g := gw) (x := ga) (pc' := 137) rfl rfl cd_Mo_group rfl rfl rfl (vp_in_nI (by omega) (by decide)) ((congrArg gw (nI_clamp (by omega))).trans hG.2.2.1.2.1) ?_
            unfold mm_tell at kk
            dsimp only at kk
            rw [if_neg s34_0, if_neg s34_1, if_neg s34_2, if_neg s34_3, if_neg s34_4, if_pos s34_5] at kk
            exact m_reti cd_Mo_group rfl ⟨_, rfl, (kk _ _ (by exact MT_i hM rfl rfl rfl rfl rfl rfl rfl rfl rfl rfl) rfl (RS_p hS (List.prefix_refl T) h11 h21 ⟨rfl, rfl, rfl, rfl, rfl⟩ ⟨rfl, rfl, rfl, rfl, rfl, rfl, rfl, rfl, rfl, rfl, rfl, rfl, rfl, rfl, rfl, rfl, rfl, rfl, rfl, rfl, rfl, rfl, rfl, rfl, rfl, rfl, rfl⟩ (hS.2.1.2.1) hS.2.2.2.2.1.1 hS.2.2.2.2.1.2.1 hS.2.2.2.2.1.2.2 hS.2.2.1.2))⟩
          by_cases s34_6 : z = 6
          · skip
            refine m_swk (pc' := 138) s34_6 cd_Mo_group rfl rfl (fun _ _ => rfl) ?_
            refine m_ald (pc' := 139) cd_Mo_group rfl (Or.inr ⟨_, rfl, rfl, rfl⟩) l0 rfl rfl ?_
            refine m_fR (r := 14) (a := 15) (ad := 1497) (pc' := 142) rfl rfl cd_Mo_group rfl rfl rfl rfl rfl ?_
            refine m_ild (pc' := 144) cd_Mo_group rfl (Or.inl ⟨rfl, rfl⟩) l4 rfl ?_
            refine m_k2 (v := 8) (pc' := 146) cd_Mo_group rfl (by decide) rfl ?_
            refine m_pure (pc' := 147) (st' := [.int ((nI (486 + g * 279)) + 8), .ref 1497]) cd_Mo_group rfl rfl (fun _ _ => rfl) ?_
            refine m_eq (show ((nI (486 + g * 279)) + 8 : Int32) = nI ((486 + g * 279) + 8) from nI_add (486 + g * 279) 8) ?_
            refine m_aI (r := 14) (a := 15) (g := gw) (x := (bz sl)) (pc' := 148) rfl rfl cd_Mo_group rfl rfl rfl (vp_in_nI (by omega) (by decide)) ((congrArg gw (nI_clamp (by omega))).trans hG.2.2.1.2.2) ?_
            unfold mm_tell at kk
            dsimp only at kk
            rw [if_neg s34_0, if_neg s34_1, if_neg s34_2, if_neg s34_3, if_neg s34_4, if_neg s34_5, if_pos s34_6] at kk
            exact m_reti cd_Mo_group rfl ⟨_, rfl, (kk _ _ (by exact MT_i hM rfl rfl rfl rfl rfl rfl rfl rfl rfl rfl) rfl (RS_p hS (List.prefix_refl T) h11 h21 ⟨rfl, rfl, rfl, rfl, rfl⟩ ⟨rfl, rfl, rfl, rfl, rfl, rfl, rfl, rfl, rfl, rfl, rfl, rfl, rfl, rfl, rfl, rfl, rfl, rfl, rfl, rfl, rfl, rfl, rfl, rfl, rfl, rfl, rfl⟩ (hS.2.1.2.1) hS.2.2.2.2.1.1 hS.2.2.2.2.1.2.1 hS.2.2.2.2.1.2.2 hS.2.2.1.2))⟩
          refine m_swd (t := 149) cd_Mo_group rfl rfl (by have := i32_ne (n := 0) (by decide) s34_0; have := i32_ne (n := 1) (by decide) s34_1; have := i32_ne (n := 2) (by decide) s34_2; have := i32_ne (n := 3) (by decide) s34_3; have := i32_ne (n := 4) (by decide) s34_4; have := i32_ne (n := 5) (by decide) s34_5; have := i32_ne (n := 6) (by decide) s34_6; omega) ?_
          refine m_ild (pc' := 150) cd_Mo_group rfl (Or.inr ⟨_, rfl, rfl, rfl⟩) l3 rfl ?_
          refine m_k2 (v := 10) (pc' := 152) cd_Mo_group rfl (by decide) rfl ?_
          refine m_rem (z := (z - z / 10 * 10)) (pc' := 153) cd_Mo_group rfl rfl (by decide) rfl ?_
          refine m_ist (pc' := 155) cd_Mo_group rfl (Or.inl ⟨rfl, rfl⟩) (by decide) rfl (fun lv el => ?_)
          have l0 := tm_lk el l0 rfl (by decide)
          have l1 := tm_lk el l1 rfl (by decide)
          have l2 := tm_lk el l2 rfl (by decide)
          have l3 := tm_lk el l3 rfl (by decide)
          have l4 := tm_lk el l4 rfl (by decide)
          have l5 : lv.lookup 5 = some (.int ((z - z / 10 * 10))) := tm_lks el
          clear el
          refine m_ild (pc' := 156) cd_Mo_group rfl (Or.inr ⟨_, rfl, rfl, rfl⟩) l3 rfl ?_
          refine m_k2 (v := 10) (pc' := 158) cd_Mo_group rfl (by decide) rfl ?_
          refine m_div (z := (z / 10)) (pc' := 159) cd_Mo_group rfl rfl (by decide) rfl ?_
          refine m_ist (pc' := 161) cd_Mo_group rfl (Or.inl ⟨rfl, rfl⟩) (by decide) rfl (fun lv el => ?_)
          have l0 := tm_lk el l0 rfl (by decide)
          have l1 := tm_lk el l1 rfl (by decide)
          have l2 := tm_lk el l2 rfl (by decide)
          have l3 := tm_lk el l3 rfl (by decide)
          have l4 := tm_lk el l4 rfl (by decide)
          have l5 := tm_lk el l5 rfl (by decide)
          have l6 : lv.lookup 6 = some (.int ((z / 10))) := tm_lks el
          clear el
          refine m_ild (pc' := 163) cd_Mo_group rfl (Or.inl ⟨rfl, rfl⟩) l6 rfl ?_
          refine m_k1 (v := 1) (pc' := 164) cd_Mo_group rfl (by decide) rfl ?_
          refine m_if2 (t := 179) (pc' := 167) cd_Mo_group rfl rfl rfl (fun c164 => ?_) (fun c164 => ?_)
          · have c164 : (z / 10) < 1 := c164
            refine m_k1 (v := (-1)) (pc' := 180) cd_Mo_group rfl (by decide) rfl ?_
            unfold mm_tell at kk
            dsimp only at kk
            rw [if_neg s34_0, if_neg s34_1, if_neg s34_2, if_neg s34_3, if_neg s34_4, if_neg s34_5, if_neg s34_6, show mm_tg (ve, ma, go, ge, ch, si, ix, ga, sl, gv) (z / 10) (z - z / 10 * 10) = -1 from if_neg (fun q => q.2.1 c164)] at kk
            exact m_reti cd_Mo_group rfl ⟨_, rfl, (kk _ _ (by exact MT_i hM rfl rfl rfl rfl rfl rfl rfl rfl rfl rfl) rfl (RS_p hS (List.prefix_refl T) h11 h21 ⟨rfl, rfl, rfl, rfl, rfl⟩ ⟨rfl, rfl, rfl, rfl, rfl, rfl, rfl, rfl, rfl, rfl, rfl, rfl, rfl, rfl, rfl, rfl, rfl, rfl, rfl, rfl, rfl, rfl, rfl, rfl, rfl, rfl, rfl⟩ (hS.2.1.2.1) hS.2.2.2.2.1.1 hS.2.2.2.2.1.2.1 hS.2.2.2.2.1.2.2 hS.2.2.1.2))⟩
          · have c164 : ¬ (z / 10) < 1 := c164
            refine m_ild (pc' := 169) cd_Mo_group rfl (Or.inl ⟨rfl, rfl⟩) l6 rfl ?_
            refine m_k1 (v := 4) (pc' := 170) cd_Mo_group rfl (by decide) rfl ?_
            refine m_if2 (t := 179) (pc' := 173) cd_Mo_group rfl rfl rfl (fun c170 => ?_) (fun c170 => ?_)
            · have c170 : (4 : Int32) < (z / 10) := c170
              refine m_k1 (v := (-1)) (pc' := 180) cd_Mo_group rfl (by decide) rfl ?_
              unfold mm_tell at kk
              dsimp only at kk
              rw [if_neg s34_0, if_neg s34_1, if_neg s34_2, if_neg s34_3, if_neg s34_4, if_neg s34_5, if_neg s34_6, show mm_tg (ve, ma, go, ge, ch, si, ix, ga, sl, gv) (z / 10) (z - z / 10 * 10) = -1 from if_neg (fun q => Int32.not_le.mpr c170 q.2.2)] at kk
              exact m_reti cd_Mo_group rfl ⟨_, rfl, (kk _ _ (by exact MT_i hM rfl rfl rfl rfl rfl rfl rfl rfl rfl rfl) rfl (RS_p hS (List.prefix_refl T) h11 h21 ⟨rfl, rfl, rfl, rfl, rfl⟩ ⟨rfl, rfl, rfl, rfl, rfl, rfl, rfl, rfl, rfl, rfl, rfl, rfl, rfl, rfl, rfl, rfl, rfl, rfl, rfl, rfl, rfl, rfl, rfl, rfl, rfl, rfl, rfl⟩ (hS.2.1.2.1) hS.2.2.2.2.1.1 hS.2.2.2.2.1.2.1 hS.2.2.2.2.1.2.2 hS.2.2.1.2))⟩
            · have c170 : ¬ (4 : Int32) < (z / 10) := c170
              refine m_ild (pc' := 175) cd_Mo_group rfl (Or.inl ⟨rfl, rfl⟩) l5 rfl ?_
              refine m_k1 (v := 5) (pc' := 176) cd_Mo_group rfl (by decide) rfl ?_
              refine m_if2 (t := 181) (pc' := 179) cd_Mo_group rfl rfl rfl (fun c176 => ?_) (fun c176 => ?_)
              · have c176 : (z - z / 10 * 10) ≤ 5 := c176
                have hz0 : ¬ z < 0 := Int32.not_lt.mpr c17
                have hj6 : inR (z - z / 10 * 10) 6 = true := inR_le (m := 5) (by decide) (z_mod0 hz0) c176
                obtain ⟨j, hj, ej⟩ := inR_of (n := 6) (by decide) hj6
                rw [ej] at l5
                have hL := hG.2.2.2 j hj
                have hl2 := hL.1.2
                have htg : mm_tg (ve, ma, go, ge, ch, si, ix, ga, sl, gv) (z / 10) (z - z / 10 * 10) = if z / 10 = 1 then nI (gv j).length else match gv j with
                    | [] => -1
                    | G :: _ => if z / 10 = 2 then G.2.1 else if z / 10 = 3 then G.1.2.2.1 else nI G.1.2.2.2.length := by
                  unfold mm_tg
                  rw [ej, if_pos ⟨by rw [← ej]; exact hj6, c164, Int32.not_lt.mp c170⟩, nI_clamp (by omega)]
                  rfl
                refine m_ald (pc' := 182) cd_Mo_group rfl (Or.inr ⟨_, rfl, rfl, rfl⟩) l0 rfl rfl ?_
                refine m_fR (r := 14) (a := 15) (ad := 1497) (pc' := 185) rfl rfl cd_Mo_group rfl rfl rfl rfl rfl ?_
                refine m_ild (pc' := 187) cd_Mo_group rfl (Or.inl ⟨rfl, rfl⟩) l4 rfl ?_
                refine m_k2 (v := 9) (pc' := 189) cd_Mo_group rfl (by decide) rfl ?_
                refine m_pure (pc' := 190) (st' := [.int ((nI (486 + g * 279)) + 9), .ref 1497]) cd_Mo_group rfl rfl (fun _ _ => rfl) ?_
                refine m_eq (show ((nI (486 + g * 279)) + 9 : Int32) = nI ((486 + g * 279) + 9) from nI_add (486 + g * 279) 9) ?_
                refine m_ild (pc' := 192) cd_Mo_group rfl (Or.inl ⟨rfl, rfl⟩) l5 rfl ?_
                refine m_pure (pc' := 193) (st' := [.int ((nI ((486 + g * 279) + 9)) + (nI j)), .ref 1497]) cd_Mo_group rfl rfl (fun _ _ => rfl) ?_
                refine m_eq (show ((nI ((486 + g * 279) + 9)) + (nI j) : Int32) = nI (((486 + g * 279) + 9) + j) from nI_add ((486 + g * 279) + 9) j) ?_
                refine m_aI (r := 14) (a := 15) (g := gw) (x := (nI (gv j).length)) (pc' := 194) rfl rfl cd_Mo_group rfl rfl rfl (vp_in_nI (by omega) (by decide)) ((congrArg gw (nI_clamp (by omega))).trans hL.1.1) ?_
                refine m_ist (pc' := 196) cd_Mo_group rfl (Or.inl ⟨rfl, rfl⟩) (by decide) rfl (fun lv el => ?_)
                have l0 := tm_lk el l0 rfl (by decide)
                have l1 := tm_lk el l1 rfl (by decide)
                have l2 := tm_lk el l2 rfl (by decide)
                have l3 := tm_lk el l3 rfl (by decide)
                have l4 := tm_lk el l4 rfl (by decide)
                have l5 := tm_lk el l5 rfl (by decide)
                have l6 := tm_lk el l6 rfl (by decide)
                have l7 : lv.lookup 7 = some (.int ((nI (gv j).length))) := tm_lks el
                clear el
                refine m_ild (pc' := 198) cd_Mo_group rfl (Or.inl ⟨rfl, rfl⟩) l6 rfl ?_
                refine m_k1 (v := 1) (pc' := 199) cd_Mo_group rfl (by decide) rfl ?_
                refine m_if2 (t := 205) (pc' := 202) cd_Mo_group rfl rfl rfl (fun c199 => ?_) (fun c199 => ?_)
                · have c199 : ¬ (z / 10) = 1 := c199
                  refine m_ild (pc' := 206) cd_Mo_group rfl (Or.inr ⟨_, rfl, rfl, rfl⟩) l2 rfl ?_
                  refine m_ild (pc' := 208) cd_Mo_group rfl (Or.inl ⟨rfl, rfl⟩) l5 rfl ?_
                  refine m_k1 (v := 0) (pc' := 209) cd_Mo_group rfl (by decide) rfl ?_
                  refine m_si (pc' := 212) cd_Mo_group rfl rfl rfl rfl rfl cd_Mo_givenAt rfl (Nat.le_of_ble_eq_true rfl) (m_givenAt (k := 0) ?_)
                  show mg _ _ _ 212 _ [.int (nI (486 + g * 279 + 15 + (2 * j + 0) * 22))] _ _
                  refine m_ist (pc' := 214) cd_Mo_group rfl (Or.inl ⟨rfl, rfl⟩) (by decide) rfl (fun lv el => ?_)
                  have l0 := tm_lk el l0 rfl (by decide)
                  have l1 := tm_lk el l1 rfl (by decide)
                  have l2 := tm_lk el l2 rfl (by decide)
                  have l3 := tm_lk el l3 rfl (by decide)
                  have l4 := tm_lk el l4 rfl (by decide)
                  have l5 := tm_lk el l5 rfl (by decide)
                  have l6 := tm_lk el l6 rfl (by decide)
                  have l7 := tm_lk el l7 rfl (by decide)
                  have l8 : lv.lookup 8 = some (.int (nI (486 + g * 279 + 15 + (2 * j + 0) * 22))) := tm_lks el
                  clear el
                  refine m_ild (pc' := 216) cd_Mo_group rfl (Or.inl ⟨rfl, rfl⟩) l7 rfl ?_
                  refine m_if1 (t := 223) (pc' := 219) cd_Mo_group rfl rfl rfl (fun c216 => ?_) (fun c216 => ?_)
                  · have c216 : ¬ (nI (gv j).length) = 0 := c216
                    obtain ⟨S, r, hgj⟩ : ∃ S r, gv j = S :: r := by
                      cases hq : gv j with
                      | nil => exact absurd (by rw [hq]; rfl) c216
                      | cons S r => exact ⟨S, r, rfl⟩
                    have hg0 := hL.2 0 S (by rw [hgj]; rfl)
                    refine m_ild (pc' := 225) cd_Mo_group rfl (Or.inl ⟨rfl, rfl⟩) l6 rfl ?_
                    refine m_k1 (v := 2) (pc' := 226) cd_Mo_group rfl (by decide) rfl ?_
                    refine m_if2 (t := 239) (pc' := 229) cd_Mo_group rfl rfl rfl (fun c226 => ?_) (fun c226 => ?_)
                    · have c226 : ¬ (z / 10) = 2 := c226
                      refine m_ild (pc' := 241) cd_Mo_group rfl (Or.inl ⟨rfl, rfl⟩) l6 rfl ?_
                      refine m_k1 (v := 3) (pc' := 242) cd_Mo_group rfl (by decide) rfl ?_
                      refine m_if2 (t := 257) (pc' := 245) cd_Mo_group rfl rfl rfl (fun c242 => ?_) (fun c242 => ?_)
                      · have c242 : ¬ (z / 10) = 3 := c242
                        refine m_ald (pc' := 258) cd_Mo_group rfl (Or.inr ⟨_, rfl, rfl, rfl⟩) l0 rfl rfl ?_
                        refine m_fR (r := 14) (a := 15) (ad := 1497) (pc' := 261) rfl rfl cd_Mo_group rfl rfl rfl rfl rfl ?_
                        refine m_ild (pc' := 263) cd_Mo_group rfl (Or.inl ⟨rfl, rfl⟩) l8 rfl ?_
                        refine m_k1 (v := 4) (pc' := 264) cd_Mo_group rfl (by decide) rfl ?_
                        refine m_pure (pc' := 265) (st' := [.int ((nI (486 + g * 279 + 15 + (2 * j + 0) * 22)) + 4), .ref 1497]) cd_Mo_group rfl rfl (fun _ _ => rfl) ?_
                        refine m_eq (show ((nI (486 + g * 279 + 15 + (2 * j + 0) * 22)) + 4 : Int32) = nI ((486 + g * 279 + 15 + (2 * j + 0) * 22) + 4) from nI_add (486 + g * 279 + 15 + (2 * j + 0) * 22) 4) ?_
                        refine m_aI (r := 14) (a := 15) (g := gw) (x := (nI S.1.2.2.2.length)) (pc' := 266) rfl rfl cd_Mo_group rfl rfl rfl (vp_in_nI (by omega) (by decide)) ((congrArg gw (nI_clamp (by omega))).trans hg0.2.1.1) ?_
                        unfold mm_tell at kk
                        dsimp only at kk
                        rw [if_neg s34_0, if_neg s34_1, if_neg s34_2, if_neg s34_3, if_neg s34_4, if_neg s34_5, if_neg s34_6, htg] at kk
                        rw [if_neg c199, hgj] at kk
                        dsimp only at kk
                        rw [if_neg c226, if_neg c242] at kk
                        exact m_reti cd_Mo_group rfl ⟨_, rfl, (kk _ _ (by exact MT_i hM rfl rfl rfl rfl rfl rfl rfl rfl rfl rfl) rfl (RS_p hS (List.prefix_refl T) h11 h21 ⟨rfl, rfl, rfl, rfl, rfl⟩ ⟨rfl, rfl, rfl, rfl, rfl, rfl, rfl, rfl, rfl, rfl, rfl, rfl, rfl, rfl, rfl, rfl, rfl, rfl, rfl, rfl, rfl, rfl, rfl, rfl, rfl, rfl, rfl⟩ (hS.2.1.2.1) hS.2.2.2.2.1.1 hS.2.2.2.2.1.2.1 hS.2.2.2.2.1.2.2 hS.2.2.1.2))⟩
                      · have c242 : (z / 10) = 3 := Classical.not_not.mp c242
                        refine m_ald (pc' := 246) cd_Mo_group rfl (Or.inr ⟨_, rfl, rfl, rfl⟩) l0 rfl rfl ?_
                        refine m_fR (r := 14) (a := 15) (ad := 1497) (pc' := 249) rfl rfl cd_Mo_group rfl rfl rfl rfl rfl ?_
                        refine m_ild (pc' := 251) cd_Mo_group rfl (Or.inl ⟨rfl, rfl⟩) l8 rfl ?_
                        refine m_k1 (v := 3) (pc' := 252) cd_Mo_group rfl (by decide) rfl ?_
                        refine m_pure (pc' := 253) (st' := [.int ((nI (486 + g * 279 + 15 + (2 * j + 0) * 22)) + 3), .ref 1497]) cd_Mo_group rfl rfl (fun _ _ => rfl) ?_
                        refine m_eq (show ((nI (486 + g * 279 + 15 + (2 * j + 0) * 22)) + 3 : Int32) = nI ((486 + g * 279 + 15 + (2 * j + 0) * 22) + 3) from nI_add (486 + g * 279 + 15 + (2 * j + 0) * 22) 3) ?_
                        refine m_aI (r := 14) (a := 15) (g := gw) (x := S.1.2.2.1) (pc' := 254) rfl rfl cd_Mo_group rfl rfl rfl (vp_in_nI (by omega) (by decide)) ((congrArg gw (nI_clamp (by omega))).trans hg0.1.2.2.2) ?_
                        refine m_pure (pc' := 266) (st' := [.int S.1.2.2.1]) cd_Mo_group rfl rfl (fun _ _ => rfl) ?_
                        unfold mm_tell at kk
                        dsimp only at kk
                        rw [if_neg s34_0, if_neg s34_1, if_neg s34_2, if_neg s34_3, if_neg s34_4, if_neg s34_5, if_neg s34_6, htg] at kk
                        rw [if_neg c199, hgj] at kk
                        dsimp only at kk
                        rw [if_neg c226, if_pos c242] at kk
                        exact m_reti cd_Mo_group rfl ⟨_, rfl, (kk _ _ (by exact MT_i hM rfl rfl rfl rfl rfl rfl rfl rfl rfl rfl) rfl (RS_p hS (List.prefix_refl T) h11 h21 ⟨rfl, rfl, rfl, rfl, rfl⟩ ⟨rfl, rfl, rfl, rfl, rfl, rfl, rfl, rfl, rfl, rfl, rfl, rfl, rfl, rfl, rfl, rfl, rfl, rfl, rfl, rfl, rfl, rfl, rfl, rfl, rfl, rfl, rfl⟩ (hS.2.1.2.1) hS.2.2.2.2.1.1 hS.2.2.2.2.1.2.1 hS.2.2.2.2.1.2.2 hS.2.2.1.2))⟩
                    · have c226 : (z / 10) = 2 := Classical.not_not.mp c226
                      refine m_ald (pc' := 230) cd_Mo_group rfl (Or.inr ⟨_, rfl, rfl, rfl⟩) l0 rfl rfl ?_
                      refine m_fR (r := 14) (a := 15) (ad := 1497) (pc' := 233) rfl rfl cd_Mo_group rfl rfl rfl rfl rfl ?_
                      refine m_ild (pc' := 235) cd_Mo_group rfl (Or.inl ⟨rfl, rfl⟩) l8 rfl ?_
                      refine m_aI (r := 14) (a := 15) (g := gw) (x := S.2.1) (pc' := 236) rfl rfl cd_Mo_group rfl rfl rfl (vp_in_nI (by omega) (by decide)) ((congrArg gw (nI_clamp (by omega))).trans hg0.1.1) ?_
                      refine m_pure (pc' := 266) (st' := [.int S.2.1]) cd_Mo_group rfl rfl (fun _ _ => rfl) ?_
                      unfold mm_tell at kk
                      dsimp only at kk
                      rw [if_neg s34_0, if_neg s34_1, if_neg s34_2, if_neg s34_3, if_neg s34_4, if_neg s34_5, if_neg s34_6, htg] at kk
                      rw [if_neg c199, hgj] at kk
                      dsimp only at kk
                      rw [if_pos c226] at kk
                      exact m_reti cd_Mo_group rfl ⟨_, rfl, (kk _ _ (by exact MT_i hM rfl rfl rfl rfl rfl rfl rfl rfl rfl rfl) rfl (RS_p hS (List.prefix_refl T) h11 h21 ⟨rfl, rfl, rfl, rfl, rfl⟩ ⟨rfl, rfl, rfl, rfl, rfl, rfl, rfl, rfl, rfl, rfl, rfl, rfl, rfl, rfl, rfl, rfl, rfl, rfl, rfl, rfl, rfl, rfl, rfl, rfl, rfl, rfl, rfl⟩ (hS.2.1.2.1) hS.2.2.2.2.1.1 hS.2.2.2.2.1.2.1 hS.2.2.2.2.1.2.2 hS.2.2.1.2))⟩
                  · have c216 : (nI (gv j).length) = 0 := Classical.not_not.mp c216
                    refine m_k1 (v := (-1)) (pc' := 220) cd_Mo_group rfl (by decide) rfl ?_
                    refine m_pure (pc' := 266) (st' := [.int (-1)]) cd_Mo_group rfl rfl (fun _ _ => rfl) ?_
                    unfold mm_tell at kk
                    dsimp only at kk
                    rw [if_neg s34_0, if_neg s34_1, if_neg s34_2, if_neg s34_3, if_neg s34_4, if_neg s34_5, if_neg s34_6, htg] at kk
                    have hgn : gv j = [] := by
                      cases hq : gv j with
                      | nil => rfl
                      | cons S r => rw [hq] at c216; exact absurd c216 (nI_ne0 (by simp) (by rw [hq] at hl2; omega))
                    rw [if_neg c199, hgn] at kk
                    dsimp only at kk
                    exact m_reti cd_Mo_group rfl ⟨_, rfl, (kk _ _ (by exact MT_i hM rfl rfl rfl rfl rfl rfl rfl rfl rfl rfl) rfl (RS_p hS (List.prefix_refl T) h11 h21 ⟨rfl, rfl, rfl, rfl, rfl⟩ ⟨rfl, rfl, rfl, rfl, rfl, rfl, rfl, rfl, rfl, rfl, rfl, rfl, rfl, rfl, rfl, rfl, rfl, rfl, rfl, rfl, rfl, rfl, rfl, rfl, rfl, rfl, rfl⟩ (hS.2.1.2.1) hS.2.2.2.2.1.1 hS.2.2.2.2.1.2.1 hS.2.2.2.2.1.2.2 hS.2.2.1.2))⟩
                · have c199 : (z / 10) = 1 := Classical.not_not.mp c199
                  refine m_ild (pc' := 204) cd_Mo_group rfl (Or.inl ⟨rfl, rfl⟩) l7 rfl ?_
                  unfold mm_tell at kk
                  dsimp only at kk
                  rw [if_neg s34_0, if_neg s34_1, if_neg s34_2, if_neg s34_3, if_neg s34_4, if_neg s34_5, if_neg s34_6, htg] at kk
                  rw [if_pos c199] at kk
                  exact m_reti cd_Mo_group rfl ⟨_, rfl, (kk _ _ (by exact MT_i hM rfl rfl rfl rfl rfl rfl rfl rfl rfl rfl) rfl (RS_p hS (List.prefix_refl T) h11 h21 ⟨rfl, rfl, rfl, rfl, rfl⟩ ⟨rfl, rfl, rfl, rfl, rfl, rfl, rfl, rfl, rfl, rfl, rfl, rfl, rfl, rfl, rfl, rfl, rfl, rfl, rfl, rfl, rfl, rfl, rfl, rfl, rfl, rfl, rfl⟩ (hS.2.1.2.1) hS.2.2.2.2.1.1 hS.2.2.2.2.1.2.1 hS.2.2.2.2.1.2.2 hS.2.2.1.2))⟩
              · have c176 : ¬ (z - z / 10 * 10) ≤ 5 := c176
                refine m_k1 (v := (-1)) (pc' := 180) cd_Mo_group rfl (by decide) rfl ?_
                unfold mm_tell at kk
                dsimp only at kk
                rw [if_neg s34_0, if_neg s34_1, if_neg s34_2, if_neg s34_3, if_neg s34_4, if_neg s34_5, if_neg s34_6, show mm_tg (ve, ma, go, ge, ch, si, ix, ga, sl, gv) (z / 10) (z - z / 10 * 10) = -1 from if_neg (fun q => Bool.noConfusion ((inR_gt (m := 5) (by decide) c176).symm.trans q.1))] at kk
                exact m_reti cd_Mo_group rfl ⟨_, rfl, (kk _ _ (by exact MT_i hM rfl rfl rfl rfl rfl rfl rfl rfl rfl rfl) rfl (RS_p hS (List.prefix_refl T) h11 h21 ⟨rfl, rfl, rfl, rfl, rfl⟩ ⟨rfl, rfl, rfl, rfl, rfl, rfl, rfl, rfl, rfl, rfl, rfl, rfl, rfl, rfl, rfl, rfl, rfl, rfl, rfl, rfl, rfl, rfl, rfl, rfl, rfl, rfl, rfl⟩ (hS.2.1.2.1) hS.2.2.2.2.1.1 hS.2.2.2.2.1.2.1 hS.2.2.2.2.1.2.2 hS.2.2.1.2))⟩
        · have c17 : ¬ (0 : Int32) ≤ z := c17
          refine m_k1 (v := (-1)) (pc' := 21) cd_Mo_group rfl (by decide) rfl ?_
          have hzn : z < 0 := Int32.not_le.mp c17
          have htl : mm_tell (ve, ma, go, ge, ch, si, ix, ga, sl, gv) z = -1 := mt_neg hzn
          rw [htl] at kk
          exact m_reti cd_Mo_group rfl ⟨_, rfl, (kk f A hM rfl hS)⟩
