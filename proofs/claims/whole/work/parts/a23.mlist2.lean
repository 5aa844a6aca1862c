/-! The reference: list -/
theorem qDv_grp {w g : Nat → Int32} {T T' : List Tm} {id : Tm} {K0 K1 : PK} {on : List (Tm × Int32)} {lnu : Int32} {se : Nat → List SS} {me : Nat → MM} {q : Nat} {M : MM} (hq : q < 4) (h : qDv w T (id, K0, K1, on, lnu, se, me)) (hT : T <+: T') (hM : qMm g T' (486 + q * 279) M) (e : ∀ j, ¬ (486 + q * 279 ≤ j ∧ j < 486 + q * 279 + 279) → g j = w j) : qDv g T' (id, K0, K1, on, lnu, se, fset me q M) := by
  obtain ⟨⟨h1, h2⟩, ⟨h3, h4⟩, h5, h6⟩ := h
  refine ⟨⟨qPk_c hT (fun k _ _ => e k (by omega)) h1, qPk_c hT (fun k _ _ => e k (by omega)) h2⟩, ⟨qOn_c hT (fun k _ _ => e k (by omega)) h3, (e 23 (by omega)).trans h4⟩, fun p hp => qSs_c hp hT (fun k hk => e k (by omega)) (h5 p hp), fun r hr => ?_⟩
  by_cases c : r = q
  · rw [c, fset_same]; exact hM
  · rw [fset_ne c]
    exact qMm_c hT (fun k _ _ => e k (by omega)) (h6 r hr)
set_option maxRecDepth 100000 in
theorem m_list2 {sc : tm_X} {d : Nat} {f : Nat → Int32} {A : Nat → Nat → Int32} {T : List Tm} {DL : List (Int32 × Int32)} {G Kw : Tm → Prop} {dev : Nat → DV} {sto : Nat → ST} {ws : List (Tm × Int32)} {dir reg : Nat → Tm} {seen : List Tm} {ls : List RL} {lo dt db rt fl ll tl tf tg tm : Nat → Int32} {ck fo du : Int32} {id : Tm} {K0 K1 : PK} {on : List (Tm × Int32)} {lnu : Int32} {se : Nat → List SS} {me : Nat → MM} {p0 : Bool} {P O : EN2} {c : Option Nat} {q : Nat} {k : Int32} {ve ma go ge ix ga : Int32} {ch si : Tm} {sl : Bool} {gv : Nat → List GV} {Q : Int32 → MS → Prop} (hM : MT f A T DL G Kw) (hS : RS f A T DL dev sto ws dir reg seen ls lo (dt, db, rt, fl, ll, tl, tf, tg, tm, ck, fo, du)) (hdl : DL.length ≤ 2960) (hws : ws.length ≤ 692) (hTl : T.length + 2 ≤ 4000) (hr : rc (A 1) T.length + 1 < 1000) (hq : q < 4) (hk0 : ¬ k < 0) (hk6 : ¬ 64 ≤ k) (kI : kd id = 1) (eD : dev q = (id, K0, K1, on, lnu, se, me)) (eM : me q = (ve, ma, go, ge, ch, si, ix, ga, sl, gv)) (hz0 : K0.1 = tz ↔ K0.2.1 = 0) (hz1 : K1.1 = tz ↔ K1.2.1 = 0) (hst : sto q = (p0, P, O, c, false)) (hen : (dv_en (id, K0, K1, on, lnu, se, fset me q (mm_adopt (ve, ma, go, ge, ch, si, ix, ga, sl, gv) (ve + 1) k))).length ≤ 536) (kN : (hbit k (nI q) = false ∨ ¬ k &&& go = 0) → ∀ f1 A1, (∀ k, 1 ≤ k → k ≤ 8 → A1 k = A k) → MT f1 A1 T DL G Kw → (f1 16 = 1 ∨ f1 16 = f 16) → RS f1 A1 T DL dev sto ws dir reg seen ls lo (dt, db, rt, fl, ll, tl, tf, tg, tm, ck + 1, fo, du) → Q (-6) (f1, A1)) (k0 : hbit k (nI q) = true → k &&& go = 0 → (st_commit p0 P c (dv_en (id, K0, K1, on, lnu, se, fset me q (mm_adopt (ve, ma, go, ge, ch, si, ix, ga, sl, gv) (ve + 1) k)))).1 = 0 → ∀ f1 A1 T', T <+: T' → T'.length ≤ T.length + 2 → rc (A1 1) T'.length ≤ rc (A 1) T.length + 1 → MT f1 A1 T' DL G Kw → (f1 16 = 1 ∨ f1 16 = f 16) → RS f1 A1 T' DL dev (fset sto q (st_commit p0 P c (dv_en (id, K0, K1, on, lnu, se, fset me q (mm_adopt (ve, ma, go, ge, ch, si, ix, ga, sl, gv) (ve + 1) k)))).2) (ws) dir reg seen ls lo (dt, db, rt, fl, ll, tl, tf, tg, tm, ck + 1, fo, du) → Q (-4) (f1, A1)) (k1 : hbit k (nI q) = true → k &&& go = 0 → (st_commit p0 P c (dv_en (id, K0, K1, on, lnu, se, fset me q (mm_adopt (ve, ma, go, ge, ch, si, ix, ga, sl, gv) (ve + 1) k)))).1 = 1 → ∀ f1 A1 T', T <+: T' → T'.length ≤ T.length + 2 → rc (A1 1) T'.length ≤ rc (A 1) T.length + 1 → MT f1 A1 T' DL G Kw → (f1 16 = 1 ∨ f1 16 = f 16) → RS f1 A1 T' DL (fset dev q (id, K0, K1, on, lnu, se, fset me q (mm_adopt (ve, ma, go, ge, ch, si, ix, ga, sl, gv) (ve + 1) k))) (fset sto q (st_commit p0 P c (dv_en (id, K0, K1, on, lnu, se, fset me q (mm_adopt (ve, ma, go, ge, ch, si, ix, ga, sl, gv) (ve + 1) k)))).2) (ws) dir reg seen ls lo (dt, db, rt, fl, ll, tl, tf, tg, tm, ck + 1, fo, du) → Q (-4) (f1, A1)) (k2 : hbit k (nI q) = true → k &&& go = 0 → (st_commit p0 P c (dv_en (id, K0, K1, on, lnu, se, fset me q (mm_adopt (ve, ma, go, ge, ch, si, ix, ga, sl, gv) (ve + 1) k)))).1 = 2 → ∀ f1 A1 T', T <+: T' → T'.length ≤ T.length + 2 → rc (A1 1) T'.length ≤ rc (A 1) T.length + 1 → MT f1 A1 T' DL (fun y => G y ∨ y = (Tsg id (Trw 6 (nI q) (ve + 1) k 0 tz tz tz tz))) Kw → (f1 16 = 1 ∨ (f1 16 = f 16 ∧ G (Tsg id (Trw 6 (nI q) (ve + 1) k 0 tz tz tz tz)))) → RS f1 A1 T' DL (fset dev q (id, K0, K1, on, lnu, se, fset me q (mm_adopt (ve, ma, go, ge, ch, si, ix, ga, sl, gv) (ve + 1) k))) (fset sto q (st_commit p0 P c (dv_en (id, K0, K1, on, lnu, se, fset me q (mm_adopt (ve, ma, go, ge, ch, si, ix, ga, sl, gv) (ve + 1) k)))).2) (ws ++ [((Tsg id (Trw 6 (nI q) (ve + 1) k 0 tz tz tz tz)), -1)]) dir reg seen ls lo (dt, db, rt, fl, ll, tl, tf, tg, tm, ck + 1, fo, du) → Q (nI ws.length) (f1, A1)) : mGi sc (d + 6) 226 [.ref 1482, .int (nI q), .int k] (f, A) Q := by
  have hs : q < 6 := by omega
  have hq0 := hS.1.2.2 q hs
  rw [hst] at hq0
  have h40 := hS.2.1.1.1.1
  have h11 : f 11 = nI DL.length := hS.2.2.2.1.1
  have h21 : f 21 = ck := hS.2.2.2.1.2.1
  have hdv := hS.1.2.1 q hs
  rw [eD] at hdv
  have eI : (dev q).1 = id := by rw [eD]
  have hidt : tv T (A 16 q) id := eI ▸ hS.1.1 q hs
  have hTl0 := MT_len hM
  show mg sc (d + 6) 226 0 [(0, .ref 1482), (1, .int (nI q)), (2, .int k)] [] (f, A) _
  generalize elv : ([(0, .ref 1482), (1, .int (nI q)), (2, .int k)] : tm_L) = lv
  have l0 : lv.lookup 0 = some (.ref 1482) := by rw [← elv]; rfl
  have l1 : lv.lookup 1 = some (.int (nI q)) := by rw [← elv]; rfl
  have l2 : lv.lookup 2 = some (.int k) := by rw [← elv]; rfl
  clear elv
  refine m_ald (pc' := 1) cd_Mo_list2 rfl (Or.inr ⟨_, rfl, rfl, rfl⟩) l0 rfl rfl ?_
  refine m_ild (pc' := 2) cd_Mo_list2 rfl (Or.inr ⟨_, rfl, rfl, rfl⟩) l1 rfl ?_
  refine m_if1 (t := 24) (pc' := 5) cd_Mo_list2 rfl rfl rfl (fun c2 => ?_) (fun c2 => ?_)
  · have c2 : (nI q) < 0 := c2
    exact absurd c2 (nI_nlt0 (by omega))
  · have c2 : ¬ (nI q) < 0 := c2
    refine m_ild (pc' := 6) cd_Mo_list2 rfl (Or.inr ⟨_, rfl, rfl, rfl⟩) l1 rfl ?_
    refine m_k1 (v := 4) (pc' := 7) cd_Mo_list2 rfl (by decide) rfl ?_
    refine m_if2 (t := 24) (pc' := 10) cd_Mo_list2 rfl rfl rfl (fun c7 => ?_) (fun c7 => ?_)
    · have c7 : (4 : Int32) ≤ (nI q) := c7
      exact absurd c7 (nI_ge (b := 4) (by omega) (by decide))
    · have c7 : ¬ (4 : Int32) ≤ (nI q) := c7
      refine m_ild (pc' := 11) cd_Mo_list2 rfl (Or.inr ⟨_, rfl, rfl, rfl⟩) l2 rfl ?_
      refine m_if1 (t := 24) (pc' := 14) cd_Mo_list2 rfl rfl rfl (fun c11 => ?_) (fun c11 => ?_)
      · have c11 : k < 0 := c11
        exact absurd c11 hk0
      · have c11 : ¬ k < 0 := c11
        refine m_ild (pc' := 15) cd_Mo_list2 rfl (Or.inr ⟨_, rfl, rfl, rfl⟩) l2 rfl ?_
        refine m_k2 (v := 64) (pc' := 17) cd_Mo_list2 rfl (by decide) rfl ?_
        refine m_if2 (t := 24) (pc' := 20) cd_Mo_list2 rfl rfl rfl (fun c17 => ?_) (fun c17 => ?_)
        · have c17 : (64 : Int32) ≤ k := c17
          exact absurd c17 hk6
        · have c17 : ¬ (64 : Int32) ≤ k := c17
          refine m_k1 (v := 1) (pc' := 21) cd_Mo_list2 rfl (by decide) rfl ?_
          refine m_pure (pc' := 25) (st' := [.int 1, .ref 1482]) cd_Mo_list2 rfl rfl (fun _ _ => rfl) ?_
          refine m_k1 (v := 1) (pc' := 26) cd_Mo_list2 rfl (by decide) rfl ?_
          refine m_ild (pc' := 27) cd_Mo_list2 rfl (Or.inr ⟨_, rfl, rfl, rfl⟩) l1 rfl ?_
          refine m_if1 (t := 35) (pc' := 30) cd_Mo_list2 rfl rfl rfl (fun c27 => ?_) (fun c27 => ?_)
          · have c27 : (nI q) < 0 := c27
            exact absurd c27 (nI_nlt0 (by omega))
          · have c27 : ¬ (nI q) < 0 := c27
            refine m_ild (pc' := 31) cd_Mo_list2 rfl (Or.inr ⟨_, rfl, rfl, rfl⟩) l1 rfl ?_
            refine m_k1 (v := 4) (pc' := 32) cd_Mo_list2 rfl (by decide) rfl ?_
            refine m_if2 (t := 39) (pc' := 35) cd_Mo_list2 rfl rfl rfl (fun c32 => ?_) (fun c32 => ?_)
            · have c32 : (nI q) < 4 := c32
              refine m_ild (pc' := 40) cd_Mo_list2 rfl (Or.inr ⟨_, rfl, rfl, rfl⟩) l1 rfl ?_
              refine m_ci (pc' := 43) cd_Mo_list2 rfl rfl rfl rfl rfl cd_Mo_refused rfl (Nat.le_of_ble_eq_true rfl) (m_refused (b := true) (mk := true) (dn := false) (p := q) h11 hdl h40 hws hs hq0.1.2.2.1 (fun q => nomatch q) (fun _ q => nomatch q) (fun _ _ => ?_))
              show mg _ _ _ 43 _ [.int 0] _ _
              refine m_ist (pc' := 44) cd_Mo_list2 rfl (Or.inr ⟨_, rfl, rfl, rfl⟩) (by decide) rfl (fun lv el => ?_)
              have l0 := tm_lk el l0 rfl (by decide)
              have l1 := tm_lk el l1 rfl (by decide)
              have l2 := tm_lk el l2 rfl (by decide)
              have l3 : lv.lookup 3 = some (.int 0) := tm_lks el
              clear el
              refine m_ild (pc' := 45) cd_Mo_list2 rfl (Or.inr ⟨_, rfl, rfl, rfl⟩) l3 rfl ?_
              refine m_if1 (t := 50) (pc' := 48) cd_Mo_list2 rfl rfl rfl (fun c45 => ?_) (fun c45 => ?_)
              · have c45 : (0 : Int32) = 0 := c45
                refine m_ald (pc' := 51) cd_Mo_list2 rfl (Or.inr ⟨_, rfl, rfl, rfl⟩) l0 rfl rfl ?_
                refine m_ild (pc' := 52) cd_Mo_list2 rfl (Or.inr ⟨_, rfl, rfl, rfl⟩) l1 rfl ?_
                refine m_cv (pc' := 55) cd_Mo_list2 rfl rfl rfl rfl rfl cd_Mo_load rfl (Nat.le_of_ble_eq_true rfl) (m_load hs (fun gw hgw => ?_))
                have hDw : qDv gw T (id, K0, K1, on, lnu, se, me) := qDv_c (List.prefix_refl T) hgw hdv
                have hG := hDw.2.2.2 q hq
                rw [eM] at hG
                show mg _ _ _ 55 _ [] _ _
                refine m_ild (pc' := 56) cd_Mo_list2 rfl (Or.inr ⟨_, rfl, rfl, rfl⟩) l1 rfl ?_
                refine m_si (pc' := 59) cd_Mo_list2 rfl rfl rfl rfl rfl cd_Mo_groupAt rfl (Nat.le_of_ble_eq_true rfl) (m_groupAt ?_)
                show mg _ _ _ 59 _ [.int (nI (486 + q * 279))] _ _
                refine m_ist (pc' := 61) cd_Mo_list2 rfl (Or.inl ⟨rfl, rfl⟩) (by decide) rfl (fun lv el => ?_)
                have l0 := tm_lk el l0 rfl (by decide)
                have l1 := tm_lk el l1 rfl (by decide)
                have l2 := tm_lk el l2 rfl (by decide)
                have l3 := tm_lk el l3 rfl (by decide)
                have l4 : lv.lookup 4 = some (.int (nI (486 + q * 279))) := tm_lks el
                clear el
                refine m_ild (pc' := 62) cd_Mo_list2 rfl (Or.inr ⟨_, rfl, rfl, rfl⟩) l2 rfl ?_
                refine m_ild (pc' := 63) cd_Mo_list2 rfl (Or.inr ⟨_, rfl, rfl, rfl⟩) l1 rfl ?_
                refine m_pure (pc' := 64) (st' := [.int (k >>> ((nI q) &&& 31))]) cd_Mo_list2 rfl rfl (fun _ _ => rfl) ?_
                refine m_k1 (v := 1) (pc' := 65) cd_Mo_list2 rfl (by decide) rfl ?_
                refine m_pure (pc' := 66) (st' := [.int ((k >>> ((nI q) &&& 31)) &&& 1)]) cd_Mo_list2 rfl rfl (fun _ _ => rfl) ?_
                refine m_if1 (t := 83) (pc' := 69) cd_Mo_list2 rfl rfl rfl (fun c66 => ?_) (fun c66 => ?_)
                · have c66 : ((k >>> ((nI q) &&& 31)) &&& 1) = 0 := c66
                  refine m_k2 (v := (-6)) (pc' := 85) cd_Mo_list2 rfl (by decide) rfl ?_
                  exact m_reti cd_Mo_list2 rfl ⟨_, rfl, (kN (Or.inl (hbit_f c66)) _ _ (fun k q1 q2 => fset_ne (by omega)) (by exact MT_i hM rfl rfl rfl rfl rfl rfl rfl rfl rfl rfl) (Or.inr rfl) (by exact (RS_p hS (List.prefix_refl T) h11 (show f 21 + 1 = ck + 1 by rw [h21]) ⟨rfl, rfl, rfl, rfl, rfl⟩ ⟨rfl, rfl, rfl, rfl, rfl, rfl, rfl, rfl, rfl, rfl, rfl, rfl, rfl, rfl, rfl, rfl, rfl, rfl, rfl, rfl, rfl, rfl, rfl, rfl, rfl, rfl, rfl⟩ hS.2.1.2.1 hS.2.2.2.2.1.1 hS.2.2.2.2.1.2.1 hS.2.2.2.2.1.2.2 hS.2.2.1.2)))⟩
                · have c66 : ¬ ((k >>> ((nI q) &&& 31)) &&& 1) = 0 := c66
                  refine m_ild (pc' := 70) cd_Mo_list2 rfl (Or.inr ⟨_, rfl, rfl, rfl⟩) l2 rfl ?_
                  refine m_ald (pc' := 71) cd_Mo_list2 rfl (Or.inr ⟨_, rfl, rfl, rfl⟩) l0 rfl rfl ?_
                  refine m_fR (r := 14) (a := 15) (ad := 1497) (pc' := 74) rfl rfl cd_Mo_list2 rfl rfl rfl rfl rfl ?_
                  refine m_ild (pc' := 76) cd_Mo_list2 rfl (Or.inl ⟨rfl, rfl⟩) l4 rfl ?_
                  refine m_k1 (v := 2) (pc' := 77) cd_Mo_list2 rfl (by decide) rfl ?_
                  refine m_pure (pc' := 78) (st' := [.int ((nI (486 + q * 279)) + 2), .ref 1497, .int k]) cd_Mo_list2 rfl rfl (fun _ _ => rfl) ?_
                  refine m_eq (show ((nI (486 + q * 279)) + 2 : Int32) = nI ((486 + q * 279) + 2) from nI_add (486 + q * 279) 2) ?_
                  refine m_aI (r := 14) (a := 15) (g := gw) (x := go) (pc' := 79) rfl rfl cd_Mo_list2 rfl rfl rfl (vp_in_nI (by omega) (by decide)) (by rw [(nI_clamp (by omega))]; exact hG.1.2.2.1) ?_
                  refine m_pure (pc' := 80) (st' := [.int (k &&& go)]) cd_Mo_list2 rfl rfl (fun _ _ => rfl) ?_
                  refine m_if1 (t := 86) (pc' := 83) cd_Mo_list2 rfl rfl rfl (fun c80 => ?_) (fun c80 => ?_)
                  · have c80 : (k &&& go) = 0 := c80
                    refine m_ald (pc' := 87) cd_Mo_list2 rfl (Or.inr ⟨_, rfl, rfl, rfl⟩) l0 rfl rfl ?_
                    refine m_ild (pc' := 88) cd_Mo_list2 rfl (Or.inr ⟨_, rfl, rfl, rfl⟩) l1 rfl ?_
                    refine m_ald (pc' := 89) cd_Mo_list2 rfl (Or.inr ⟨_, rfl, rfl, rfl⟩) l0 rfl rfl ?_
                    refine m_fR (r := 14) (a := 15) (ad := 1497) (pc' := 92) rfl rfl cd_Mo_list2 rfl rfl rfl rfl rfl ?_
                    refine m_ild (pc' := 94) cd_Mo_list2 rfl (Or.inl ⟨rfl, rfl⟩) l4 rfl ?_
                    refine m_k1 (v := 0) (pc' := 95) cd_Mo_list2 rfl (by decide) rfl ?_
                    refine m_pure (pc' := 96) (st' := [.int ((nI (486 + q * 279)) + 0), .ref 1497, .int (nI q), .ref 1482]) cd_Mo_list2 rfl rfl (fun _ _ => rfl) ?_
                    refine m_eq (show ((nI (486 + q * 279)) + 0 : Int32) = nI ((486 + q * 279) + 0) from nI_add (486 + q * 279) 0) ?_
                    refine m_aI (r := 14) (a := 15) (g := gw) (x := ve) (pc' := 97) rfl rfl cd_Mo_list2 rfl rfl rfl (vp_in_nI (by omega) (by decide)) (by rw [(nI_clamp (by omega))]; exact hG.1.1) ?_
                    refine m_k1 (v := 1) (pc' := 98) cd_Mo_list2 rfl (by decide) rfl ?_
                    refine m_pure (pc' := 99) (st' := [.int (ve + 1), .int (nI q), .ref 1482]) cd_Mo_list2 rfl rfl (fun _ _ => rfl) ?_
                    refine m_ild (pc' := 100) cd_Mo_list2 rfl (Or.inr ⟨_, rfl, rfl, rfl⟩) l2 rfl ?_
                    refine m_cv (pc' := 103) cd_Mo_list2 rfl rfl rfl rfl rfl cd_Mo_listed rfl (Nat.le_of_ble_eq_true rfl) (m_listed hq (by exact hG) (fun gL hG1 he1 => ?_))
                    rw [fset_fset]
                    show mg _ _ _ 103 _ [] _ _
                    refine m_ald (pc' := 104) cd_Mo_list2 rfl (Or.inr ⟨_, rfl, rfl, rfl⟩) l0 rfl rfl ?_
                    refine m_fR (r := 25) (a := 26) (ad := 1508) (pc' := 107) rfl rfl cd_Mo_list2 rfl rfl rfl rfl rfl ?_
                    refine m_k1 (v := 0) (pc' := 108) cd_Mo_list2 rfl (by decide) rfl ?_
                    refine m_ald (pc' := 109) cd_Mo_list2 rfl (Or.inr ⟨_, rfl, rfl, rfl⟩) l0 rfl rfl ?_
                    refine m_k2 (v := 6) (pc' := 111) cd_Mo_list2 rfl (by decide) rfl ?_
                    refine m_ald (pc' := 112) cd_Mo_list2 rfl (Or.inr ⟨_, rfl, rfl, rfl⟩) l0 rfl rfl ?_
                    refine m_fR (r := 15) (a := 16) (ad := 1498) (pc' := 115) rfl rfl cd_Mo_list2 rfl rfl rfl rfl rfl ?_
                    refine m_ild (pc' := 116) cd_Mo_list2 rfl (Or.inr ⟨_, rfl, rfl, rfl⟩) l1 rfl ?_
                    refine m_aI (r := 15) (a := 16) (g := (A 16)) (x := (A 16 q)) (pc' := 117) rfl rfl cd_Mo_list2 rfl rfl rfl (vp_in_nI (by omega) (by decide)) (congrArg (A 16) (nI_clamp (by omega))) ?_
                    refine m_ald (pc' := 118) cd_Mo_list2 rfl (Or.inr ⟨_, rfl, rfl, rfl⟩) l0 rfl rfl ?_
                    refine m_k2 (v := 6) (pc' := 120) cd_Mo_list2 rfl (by decide) rfl ?_
                    refine m_ild (pc' := 121) cd_Mo_list2 rfl (Or.inr ⟨_, rfl, rfl, rfl⟩) l1 rfl ?_
                    refine m_ald (pc' := 122) cd_Mo_list2 rfl (Or.inr ⟨_, rfl, rfl, rfl⟩) l0 rfl rfl ?_
                    refine m_fR (r := 14) (a := 15) (ad := 1497) (pc' := 125) rfl rfl cd_Mo_list2 rfl rfl rfl rfl rfl ?_
                    refine m_ild (pc' := 127) cd_Mo_list2 rfl (Or.inl ⟨rfl, rfl⟩) l4 rfl ?_
                    refine m_k1 (v := 0) (pc' := 128) cd_Mo_list2 rfl (by decide) rfl ?_
                    refine m_pure (pc' := 129) (st' := [.int ((nI (486 + q * 279)) + 0), .ref 1497, .int (nI q), .int 6, .ref 1482, .int ((A 16 q)), .int 6, .ref 1482, .int 0, .ref 1508]) cd_Mo_list2 rfl rfl (fun _ _ => rfl) ?_
                    refine m_eq (show ((nI (486 + q * 279)) + 0 : Int32) = nI ((486 + q * 279) + 0) from nI_add (486 + q * 279) 0) ?_
                    refine m_aI (r := 14) (a := 15) (g := gL) (x := (ve + 1)) (pc' := 130) rfl rfl cd_Mo_list2 rfl rfl rfl (vp_in_nI (by omega) (by decide)) (by rw [(nI_clamp (by omega))]; exact hG1.1.1) ?_
                    refine m_ild (pc' := 131) cd_Mo_list2 rfl (Or.inr ⟨_, rfl, rfl, rfl⟩) l2 rfl ?_
                    refine m_k1 (v := 0) (pc' := 132) cd_Mo_list2 rfl (by decide) rfl ?_
                    refine m_k1 (v := 0) (pc' := 133) cd_Mo_list2 rfl (by decide) rfl ?_
                    refine m_k1 (v := 0) (pc' := 134) cd_Mo_list2 rfl (by decide) rfl ?_
                    refine m_ci (pc' := 137) cd_Mo_list2 rfl rfl rfl rfl rfl cd_Mo_rowOf rfl (Nat.le_of_ble_eq_true rfl) (m_rowOf (by exact MT_i hM rfl rfl rfl rfl rfl rfl rfl rfl rfl rfl) (by omega) (by show rc (A 1) T.length < 1000; omega) (MT_z hM) (MT_z hM) (fun f1 A1 T1 r1 g1 hx1 hr1 => ?_))
                    obtain ⟨p1, q1, s1, hM1⟩ := hx1
                    have hM1 : MT f1 A1 T1 _ _ _ := MT_i hM1 rfl rfl rfl rfl rfl rfl rfl rfl rfl rfl
                    have s1 : rc (A1 1) T1.length ≤ rc (A 1) T.length + 1 := s1
                    show mg _ _ _ 137 _ [.int r1, .int ((A 16 q)), .int 6, .ref 1482, .int 0, .ref 1508] _ _
                    refine m_k1 (v := 0) (pc' := 138) cd_Mo_list2 rfl (by decide) rfl ?_
                    refine m_ci (pc' := 141) cd_Mo_list2 rfl rfl rfl rfl rfl cd_Mo_term rfl (Nat.le_of_ble_eq_true rfl) (m_signed (by exact MT_i hM1 rfl rfl rfl rfl rfl rfl rfl rfl rfl rfl) (by omega) (by show rc (A1 1) T1.length < 1000; omega) (tv_mono p1 hidt) hr1 (fun e => by rw [e] at kI; exact absurd kI (by decide)) (fun e => nomatch e) (fun f2 A2 T2 r2 hx2 hr2 => ?_))
                    obtain ⟨p2, q2, s2, hM2⟩ := hx2
                    have hM2 : MT f2 A2 T2 _ _ _ := MT_i hM2 rfl rfl rfl rfl rfl rfl rfl rfl rfl rfl
                    have s2 : rc (A2 1) T2.length ≤ rc (A1 1) T1.length + 0 := s2
                    show mg _ _ _ 141 _ [.int r2, .int 0, .ref 1508] _ _
                    refine m_aS (r := 25) (a := 26) (g := (A 26)) (p := 0) (pc' := 142) rfl rfl cd_Mo_list2 rfl rfl rfl (vp_in_nI (n := 0) (by decide) (by decide)) (show (0 : Int32).toNatClampNeg = 0 by decide) ?_
                    refine m_ald (pc' := 143) cd_Mo_list2 rfl (Or.inr ⟨_, rfl, rfl, rfl⟩) l0 rfl rfl ?_
                    refine m_k1 (v := 1) (pc' := 144) cd_Mo_list2 rfl (by decide) rfl ?_
                    refine m_pI (k := 30) (pc' := 147) cd_Mo_list2 rfl rfl rfl rfl (by simp [tm_okV, narrow, fits]) rfl rfl ?_
                    refine m_ald (pc' := 148) cd_Mo_list2 rfl (Or.inr ⟨_, rfl, rfl, rfl⟩) l0 rfl rfl ?_
                    refine m_ild (pc' := 149) cd_Mo_list2 rfl (Or.inr ⟨_, rfl, rfl, rfl⟩) l1 rfl ?_
                    have pT := p1.trans p2
                    have hND : qDv gL T2 (id, K0, K1, on, lnu, se, fset me q (mm_adopt (ve, ma, go, ge, ch, si, ix, ga, sl, gv) (ve + 1) k)) := qDv_grp hq hDw pT (qMm_c pT (fun _ _ _ => rfl) hG1) he1
                    refine m_ci (pc' := 152) cd_Mo_list2 rfl rfl rfl rfl rfl cd_Mo_commits rfl (Nat.le_of_ble_eq_true rfl) (m_commits0 (T := T2) (DL := DL) (dev := dev) (sto := sto) (ws := ws) (dir := dir) (reg := reg) (seen := seen) (ls := ls) (lo := lo) (R := (dt, db, rt, fl, ll, tl, tf, tg, tm, ck + 1, fo, du)) (NW := [(Tsg id (Trw 6 (nI q) (ve + 1) k 0 tz tz tz tz))]) (by exact MT_i hM2 rfl rfl rfl rfl rfl rfl rfl rfl rfl rfl) (by exact RS_p (DL' := DL) (ck' := ck + 1) (dir' := dir) (dt' := dt) (db' := db) (rt' := rt) (lo' := lo) hS pT h11 (show f 21 + 1 = ck + 1 by rw [h21]) ⟨rfl, rfl, rfl, rfl, rfl⟩ ⟨rfl, rfl, rfl, rfl, rfl, rfl, rfl, rfl, rfl, rfl, rfl, rfl, rfl, rfl, rfl, rfl, rfl, rfl, rfl, rfl, rfl, rfl, rfl, rfl, rfl, rfl, rfl⟩ (fun i hi => tv_mono pT (hS.2.1.2.1 i hi)) hS.2.2.2.2.1.1 hS.2.2.2.2.1.2.1 hS.2.2.2.2.1.2.2 hS.2.2.1.2) hs eI (by exact hND) hz0 hz1 hen hst rfl (by simp) (fun i X q => ?_) (fun X q => ?_) (by simp; omega) rfl (fun hc f4 A4 hM4 e16 hS4 => ?_) (fun hc f4 A4 hM4 e16 hS4 => ?_) (fun hc f4 A4 hM4 e16 hS4 => ?_))
                    · skip
                      rcases i with _ | i
                      · cases q
                        exact hr2
                      · simp at q
                    · skip
                      rw [List.mem_singleton.mp q]
                      exact fun e => nomatch e
                    · skip
                      show mg _ _ _ 152 _ [.int 0] _ _
                      refine m_if1 (t := 164) (pc' := 155) cd_Mo_list2 rfl rfl rfl (fun c152 => ?_) (fun c152 => ?_)
                      · have c152 : (0 : Int32) = 0 := c152
                        refine m_k2 (v := (-4)) (pc' := 166) cd_Mo_list2 rfl (by decide) rfl ?_
                        exact m_reti cd_Mo_list2 rfl ⟨_, rfl, (k0 (hbit_t c66) c80 hc _ _ _ pT (by omega) (show rc (A2 1) _ ≤ _ by omega) hM4 (Or.inr e16) hS4)⟩
                      · exact absurd (show ¬ (0 : Int32) = 0 from c152) (by decide)
                    · skip
                      show mg _ _ _ 152 _ [.int 0] _ _
                      refine m_if1 (t := 164) (pc' := 155) cd_Mo_list2 rfl rfl rfl (fun c152 => ?_) (fun c152 => ?_)
                      · have c152 : (0 : Int32) = 0 := c152
                        refine m_k2 (v := (-4)) (pc' := 166) cd_Mo_list2 rfl (by decide) rfl ?_
                        exact m_reti cd_Mo_list2 rfl ⟨_, rfl, (k1 (hbit_t c66) c80 hc _ _ _ pT (by omega) (show rc (A2 1) _ ≤ _ by omega) hM4 (Or.inr e16) hS4)⟩
                      · exact absurd (show ¬ (0 : Int32) = 0 from c152) (by decide)
                    · skip
                      have hM4 := MT_G hM4 (G' := fun y => G y ∨ y = (Tsg id (Trw 6 (nI q) (ve + 1) k 0 tz tz tz tz))) (W' := Kw) (fun y => by rw [List.mem_singleton]) (fun _ => Iff.rfl)
                      have hf40 := hS4.2.1.1.1.1
                      rw [List.length_append] at hf40
                      show mg _ _ _ 152 _ [.int 1] _ _
                      refine m_if1 (t := 164) (pc' := 155) cd_Mo_list2 rfl rfl rfl (fun c152 => ?_) (fun c152 => ?_)
                      · exact absurd (show (1 : Int32) = 0 from c152) (by decide)
                      · have c152 : ¬ (1 : Int32) = 0 := c152
                        refine m_ald (pc' := 156) cd_Mo_list2 rfl (Or.inr ⟨_, rfl, rfl, rfl⟩) l0 rfl rfl ?_
                        refine m_fI (k := 40) (x := (nI (ws.length + 1))) (pc' := 159) cd_Mo_list2 rfl rfl rfl rfl rfl hf40 ?_
                        refine m_k1 (v := 1) (pc' := 160) cd_Mo_list2 rfl (by decide) rfl ?_
                        refine m_pure (pc' := 161) (st' := [.int ((nI (ws.length + 1)) - 1)]) cd_Mo_list2 rfl rfl (fun _ _ => rfl) ?_
                        refine m_eq (show ((nI (ws.length + 1)) - 1 : Int32) = nI ws.length from pk_sub (a := ws.length + 1) (b := 1) (by omega)) ?_
                        refine m_pure (pc' := 166) (st' := [.int (nI ws.length)]) cd_Mo_list2 rfl rfl (fun _ _ => rfl) ?_
                        exact m_reti cd_Mo_list2 rfl ⟨_, rfl, (k2 (hbit_t c66) c80 hc _ _ _ pT (by omega) (show rc (A2 1) _ ≤ _ by omega) hM4 (e16.imp (fun z => z) (fun q => ⟨q.1, q.2 _ (by simp)⟩)) hS4)⟩
                  · have c80 : ¬ (k &&& go) = 0 := c80
                    refine m_k2 (v := (-6)) (pc' := 85) cd_Mo_list2 rfl (by decide) rfl ?_
                    exact m_reti cd_Mo_list2 rfl ⟨_, rfl, (kN (Or.inr c80) _ _ (fun k q1 q2 => fset_ne (by omega)) (by exact MT_i hM rfl rfl rfl rfl rfl rfl rfl rfl rfl rfl) (Or.inr rfl) (by exact (RS_p hS (List.prefix_refl T) h11 (show f 21 + 1 = ck + 1 by rw [h21]) ⟨rfl, rfl, rfl, rfl, rfl⟩ ⟨rfl, rfl, rfl, rfl, rfl, rfl, rfl, rfl, rfl, rfl, rfl, rfl, rfl, rfl, rfl, rfl, rfl, rfl, rfl, rfl, rfl, rfl, rfl, rfl, rfl, rfl, rfl⟩ hS.2.1.2.1 hS.2.2.2.2.1.1 hS.2.2.2.2.1.2.1 hS.2.2.2.2.1.2.2 hS.2.2.1.2)))⟩
              · exact absurd (show ¬ (0 : Int32) = 0 from c45) (by decide)
            · have c32 : ¬ (nI q) < 4 := c32
              exact absurd ((nI_ltI (b := 4) (by omega) (by omega)).mpr hq) c32
