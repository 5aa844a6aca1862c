/-! The reference: commits -/
theorem nI_nm1 {k : Nat} (h : k < 1000000) : ¬ nI k = -1 := fun e => by have := congrArg Int32.toInt e; rw [nI_toInt (by omega)] at this; exact absurd this (by show ¬ (k : Int) = -1; omega)
set_option maxRecDepth 100000 in
theorem m_commits0 {sc : tm_X} {d : Nat} {f : Nat → Int32} {A : Nat → Nat → Int32} {T : List Tm} {DL : List (Int32 × Int32)} {G Kw : Tm → Prop} {dev : Nat → DV} {sto : Nat → ST} {ws : List (Tm × Int32)} {dir reg : Nat → Tm} {seen : List Tm} {ls : List RL} {lo : Nat → Int32} {R : RR} {p : Nat} {id : Tm} {K0 K1 : PK} {on : List (Tm × Int32)} {lnu : Int32} {se : Nat → List SS} {me : Nat → MM} {p0 : Bool} {P O : EN2} {c : Option Nat} {NW : List Tm} {Q : Int32 → MS → Prop} (hM : MT f A T DL G Kw) (hS : RS f A T DL dev sto ws dir reg seen ls lo R) (hp : p < 6) (eid : (dev p).1 = id) (hD : qDv (A 15) T (id, K0, K1, on, lnu, se, me)) (hz0 : K0.1 = tz ↔ K0.2.1 = 0) (hz1 : K1.1 = tz ↔ K1.2.1 = 0) (hW : (dv_en (id, K0, K1, on, lnu, se, me)).length ≤ 536) (hst : sto p = (p0, P, O, c, false)) (h30 : f 30 = nI NW.length) (hnw : NW.length ≤ 16) (h26 : ∀ (i : Nat) (X : Tm), NW[i]? = some X → tv T (A 26 i) X) (hz : ∀ X, X ∈ NW → X ≠ tz) (hl : ws.length + NW.length ≤ 700) (h32 : f 32 = 0) (k0 : (st_commit p0 P c (dv_en (id, K0, K1, on, lnu, se, me))).1 = 0 → ∀ f1 A1, MT (mjCf f1 f) (mjCA A1 A) T DL G Kw → mjCf f1 f 16 = f 16 → RS (mjCf f1 f) (mjCA A1 A) T DL dev (fset sto p (st_commit p0 P c (dv_en (id, K0, K1, on, lnu, se, me))).2) ws dir reg seen ls lo R → Q 0 (mjCf f1 f, mjCA A1 A)) (k1 : (st_commit p0 P c (dv_en (id, K0, K1, on, lnu, se, me))).1 = 1 → ∀ f1 A1, MT (mjCf f1 f) (mjCA A1 A) T DL G Kw → mjCf f1 f 16 = f 16 → RS (mjCf f1 f) (mjCA A1 A) T DL (fset dev p (id, K0, K1, on, lnu, se, me)) (fset sto p (st_commit p0 P c (dv_en (id, K0, K1, on, lnu, se, me))).2) ws dir reg seen ls lo R → Q 0 (mjCf f1 f, mjCA A1 A)) (k2 : (st_commit p0 P c (dv_en (id, K0, K1, on, lnu, se, me))).1 = 2 → ∀ f1 A1, MT (mjCf f1 f) (mjCA A1 A) T DL (fun y => G y ∨ y ∈ NW) Kw → (mjCf f1 f 16 = 1 ∨ (mjCf f1 f 16 = f 16 ∧ ∀ y, y ∈ NW → G y)) → RS (mjCf f1 f) (mjCA A1 A) T DL (fset dev p (id, K0, K1, on, lnu, se, me)) (fset sto p (st_commit p0 P c (dv_en (id, K0, K1, on, lnu, se, me))).2) (ws ++ NW.map (fun X => (X, -1))) dir reg seen (ls) (lo) R → Q 1 (mjCf f1 f, mjCA A1 A)) : mGi sc (d + 4) 203 [.ref 1482, .int (nI p)] (f, A) Q := by
  have h0 := hS.1.2.2 p hp
  rw [hst] at h0
  have hP := (st_other h0).2
  have hbP := bk_67 hP
  have hbW := bk_67 hW
  have hsb := sh_lt p0
  have h21 : A 21 p = nI (sh p0) := h0.1.1.trans (bz_sh p0)
  have h20 : A 20 (2 * p + sh p0) = nI P.length := h0.2.1.1.1
  have h23 := h0.1.2.1
  have hid : tv T (A 16 p) id := eid ▸ hS.1.1 p hp
  generalize eW : dv_en (id, K0, K1, on, lnu, se, me) = W at *
  show mg sc (d + 4) 203 0 [(0, .ref 1482), (1, .int (nI p))] [] (f, A) _
  generalize elv : ([(0, .ref 1482), (1, .int (nI p))] : tm_L) = lv
  have l0 : lv.lookup 0 = some (.ref 1482) := by rw [← elv]; rfl
  have l1 : lv.lookup 1 = some (.int (nI p)) := by rw [← elv]; rfl
  clear elv
  rcases c with _ | k
  · skip
    refine m_ald (pc' := 1) cd_Mo_commits rfl (Or.inr ⟨_, rfl, rfl, rfl⟩) l0 rfl rfl ?_
    refine m_ild (pc' := 2) cd_Mo_commits rfl (Or.inr ⟨_, rfl, rfl, rfl⟩) l1 rfl ?_
    refine m_cv (pc' := 5) cd_Mo_commits rfl rfl rfl rfl rfl cd_Mo_list rfl (Nat.le_of_ble_eq_true rfl) (m_list hM hp hid hD hz0 hz1 (by rw [eW]; omega) (fun g hE => ?_))
    rw [eW] at hE ⊢
    show mg _ _ _ 5 _ [] _ _
    refine m_ald (pc' := 6) cd_Mo_commits rfl (Or.inr ⟨_, rfl, rfl, rfl⟩) l0 rfl rfl ?_
    refine m_fI (k := 38) (x := (nI W.length)) (pc' := 9) cd_Mo_commits rfl rfl rfl rfl rfl rfl ?_
    refine m_si (pc' := 12) cd_Mo_commits rfl rfl rfl rfl rfl cd_Mo_blocksOf rfl (Nat.le_of_ble_eq_true rfl) (m_blocksOf (by omega) ?_)
    show mg _ _ _ 12 _ [.int (nI (bk W.length))] _ _
    refine m_k1 (v := 1) (pc' := 13) cd_Mo_commits rfl (by decide) rfl ?_
    refine m_pure (pc' := 14) (st' := [.int ((nI (bk W.length)) + 1)]) cd_Mo_commits rfl rfl (fun _ _ => rfl) ?_
    refine m_eq (show ((nI (bk W.length)) + 1 : Int32) = nI ((bk W.length) + 1) from nI_add (bk W.length) 1) ?_
    refine m_ald (pc' := 15) cd_Mo_commits rfl (Or.inr ⟨_, rfl, rfl, rfl⟩) l0 rfl rfl ?_
    refine m_fR (r := 19) (a := 20) (ad := 1502) (pc' := 18) rfl rfl cd_Mo_commits rfl rfl rfl rfl rfl ?_
    refine m_k1 (v := 2) (pc' := 19) cd_Mo_commits rfl (by decide) rfl ?_
    refine m_ild (pc' := 20) cd_Mo_commits rfl (Or.inr ⟨_, rfl, rfl, rfl⟩) l1 rfl ?_
    refine m_pure (pc' := 21) (st' := [.int ((2 : Int32) * (nI p)), .ref 1502, .int (nI ((bk W.length) + 1))]) cd_Mo_commits rfl rfl (fun _ _ => rfl) ?_
    refine m_eq (show ((2 : Int32) * (nI p) : Int32) = nI (2 * p) from pk_mul 2 p) ?_
    refine m_ald (pc' := 22) cd_Mo_commits rfl (Or.inr ⟨_, rfl, rfl, rfl⟩) l0 rfl rfl ?_
    refine m_fR (r := 20) (a := 21) (ad := 1503) (pc' := 25) rfl rfl cd_Mo_commits rfl rfl rfl rfl rfl ?_
    refine m_ild (pc' := 26) cd_Mo_commits rfl (Or.inr ⟨_, rfl, rfl, rfl⟩) l1 rfl ?_
    refine m_aI (r := 20) (a := 21) (g := (A 21)) (x := (nI (sh p0))) (pc' := 27) rfl rfl cd_Mo_commits rfl rfl rfl (vp_in_nI (by omega) (by decide)) ((congrArg (A 21) (nI_clamp (by omega))).trans h21) ?_
    refine m_pure (pc' := 28) (st' := [.int ((nI (2 * p)) + (nI (sh p0))), .ref 1502, .int (nI ((bk W.length) + 1))]) cd_Mo_commits rfl rfl (fun _ _ => rfl) ?_
    refine m_eq (show ((nI (2 * p)) + (nI (sh p0)) : Int32) = nI ((2 * p) + (sh p0)) from nI_add (2 * p) (sh p0)) ?_
    refine m_aI (r := 19) (a := 20) (g := (A 20)) (x := (nI P.length)) (pc' := 29) rfl rfl cd_Mo_commits rfl rfl rfl (vp_in_nI (by omega) (by decide)) ((congrArg (A 20) (nI_clamp (by omega))).trans h20) ?_
    refine m_si (pc' := 32) cd_Mo_commits rfl rfl rfl rfl rfl cd_Mo_blocksOf rfl (Nat.le_of_ble_eq_true rfl) (m_blocksOf (by omega) ?_)
    show mg _ _ _ 32 _ [.int (nI (bk P.length)), .int (nI ((bk W.length) + 1))] _ _
    refine m_pure (pc' := 33) (st' := [.int ((nI ((bk W.length) + 1)) + (nI (bk P.length)))]) cd_Mo_commits rfl rfl (fun _ _ => rfl) ?_
    refine m_eq (show ((nI ((bk W.length) + 1)) + (nI (bk P.length)) : Int32) = nI (((bk W.length) + 1) + (bk P.length)) from nI_add ((bk W.length) + 1) (bk P.length)) ?_
    refine m_ist (pc' := 34) cd_Mo_commits rfl (Or.inr ⟨_, rfl, rfl, rfl⟩) (by decide) rfl (fun lv el => ?_)
    have l0 := tm_lk el l0 rfl (by decide)
    have l1 := tm_lk el l1 rfl (by decide)
    have l2 : lv.lookup 2 = some (.int (nI (((bk W.length) + 1) + (bk P.length)))) := tm_lks el
    clear el
    refine m_ald (pc' := 35) cd_Mo_commits rfl (Or.inr ⟨_, rfl, rfl, rfl⟩) l0 rfl rfl ?_
    refine m_fR (r := 22) (a := 23) (ad := 1505) (pc' := 38) rfl rfl cd_Mo_commits rfl rfl rfl rfl rfl ?_
    refine m_ild (pc' := 39) cd_Mo_commits rfl (Or.inr ⟨_, rfl, rfl, rfl⟩) l1 rfl ?_
    refine m_aI (r := 22) (a := 23) (g := (A 23)) (x := (-1)) (pc' := 40) rfl rfl cd_Mo_commits rfl rfl rfl (vp_in_nI (by omega) (by decide)) ((congrArg (A 23) (nI_clamp (by omega))).trans h23) ?_
    refine m_ist (pc' := 41) cd_Mo_commits rfl (Or.inr ⟨_, rfl, rfl, rfl⟩) (by decide) rfl (fun lv el => ?_)
    have l0 := tm_lk el l0 rfl (by decide)
    have l1 := tm_lk el l1 rfl (by decide)
    have l2 := tm_lk el l2 rfl (by decide)
    have l3 : lv.lookup 3 = some (.int (-1)) := tm_lks el
    clear el
    refine m_ald (pc' := 42) cd_Mo_commits rfl (Or.inr ⟨_, rfl, rfl, rfl⟩) l0 rfl rfl ?_
    refine m_fR (r := 22) (a := 23) (ad := 1505) (pc' := 45) rfl rfl cd_Mo_commits rfl rfl rfl rfl rfl ?_
    refine m_ild (pc' := 46) cd_Mo_commits rfl (Or.inr ⟨_, rfl, rfl, rfl⟩) l1 rfl ?_
    refine m_k1 (v := (-1)) (pc' := 47) cd_Mo_commits rfl (by decide) rfl ?_
    refine m_aS (r := 22) (a := 23) (g := (A 23)) (p := p) (pc' := 48) rfl rfl cd_Mo_commits rfl rfl rfl (vp_in_nI (by omega) (by decide)) (nI_clamp (by omega)) ?_
    refine m_ild (pc' := 49) cd_Mo_commits rfl (Or.inr ⟨_, rfl, rfl, rfl⟩) l3 rfl ?_
    refine m_k1 (v := (-1)) (pc' := 50) cd_Mo_commits rfl (by decide) rfl ?_
    refine m_if2 (t := 58) (pc' := 53) cd_Mo_commits rfl rfl rfl (fun c50 => ?_) (fun c50 => ?_)
    · have c50 : ((-1) : Int32) = (-1) := c50
      refine m_ald (pc' := 59) cd_Mo_commits rfl (Or.inr ⟨_, rfl, rfl, rfl⟩) l0 rfl rfl ?_
      refine m_ild (pc' := 60) cd_Mo_commits rfl (Or.inr ⟨_, rfl, rfl, rfl⟩) l1 rfl ?_
      refine m_ild (pc' := 61) cd_Mo_commits rfl (Or.inr ⟨_, rfl, rfl, rfl⟩) l2 rfl ?_
      refine m_ci (pc' := 64) cd_Mo_commits rfl rfl rfl rfl rfl cd_Mo_write rfl (Nat.le_of_ble_eq_true rfl) (m_write (o := sh p0) (N := W.length) (m := (bk W.length + 1 + bk P.length)) (n0 := P.length) hp hsb hW (by omega) hP rfl h21 h20 (fun hmb _ _ _ _ _ => ?_) (fun hmb A1 e18 e19 e20 e21 eA => ?_))
      · skip
        exact absurd hmb (by omega)
      · skip
        show mg _ _ _ 64 _ [.int 1] _ _
        refine m_pure (pc' := 65) (st' := []) cd_Mo_commits rfl rfl (fun _ _ => rfl) ?_
        refine m_ald (pc' := 66) cd_Mo_commits rfl (Or.inr ⟨_, rfl, rfl, rfl⟩) l0 rfl rfl ?_
        refine m_fR (r := 19) (a := 20) (ad := 1502) (pc' := 69) rfl rfl cd_Mo_commits rfl rfl rfl rfl rfl ?_
        refine m_k1 (v := 2) (pc' := 70) cd_Mo_commits rfl (by decide) rfl ?_
        refine m_ild (pc' := 71) cd_Mo_commits rfl (Or.inr ⟨_, rfl, rfl, rfl⟩) l1 rfl ?_
        refine m_pure (pc' := 72) (st' := [.int ((2 : Int32) * (nI p)), .ref 1502]) cd_Mo_commits rfl rfl (fun _ _ => rfl) ?_
        refine m_eq (show ((2 : Int32) * (nI p) : Int32) = nI (2 * p) from pk_mul 2 p) ?_
        refine m_k1 (v := 1) (pc' := 73) cd_Mo_commits rfl (by decide) rfl ?_
        refine m_pure (pc' := 74) (st' := [.int ((nI (2 * p)) + 1), .ref 1502]) cd_Mo_commits rfl rfl (fun _ _ => rfl) ?_
        refine m_eq (show ((nI (2 * p)) + 1 : Int32) = nI ((2 * p) + 1) from nI_add (2 * p) 1) ?_
        refine m_ald (pc' := 75) cd_Mo_commits rfl (Or.inr ⟨_, rfl, rfl, rfl⟩) l0 rfl rfl ?_
        refine m_fR (r := 20) (a := 21) (ad := 1503) (pc' := 78) rfl rfl cd_Mo_commits rfl rfl rfl rfl rfl ?_
        refine m_ild (pc' := 79) cd_Mo_commits rfl (Or.inr ⟨_, rfl, rfl, rfl⟩) l1 rfl ?_
        refine m_aI (r := 20) (a := 21) (g := (A1 21)) (x := (nI (1 - sh p0))) (pc' := 80) rfl rfl cd_Mo_commits rfl rfl rfl (vp_in_nI (by omega) (by decide)) (by rw [(nI_clamp (by omega)), e21]; exact upd_same) ?_
        refine m_pure (pc' := 81) (st' := [.int ((nI ((2 * p) + 1)) - (nI (1 - sh p0))), .ref 1502]) cd_Mo_commits rfl rfl (fun _ _ => rfl) ?_
        refine m_eq (show ((nI ((2 * p) + 1)) - (nI (1 - sh p0)) : Int32) = nI (((2 * p) + 1) - (1 - sh p0)) from pk_sub (a := ((2 * p) + 1)) (b := (1 - sh p0)) (by omega)) ?_
        refine m_k1 (v := 0) (pc' := 82) cd_Mo_commits rfl (by decide) rfl ?_
        refine m_aS (r := 19) (a := 20) (g := (A1 20)) (p := (((2 * p) + 1) - (1 - sh p0))) (pc' := 83) rfl rfl cd_Mo_commits rfl rfl rfl (vp_in_nI (by omega) (by decide)) (nI_clamp (by omega)) ?_
        refine m_ald (pc' := 84) cd_Mo_commits rfl (Or.inr ⟨_, rfl, rfl, rfl⟩) l0 rfl rfl ?_
        refine m_ild (pc' := 85) cd_Mo_commits rfl (Or.inr ⟨_, rfl, rfl, rfl⟩) l1 rfl ?_
        refine m_cv (pc' := 88) cd_Mo_commits rfl rfl rfl rfl rfl cd_Mo_keep rfl (Nat.le_of_ble_eq_true rfl) (m_keep hp (fun g14 hg14 => ?_))
        show mg _ _ _ 88 _ [] _ _
        refine m_ald (pc' := 89) cd_Mo_commits rfl (Or.inr ⟨_, rfl, rfl, rfl⟩) l0 rfl rfl ?_
        refine m_ild (pc' := 90) cd_Mo_commits rfl (Or.inr ⟨_, rfl, rfl, rfl⟩) l1 rfl ?_
        refine m_cv (pc' := 93) cd_Mo_commits rfl rfl rfl rfl rfl cd_Mo_tell rfl (Nat.le_of_ble_eq_true rfl) (m_tell0 (show MT (fset f 38 (nI W.length)) (fset (fset (mjW A1 (fset (fset A 27 g) 23 (upd (A 23) p (-1)))) 20 (upd (A1 20) (2 * p + 1 - (1 - sh p0)) 0)) 14 g14) T DL G Kw from hM) h30 hnw h26 hz (show qWi (fset f 38 (nI W.length)) (fset (fset (mjW A1 (fset (fset A 27 g) 23 (upd (A 23) p (-1)))) 20 (upd (A1 20) (2 * p + 1 - (1 - sh p0)) 0)) 14 g14) T ws from qWi_m (List.prefix_refl T) rfl rfl rfl hS.2.1.1) hl h32 (fun f2 A2 hM2 hq2 hst2 e43 eA2 => ?_))
        show mg _ _ _ 93 _ [] _ _
        refine m_k1 (v := 1) (pc' := 94) cd_Mo_commits rfl (by decide) rfl ?_
        have esc : st_commit p0 P none W = (2, !p0, W, [], none, false) := by
          rw [st_commit_2 rfl (show (bk W.length + 1 + bk P.length) = st_made none (bk W.length + 1 + bk P.length) from rfl) (by omega) (by omega)]
          rw [List.drop_of_length_le (by have := bk_ge P.length; omega)]
        have ef3 : ∀ k, ¬ (k = 16 ∨ k = 38 ∨ k = 40 ∨ k = 43) → mjTf f2 (fset f 38 (nI W.length)) k = f k := fun k q => (if_neg (by omega)).trans (fset_ne (by omega))
        have eA3 : ∀ j, ¬ (j = 5 ∨ j = 13 ∨ j = 14 ∨ (18 ≤ j ∧ j ≤ 23) ∨ (27 ≤ j ∧ j ≤ 38)) → mjTA A2 (fset (fset (mjW A1 (fset (fset A 27 g) 23 (upd (A 23) p (-1)))) 20 (upd (A1 20) (2 * p + 1 - (1 - sh p0)) 0)) 14 g14) j = A j := (fun j q => (if_neg (by omega)).trans ((fset_ne (by omega)).trans ((fset_ne (by omega)).trans ((if_neg (by omega)).trans ((fset_ne (by omega)).trans (fset_ne (by omega)))))))
        have k3 := k2 (by rw [esc]) (mjTf f2 (fset f 38 (nI W.length))) (mjTA A2 (fset (fset (mjW A1 (fset (fset A 27 g) 23 (upd (A 23) p (-1)))) 20 (upd (A1 20) (2 * p + 1 - (1 - sh p0)) 0)) 14 g14))
        rw [mjCf_of ef3, mjCA_of eA3, esc] at k3
        have ix : 2 * p + 1 - (1 - sh p0) = 2 * p + sh p0 := by omega
        have g20 : mjTA A2 (fset (fset (mjW A1 (fset (fset A 27 g) 23 (upd (A 23) p (-1)))) 20 (upd (A1 20) (2 * p + 1 - (1 - sh p0)) 0)) 14 g14) 20 = upd (upd (A 20) (2 * p + (1 - sh p0)) (nI W.length)) (2 * p + sh p0) 0 := (show upd (A1 20) (2 * p + 1 - (1 - sh p0)) 0 = _ by rw [ix, e20]; rfl)
        rw [show min (bk P.length) ((bk W.length + 1 + bk P.length) - bk W.length - 1) = bk P.length by omega] at e19
        have hLS : qLs (mjTf f2 (fset f 38 (nI W.length))) (mjTA A2 (fset (fset (mjW A1 (fset (fset A 27 g) 23 (upd (A 23) p (-1)))) 20 (upd (A1 20) (2 * p + 1 - (1 - sh p0)) 0)) 14 g14)) T ls := (qLs_m (List.prefix_refl T) e43 (fun j h1 h2 => (if_pos (by omega)).trans ((eA2 j (by omega) (by omega) (by omega)).trans ((fset_ne (by omega)).trans ((fset_ne (by omega)).trans ((if_neg (by omega)).trans ((fset_ne (by omega)).trans (fset_ne (by omega)))))))) hS.2.2.1.1)
        have h13 : mjTA A2 (fset (fset (mjW A1 (fset (fset A 27 g) 23 (upd (A 23) p (-1)))) 20 (upd (A1 20) (2 * p + 1 - (1 - sh p0)) 0)) 14 g14) 13 = lo := (eA2 13 (by decide) (by decide) (by decide)).trans hS.2.2.1.2
        exact m_retz cd_Mo_commits rfl (Or.inr rfl) ⟨_, rfl, (k3 hM2 hst2 (cm_2 (f' := mjTf f2 (fset f 38 (nI W.length))) (A' := mjTA A2 (fset (fset (mjW A1 (fset (fset A 27 g) 23 (upd (A 23) p (-1)))) 20 (upd (A1 20) (2 * p + 1 - (1 - sh p0)) 0)) 14 g14)) (en := g) (w := A 15) hS hp hst hE hW e18 e19 g20 e21 (eA 22 (by decide) (by decide) (by decide) (by decide)) (eA 23 (by decide) (by decide) (by decide) (by decide)) hD eid.symm hg14.1 hg14.2 hq2 hLS h13 ⟨rfl, rfl, rfl, rfl⟩ rfl ⟨rfl, rfl, rfl, rfl, rfl, rfl, rfl, rfl, rfl⟩ ⟨rfl, rfl, rfl, rfl⟩))⟩
    · exact absurd (show ¬ ((-1) : Int32) = (-1) from c50) (by decide)
  · have hk200 : k ≤ 200 := h0.1.2.2.2 k rfl
    refine m_ald (pc' := 1) cd_Mo_commits rfl (Or.inr ⟨_, rfl, rfl, rfl⟩) l0 rfl rfl ?_
    refine m_ild (pc' := 2) cd_Mo_commits rfl (Or.inr ⟨_, rfl, rfl, rfl⟩) l1 rfl ?_
    refine m_cv (pc' := 5) cd_Mo_commits rfl rfl rfl rfl rfl cd_Mo_list rfl (Nat.le_of_ble_eq_true rfl) (m_list hM hp hid hD hz0 hz1 (by rw [eW]; omega) (fun g hE => ?_))
    rw [eW] at hE ⊢
    show mg _ _ _ 5 _ [] _ _
    refine m_ald (pc' := 6) cd_Mo_commits rfl (Or.inr ⟨_, rfl, rfl, rfl⟩) l0 rfl rfl ?_
    refine m_fI (k := 38) (x := (nI W.length)) (pc' := 9) cd_Mo_commits rfl rfl rfl rfl rfl rfl ?_
    refine m_si (pc' := 12) cd_Mo_commits rfl rfl rfl rfl rfl cd_Mo_blocksOf rfl (Nat.le_of_ble_eq_true rfl) (m_blocksOf (by omega) ?_)
    show mg _ _ _ 12 _ [.int (nI (bk W.length))] _ _
    refine m_k1 (v := 1) (pc' := 13) cd_Mo_commits rfl (by decide) rfl ?_
    refine m_pure (pc' := 14) (st' := [.int ((nI (bk W.length)) + 1)]) cd_Mo_commits rfl rfl (fun _ _ => rfl) ?_
    refine m_eq (show ((nI (bk W.length)) + 1 : Int32) = nI ((bk W.length) + 1) from nI_add (bk W.length) 1) ?_
    refine m_ald (pc' := 15) cd_Mo_commits rfl (Or.inr ⟨_, rfl, rfl, rfl⟩) l0 rfl rfl ?_
    refine m_fR (r := 19) (a := 20) (ad := 1502) (pc' := 18) rfl rfl cd_Mo_commits rfl rfl rfl rfl rfl ?_
    refine m_k1 (v := 2) (pc' := 19) cd_Mo_commits rfl (by decide) rfl ?_
    refine m_ild (pc' := 20) cd_Mo_commits rfl (Or.inr ⟨_, rfl, rfl, rfl⟩) l1 rfl ?_
    refine m_pure (pc' := 21) (st' := [.int ((2 : Int32) * (nI p)), .ref 1502, .int (nI ((bk W.length) + 1))]) cd_Mo_commits rfl rfl (fun _ _ => rfl) ?_
    refine m_eq (show ((2 : Int32) * (nI p) : Int32) = nI (2 * p) from pk_mul 2 p) ?_
    refine m_ald (pc' := 22) cd_Mo_commits rfl (Or.inr ⟨_, rfl, rfl, rfl⟩) l0 rfl rfl ?_
    refine m_fR (r := 20) (a := 21) (ad := 1503) (pc' := 25) rfl rfl cd_Mo_commits rfl rfl rfl rfl rfl ?_
    refine m_ild (pc' := 26) cd_Mo_commits rfl (Or.inr ⟨_, rfl, rfl, rfl⟩) l1 rfl ?_
    refine m_aI (r := 20) (a := 21) (g := (A 21)) (x := (nI (sh p0))) (pc' := 27) rfl rfl cd_Mo_commits rfl rfl rfl (vp_in_nI (by omega) (by decide)) ((congrArg (A 21) (nI_clamp (by omega))).trans h21) ?_
    refine m_pure (pc' := 28) (st' := [.int ((nI (2 * p)) + (nI (sh p0))), .ref 1502, .int (nI ((bk W.length) + 1))]) cd_Mo_commits rfl rfl (fun _ _ => rfl) ?_
    refine m_eq (show ((nI (2 * p)) + (nI (sh p0)) : Int32) = nI ((2 * p) + (sh p0)) from nI_add (2 * p) (sh p0)) ?_
    refine m_aI (r := 19) (a := 20) (g := (A 20)) (x := (nI P.length)) (pc' := 29) rfl rfl cd_Mo_commits rfl rfl rfl (vp_in_nI (by omega) (by decide)) ((congrArg (A 20) (nI_clamp (by omega))).trans h20) ?_
    refine m_si (pc' := 32) cd_Mo_commits rfl rfl rfl rfl rfl cd_Mo_blocksOf rfl (Nat.le_of_ble_eq_true rfl) (m_blocksOf (by omega) ?_)
    show mg _ _ _ 32 _ [.int (nI (bk P.length)), .int (nI ((bk W.length) + 1))] _ _
    refine m_pure (pc' := 33) (st' := [.int ((nI ((bk W.length) + 1)) + (nI (bk P.length)))]) cd_Mo_commits rfl rfl (fun _ _ => rfl) ?_
    refine m_eq (show ((nI ((bk W.length) + 1)) + (nI (bk P.length)) : Int32) = nI (((bk W.length) + 1) + (bk P.length)) from nI_add ((bk W.length) + 1) (bk P.length)) ?_
    refine m_ist (pc' := 34) cd_Mo_commits rfl (Or.inr ⟨_, rfl, rfl, rfl⟩) (by decide) rfl (fun lv el => ?_)
    have l0 := tm_lk el l0 rfl (by decide)
    have l1 := tm_lk el l1 rfl (by decide)
    have l2 : lv.lookup 2 = some (.int (nI (((bk W.length) + 1) + (bk P.length)))) := tm_lks el
    clear el
    refine m_ald (pc' := 35) cd_Mo_commits rfl (Or.inr ⟨_, rfl, rfl, rfl⟩) l0 rfl rfl ?_
    refine m_fR (r := 22) (a := 23) (ad := 1505) (pc' := 38) rfl rfl cd_Mo_commits rfl rfl rfl rfl rfl ?_
    refine m_ild (pc' := 39) cd_Mo_commits rfl (Or.inr ⟨_, rfl, rfl, rfl⟩) l1 rfl ?_
    refine m_aI (r := 22) (a := 23) (g := (A 23)) (x := nI k) (pc' := 40) rfl rfl cd_Mo_commits rfl rfl rfl (vp_in_nI (by omega) (by decide)) ((congrArg (A 23) (nI_clamp (by omega))).trans h23) ?_
    refine m_ist (pc' := 41) cd_Mo_commits rfl (Or.inr ⟨_, rfl, rfl, rfl⟩) (by decide) rfl (fun lv el => ?_)
    have l0 := tm_lk el l0 rfl (by decide)
    have l1 := tm_lk el l1 rfl (by decide)
    have l2 := tm_lk el l2 rfl (by decide)
    have l3 : lv.lookup 3 = some (.int (nI k)) := tm_lks el
    clear el
    refine m_ald (pc' := 42) cd_Mo_commits rfl (Or.inr ⟨_, rfl, rfl, rfl⟩) l0 rfl rfl ?_
    refine m_fR (r := 22) (a := 23) (ad := 1505) (pc' := 45) rfl rfl cd_Mo_commits rfl rfl rfl rfl rfl ?_
    refine m_ild (pc' := 46) cd_Mo_commits rfl (Or.inr ⟨_, rfl, rfl, rfl⟩) l1 rfl ?_
    refine m_k1 (v := (-1)) (pc' := 47) cd_Mo_commits rfl (by decide) rfl ?_
    refine m_aS (r := 22) (a := 23) (g := (A 23)) (p := p) (pc' := 48) rfl rfl cd_Mo_commits rfl rfl rfl (vp_in_nI (by omega) (by decide)) (nI_clamp (by omega)) ?_
    refine m_ild (pc' := 49) cd_Mo_commits rfl (Or.inr ⟨_, rfl, rfl, rfl⟩) l3 rfl ?_
    refine m_k1 (v := (-1)) (pc' := 50) cd_Mo_commits rfl (by decide) rfl ?_
    refine m_if2 (t := 58) (pc' := 53) cd_Mo_commits rfl rfl rfl (fun c50 => ?_) (fun c50 => ?_)
    · have c50 : (nI k) = (-1) := c50
      exact absurd c50 (nI_nm1 (by omega))
    · have c50 : ¬ (nI k) = (-1) := c50
      refine m_ild (pc' := 54) cd_Mo_commits rfl (Or.inr ⟨_, rfl, rfl, rfl⟩) l2 rfl ?_
      refine m_ild (pc' := 55) cd_Mo_commits rfl (Or.inr ⟨_, rfl, rfl, rfl⟩) l3 rfl ?_
      refine m_if2 (t := 95) (pc' := 58) cd_Mo_commits rfl rfl rfl (fun c55 => ?_) (fun c55 => ?_)
      · have c55 : (nI k) < (nI (((bk W.length) + 1) + (bk P.length))) := c55
        refine m_ald (pc' := 96) cd_Mo_commits rfl (Or.inr ⟨_, rfl, rfl, rfl⟩) l0 rfl rfl ?_
        refine m_ild (pc' := 97) cd_Mo_commits rfl (Or.inr ⟨_, rfl, rfl, rfl⟩) l1 rfl ?_
        refine m_ild (pc' := 98) cd_Mo_commits rfl (Or.inr ⟨_, rfl, rfl, rfl⟩) l3 rfl ?_
        refine m_ci (pc' := 101) cd_Mo_commits rfl rfl rfl rfl rfl cd_Mo_write rfl (Nat.le_of_ble_eq_true rfl) (m_write (o := sh p0) (N := W.length) (m := k) (n0 := P.length) hp hsb hW (by omega) hP rfl h21 h20 (fun hmb A1 e18 e19 e20 eA => ?_) (fun hmb A1 e18 e19 e20 e21 eA => ?_))
        · skip
          show mg _ _ _ 101 _ [.int 0] _ _
          refine m_if1 (t := 109) (pc' := 104) cd_Mo_commits rfl rfl rfl (fun c101 => ?_) (fun c101 => ?_)
          · have c101 : (0 : Int32) = 0 := c101
            refine m_ald (pc' := 110) cd_Mo_commits rfl (Or.inr ⟨_, rfl, rfl, rfl⟩) l0 rfl rfl ?_
            refine m_fR (r := 21) (a := 22) (ad := 1504) (pc' := 113) rfl rfl cd_Mo_commits rfl rfl rfl rfl rfl ?_
            refine m_ild (pc' := 114) cd_Mo_commits rfl (Or.inr ⟨_, rfl, rfl, rfl⟩) l1 rfl ?_
            refine m_k1 (v := 1) (pc' := 115) cd_Mo_commits rfl (by decide) rfl ?_
            refine m_bS (r := 21) (a := 22) (g := (A1 22)) (p := p) (pc' := 116) rfl rfl cd_Mo_commits rfl rfl rfl (vp_in_nI (by omega) (by decide)) (nI_clamp (by omega)) (by decide) ?_
            refine m_k1 (v := 0) (pc' := 117) cd_Mo_commits rfl (by decide) rfl ?_
            have hk : k < (bk W.length + 1 + bk P.length) := (nI_ltI (by omega) (by omega)).mp c55
            have esc : st_commit p0 P (some k) W = (0, p0, P, W.take (8 * k), none, true) := st_commit_0 rfl (show k = st_made (some k) (bk W.length + 1 + bk P.length) from (Nat.min_eq_left (by omega)).symm) hmb
            have ef3 : ∀ k, ¬ (k = 16 ∨ k = 38 ∨ k = 40 ∨ k = 43) → (fset f 38 (nI W.length)) k = f k := fun k q => fset_ne (by omega)
            have eA3 : ∀ j, ¬ (j = 5 ∨ j = 13 ∨ j = 14 ∨ (18 ≤ j ∧ j ≤ 23) ∨ (27 ≤ j ∧ j ≤ 38)) → (fset (mjW A1 (fset (fset A 27 g) 23 (upd (A 23) p (-1)))) 22 (upd (A1 22) p 1)) j = A j := (fun j q => (fset_ne (by omega)).trans ((if_neg (by omega)).trans ((fset_ne (by omega)).trans (fset_ne (by omega)))))
            have k3 := k0 (by rw [esc]) (fset f 38 (nI W.length)) (fset (mjW A1 (fset (fset A 27 g) 23 (upd (A 23) p (-1)))) 22 (upd (A1 22) p 1))
            rw [mjCf_of ef3, mjCA_of eA3, esc] at k3
            have g22 : (fset (mjW A1 (fset (fset A 27 g) 23 (upd (A 23) p (-1)))) 22 (upd (A1 22) p 1)) 22 = upd (A 22) p 1 := (show upd (A1 22) p 1 = _ by rw [eA 22 (by decide) (by decide) (by decide) ]; rfl)
            have hLj : ∀ j, 30 ≤ j → j ≤ 38 → (fset (mjW A1 (fset (fset A 27 g) 23 (upd (A 23) p (-1)))) 22 (upd (A1 22) p 1)) j = A j := (fun j h1 h2 => (fset_ne (by omega)).trans ((if_neg (by omega)).trans ((fset_ne (by omega)).trans (fset_ne (by omega)))))
            exact m_retz cd_Mo_commits rfl (Or.inl rfl) ⟨_, rfl, (k3 hM rfl (cm_0 (f' := fset f 38 (nI W.length)) (A' := (fset (mjW A1 (fset (fset A 27 g) 23 (upd (A 23) p (-1)))) 22 (upd (A1 22) p 1))) (en := g) hS hp hst hE hW hmb e18 e19 e20 (eA 21 (by decide) (by decide) (by decide) ) g22 (eA 23 (by decide) (by decide) (by decide) ) rfl rfl ⟨rfl, rfl, rfl⟩ rfl hLj ⟨rfl, rfl, rfl, rfl⟩ rfl ⟨rfl, rfl, rfl, rfl, rfl, rfl, rfl, rfl, rfl⟩ ⟨rfl, rfl, rfl, rfl⟩))⟩
          · exact absurd (show ¬ (0 : Int32) = 0 from c101) (by decide)
        · skip
          show mg _ _ _ 101 _ [.int 1] _ _
          refine m_if1 (t := 109) (pc' := 104) cd_Mo_commits rfl rfl rfl (fun c101 => ?_) (fun c101 => ?_)
          · exact absurd (show (1 : Int32) = 0 from c101) (by decide)
          · have c101 : ¬ (1 : Int32) = 0 := c101
            refine m_ald (pc' := 105) cd_Mo_commits rfl (Or.inr ⟨_, rfl, rfl, rfl⟩) l0 rfl rfl ?_
            refine m_ild (pc' := 106) cd_Mo_commits rfl (Or.inr ⟨_, rfl, rfl, rfl⟩) l1 rfl ?_
            refine m_cv (pc' := 109) cd_Mo_commits rfl rfl rfl rfl rfl cd_Mo_keep rfl (Nat.le_of_ble_eq_true rfl) (m_keep hp (fun g14 hg14 => ?_))
            show mg _ _ _ 109 _ [] _ _
            refine m_ald (pc' := 110) cd_Mo_commits rfl (Or.inr ⟨_, rfl, rfl, rfl⟩) l0 rfl rfl ?_
            refine m_fR (r := 21) (a := 22) (ad := 1504) (pc' := 113) rfl rfl cd_Mo_commits rfl rfl rfl rfl rfl ?_
            refine m_ild (pc' := 114) cd_Mo_commits rfl (Or.inr ⟨_, rfl, rfl, rfl⟩) l1 rfl ?_
            refine m_k1 (v := 1) (pc' := 115) cd_Mo_commits rfl (by decide) rfl ?_
            refine m_bS (r := 21) (a := 22) (g := (A1 22)) (p := p) (pc' := 116) rfl rfl cd_Mo_commits rfl rfl rfl (vp_in_nI (by omega) (by decide)) (nI_clamp (by omega)) (by decide) ?_
            refine m_k1 (v := 0) (pc' := 117) cd_Mo_commits rfl (by decide) rfl ?_
            have hk : k < (bk W.length + 1 + bk P.length) := (nI_ltI (by omega) (by omega)).mp c55
            have esc : st_commit p0 P (some k) W = (1, !p0, W, P.drop (8 * (k - bk W.length - 1)), none, true) := st_commit_1 rfl (show k = st_made (some k) (bk W.length + 1 + bk P.length) from (Nat.min_eq_left (by omega)).symm) (by omega) hk
            have ef3 : ∀ k, ¬ (k = 16 ∨ k = 38 ∨ k = 40 ∨ k = 43) → (fset f 38 (nI W.length)) k = f k := fun k q => fset_ne (by omega)
            have eA3 : ∀ j, ¬ (j = 5 ∨ j = 13 ∨ j = 14 ∨ (18 ≤ j ∧ j ≤ 23) ∨ (27 ≤ j ∧ j ≤ 38)) → (fset (fset (mjW A1 (fset (fset A 27 g) 23 (upd (A 23) p (-1)))) 14 g14) 22 (upd (A1 22) p 1)) j = A j := (fun j q => (fset_ne (by omega)).trans ((fset_ne (by omega)).trans ((if_neg (by omega)).trans ((fset_ne (by omega)).trans (fset_ne (by omega))))))
            have k3 := k1 (by rw [esc]) (fset f 38 (nI W.length)) (fset (fset (mjW A1 (fset (fset A 27 g) 23 (upd (A 23) p (-1)))) 14 g14) 22 (upd (A1 22) p 1))
            rw [mjCf_of ef3, mjCA_of eA3, esc] at k3
            have g22 : (fset (fset (mjW A1 (fset (fset A 27 g) 23 (upd (A 23) p (-1)))) 14 g14) 22 (upd (A1 22) p 1)) 22 = upd (A 22) p 1 := (show upd (A1 22) p 1 = _ by rw [eA 22 (by decide) (by decide) (by decide) (by decide) ]; rfl)
            have hLj : ∀ j, 30 ≤ j → j ≤ 38 → (fset (fset (mjW A1 (fset (fset A 27 g) 23 (upd (A 23) p (-1)))) 14 g14) 22 (upd (A1 22) p 1)) j = A j := (fun j h1 h2 => (fset_ne (by omega)).trans ((fset_ne (by omega)).trans ((if_neg (by omega)).trans ((fset_ne (by omega)).trans (fset_ne (by omega))))))
            exact m_retz cd_Mo_commits rfl (Or.inl rfl) ⟨_, rfl, (k3 hM rfl (cm_1 (f' := fset f 38 (nI W.length)) (A' := (fset (fset (mjW A1 (fset (fset A 27 g) 23 (upd (A 23) p (-1)))) 14 g14) 22 (upd (A1 22) p 1))) (en := g) (w := A 15) hS hp hst hE hW (by omega) hk e18 e19 e20 e21 g22 (eA 23 (by decide) (by decide) (by decide) (by decide) ) hD eid.symm hg14.1 hg14.2 rfl ⟨rfl, rfl, rfl⟩ rfl hLj ⟨rfl, rfl, rfl, rfl⟩ rfl ⟨rfl, rfl, rfl, rfl, rfl, rfl, rfl, rfl, rfl⟩ ⟨rfl, rfl, rfl, rfl⟩))⟩
      · have c55 : ¬ (nI k) < (nI (((bk W.length) + 1) + (bk P.length))) := c55
        refine m_ald (pc' := 59) cd_Mo_commits rfl (Or.inr ⟨_, rfl, rfl, rfl⟩) l0 rfl rfl ?_
        refine m_ild (pc' := 60) cd_Mo_commits rfl (Or.inr ⟨_, rfl, rfl, rfl⟩) l1 rfl ?_
        refine m_ild (pc' := 61) cd_Mo_commits rfl (Or.inr ⟨_, rfl, rfl, rfl⟩) l2 rfl ?_
        refine m_ci (pc' := 64) cd_Mo_commits rfl rfl rfl rfl rfl cd_Mo_write rfl (Nat.le_of_ble_eq_true rfl) (m_write (o := sh p0) (N := W.length) (m := (bk W.length + 1 + bk P.length)) (n0 := P.length) hp hsb hW (by omega) hP rfl h21 h20 (fun hmb _ _ _ _ _ => ?_) (fun hmb A1 e18 e19 e20 e21 eA => ?_))
        · skip
          exact absurd hmb (by omega)
        · skip
          show mg _ _ _ 64 _ [.int 1] _ _
          refine m_pure (pc' := 65) (st' := []) cd_Mo_commits rfl rfl (fun _ _ => rfl) ?_
          refine m_ald (pc' := 66) cd_Mo_commits rfl (Or.inr ⟨_, rfl, rfl, rfl⟩) l0 rfl rfl ?_
          refine m_fR (r := 19) (a := 20) (ad := 1502) (pc' := 69) rfl rfl cd_Mo_commits rfl rfl rfl rfl rfl ?_
          refine m_k1 (v := 2) (pc' := 70) cd_Mo_commits rfl (by decide) rfl ?_
          refine m_ild (pc' := 71) cd_Mo_commits rfl (Or.inr ⟨_, rfl, rfl, rfl⟩) l1 rfl ?_
          refine m_pure (pc' := 72) (st' := [.int ((2 : Int32) * (nI p)), .ref 1502]) cd_Mo_commits rfl rfl (fun _ _ => rfl) ?_
          refine m_eq (show ((2 : Int32) * (nI p) : Int32) = nI (2 * p) from pk_mul 2 p) ?_
          refine m_k1 (v := 1) (pc' := 73) cd_Mo_commits rfl (by decide) rfl ?_
          refine m_pure (pc' := 74) (st' := [.int ((nI (2 * p)) + 1), .ref 1502]) cd_Mo_commits rfl rfl (fun _ _ => rfl) ?_
          refine m_eq (show ((nI (2 * p)) + 1 : Int32) = nI ((2 * p) + 1) from nI_add (2 * p) 1) ?_
          refine m_ald (pc' := 75) cd_Mo_commits rfl (Or.inr ⟨_, rfl, rfl, rfl⟩) l0 rfl rfl ?_
          refine m_fR (r := 20) (a := 21) (ad := 1503) (pc' := 78) rfl rfl cd_Mo_commits rfl rfl rfl rfl rfl ?_
          refine m_ild (pc' := 79) cd_Mo_commits rfl (Or.inr ⟨_, rfl, rfl, rfl⟩) l1 rfl ?_
          refine m_aI (r := 20) (a := 21) (g := (A1 21)) (x := (nI (1 - sh p0))) (pc' := 80) rfl rfl cd_Mo_commits rfl rfl rfl (vp_in_nI (by omega) (by decide)) (by rw [(nI_clamp (by omega)), e21]; exact upd_same) ?_
          refine m_pure (pc' := 81) (st' := [.int ((nI ((2 * p) + 1)) - (nI (1 - sh p0))), .ref 1502]) cd_Mo_commits rfl rfl (fun _ _ => rfl) ?_
          refine m_eq (show ((nI ((2 * p) + 1)) - (nI (1 - sh p0)) : Int32) = nI (((2 * p) + 1) - (1 - sh p0)) from pk_sub (a := ((2 * p) + 1)) (b := (1 - sh p0)) (by omega)) ?_
          refine m_k1 (v := 0) (pc' := 82) cd_Mo_commits rfl (by decide) rfl ?_
          refine m_aS (r := 19) (a := 20) (g := (A1 20)) (p := (((2 * p) + 1) - (1 - sh p0))) (pc' := 83) rfl rfl cd_Mo_commits rfl rfl rfl (vp_in_nI (by omega) (by decide)) (nI_clamp (by omega)) ?_
          refine m_ald (pc' := 84) cd_Mo_commits rfl (Or.inr ⟨_, rfl, rfl, rfl⟩) l0 rfl rfl ?_
          refine m_ild (pc' := 85) cd_Mo_commits rfl (Or.inr ⟨_, rfl, rfl, rfl⟩) l1 rfl ?_
          refine m_cv (pc' := 88) cd_Mo_commits rfl rfl rfl rfl rfl cd_Mo_keep rfl (Nat.le_of_ble_eq_true rfl) (m_keep hp (fun g14 hg14 => ?_))
          show mg _ _ _ 88 _ [] _ _
          refine m_ald (pc' := 89) cd_Mo_commits rfl (Or.inr ⟨_, rfl, rfl, rfl⟩) l0 rfl rfl ?_
          refine m_ild (pc' := 90) cd_Mo_commits rfl (Or.inr ⟨_, rfl, rfl, rfl⟩) l1 rfl ?_
          refine m_cv (pc' := 93) cd_Mo_commits rfl rfl rfl rfl rfl cd_Mo_tell rfl (Nat.le_of_ble_eq_true rfl) (m_tell0 (show MT (fset f 38 (nI W.length)) (fset (fset (mjW A1 (fset (fset A 27 g) 23 (upd (A 23) p (-1)))) 20 (upd (A1 20) (2 * p + 1 - (1 - sh p0)) 0)) 14 g14) T DL G Kw from hM) h30 hnw h26 hz (show qWi (fset f 38 (nI W.length)) (fset (fset (mjW A1 (fset (fset A 27 g) 23 (upd (A 23) p (-1)))) 20 (upd (A1 20) (2 * p + 1 - (1 - sh p0)) 0)) 14 g14) T ws from qWi_m (List.prefix_refl T) rfl rfl rfl hS.2.1.1) hl h32 (fun f2 A2 hM2 hq2 hst2 e43 eA2 => ?_))
          show mg _ _ _ 93 _ [] _ _
          refine m_k1 (v := 1) (pc' := 94) cd_Mo_commits rfl (by decide) rfl ?_
          have hk : (bk W.length + 1 + bk P.length) ≤ k := (nI_leI (by omega) (by omega)).mp (Int32.not_lt.mp c55)
          have esc : st_commit p0 P (some k) W = (2, !p0, W, [], none, false) := by
            rw [st_commit_2 rfl (show (bk W.length + 1 + bk P.length) = st_made (some k) (bk W.length + 1 + bk P.length) from (Nat.min_eq_right hk).symm) (by omega) (by omega)]
            rw [List.drop_of_length_le (by have := bk_ge P.length; omega)]
          have ef3 : ∀ k, ¬ (k = 16 ∨ k = 38 ∨ k = 40 ∨ k = 43) → mjTf f2 (fset f 38 (nI W.length)) k = f k := fun k q => (if_neg (by omega)).trans (fset_ne (by omega))
          have eA3 : ∀ j, ¬ (j = 5 ∨ j = 13 ∨ j = 14 ∨ (18 ≤ j ∧ j ≤ 23) ∨ (27 ≤ j ∧ j ≤ 38)) → mjTA A2 (fset (fset (mjW A1 (fset (fset A 27 g) 23 (upd (A 23) p (-1)))) 20 (upd (A1 20) (2 * p + 1 - (1 - sh p0)) 0)) 14 g14) j = A j := (fun j q => (if_neg (by omega)).trans ((fset_ne (by omega)).trans ((fset_ne (by omega)).trans ((if_neg (by omega)).trans ((fset_ne (by omega)).trans (fset_ne (by omega)))))))
          have k3 := k2 (by rw [esc]) (mjTf f2 (fset f 38 (nI W.length))) (mjTA A2 (fset (fset (mjW A1 (fset (fset A 27 g) 23 (upd (A 23) p (-1)))) 20 (upd (A1 20) (2 * p + 1 - (1 - sh p0)) 0)) 14 g14))
          rw [mjCf_of ef3, mjCA_of eA3, esc] at k3
          have ix : 2 * p + 1 - (1 - sh p0) = 2 * p + sh p0 := by omega
          have g20 : mjTA A2 (fset (fset (mjW A1 (fset (fset A 27 g) 23 (upd (A 23) p (-1)))) 20 (upd (A1 20) (2 * p + 1 - (1 - sh p0)) 0)) 14 g14) 20 = upd (upd (A 20) (2 * p + (1 - sh p0)) (nI W.length)) (2 * p + sh p0) 0 := (show upd (A1 20) (2 * p + 1 - (1 - sh p0)) 0 = _ by rw [ix, e20]; rfl)
          rw [show min (bk P.length) ((bk W.length + 1 + bk P.length) - bk W.length - 1) = bk P.length by omega] at e19
          have hLS : qLs (mjTf f2 (fset f 38 (nI W.length))) (mjTA A2 (fset (fset (mjW A1 (fset (fset A 27 g) 23 (upd (A 23) p (-1)))) 20 (upd (A1 20) (2 * p + 1 - (1 - sh p0)) 0)) 14 g14)) T ls := (qLs_m (List.prefix_refl T) e43 (fun j h1 h2 => (if_pos (by omega)).trans ((eA2 j (by omega) (by omega) (by omega)).trans ((fset_ne (by omega)).trans ((fset_ne (by omega)).trans ((if_neg (by omega)).trans ((fset_ne (by omega)).trans (fset_ne (by omega)))))))) hS.2.2.1.1)
          have h13 : mjTA A2 (fset (fset (mjW A1 (fset (fset A 27 g) 23 (upd (A 23) p (-1)))) 20 (upd (A1 20) (2 * p + 1 - (1 - sh p0)) 0)) 14 g14) 13 = lo := (eA2 13 (by decide) (by decide) (by decide)).trans hS.2.2.1.2
          exact m_retz cd_Mo_commits rfl (Or.inr rfl) ⟨_, rfl, (k3 hM2 hst2 (cm_2 (f' := mjTf f2 (fset f 38 (nI W.length))) (A' := mjTA A2 (fset (fset (mjW A1 (fset (fset A 27 g) 23 (upd (A 23) p (-1)))) 20 (upd (A1 20) (2 * p + 1 - (1 - sh p0)) 0)) 14 g14)) (en := g) (w := A 15) hS hp hst hE hW e18 e19 g20 e21 (eA 22 (by decide) (by decide) (by decide) (by decide)) (eA 23 (by decide) (by decide) (by decide) (by decide)) hD eid.symm hg14.1 hg14.2 hq2 hLS h13 ⟨rfl, rfl, rfl, rfl⟩ rfl ⟨rfl, rfl, rfl, rfl, rfl, rfl, rfl, rfl, rfl⟩ ⟨rfl, rfl, rfl, rfl⟩))⟩
set_option maxRecDepth 100000 in
theorem m_commits1 {sc : tm_X} {d : Nat} {f : Nat → Int32} {A : Nat → Nat → Int32} {T : List Tm} {DL : List (Int32 × Int32)} {G Kw : Tm → Prop} {dev : Nat → DV} {sto : Nat → ST} {ws : List (Tm × Int32)} {dir reg : Nat → Tm} {seen : List Tm} {ls : List RL} {lo : Nat → Int32} {R : RR} {p : Nat} {id : Tm} {K0 K1 : PK} {on : List (Tm × Int32)} {lnu : Int32} {se : Nat → List SS} {me : Nat → MM} {p0 : Bool} {P O : EN2} {c : Option Nat} {NW : List Tm} {Y S mi th : Tm} {oc : Bool} {m : Nat} {Q : Int32 → MS → Prop} (hM : MT f A T DL G Kw) (hS : RS f A T DL dev sto ws dir reg seen ls lo R) (hp : p < 6) (eid : (dev p).1 = id) (hD : qDv (A 15) T (id, K0, K1, on, lnu, se, me)) (hz0 : K0.1 = tz ↔ K0.2.1 = 0) (hz1 : K1.1 = tz ↔ K1.2.1 = 0) (hW : (dv_en (id, K0, K1, on, lnu, se, me)).length ≤ 536) (hst : sto p = (p0, P, O, c, false)) (h30 : f 30 = nI (NW ++ [Y]).length) (hnw : (NW ++ [Y]).length ≤ 16) (h26 : ∀ (i : Nat) (X : Tm), (NW ++ [Y])[i]? = some X → tv T (A 26 i) X) (hz : ∀ X, X ∈ (NW ++ [Y]) → X ≠ tz) (hl : ws.length + (NW ++ [Y]).length ≤ 700) (hls7 : ls.length < 700) (h32 : tv T (f 32) S) (hS1 : kd S = 1) (hSm : mk S = nI m) (hm : m < 3000) (h34 : f 34 = bz oc) (h35 : tv T (f 35) mi) (h36 : tv T (f 36) th) (k0 : (st_commit p0 P c (dv_en (id, K0, K1, on, lnu, se, me))).1 = 0 → ∀ f1 A1, MT (mjCf f1 f) (mjCA A1 A) T DL G Kw → mjCf f1 f 16 = f 16 → RS (mjCf f1 f) (mjCA A1 A) T DL dev (fset sto p (st_commit p0 P c (dv_en (id, K0, K1, on, lnu, se, me))).2) ws dir reg seen ls lo R → Q 0 (mjCf f1 f, mjCA A1 A)) (k1 : (st_commit p0 P c (dv_en (id, K0, K1, on, lnu, se, me))).1 = 1 → ∀ f1 A1, MT (mjCf f1 f) (mjCA A1 A) T DL G Kw → mjCf f1 f 16 = f 16 → RS (mjCf f1 f) (mjCA A1 A) T DL (fset dev p (id, K0, K1, on, lnu, se, me)) (fset sto p (st_commit p0 P c (dv_en (id, K0, K1, on, lnu, se, me))).2) ws dir reg seen ls lo R → Q 0 (mjCf f1 f, mjCA A1 A)) (k2 : (st_commit p0 P c (dv_en (id, K0, K1, on, lnu, se, me))).1 = 2 → ∀ f1 A1, MT (mjCf f1 f) (mjCA A1 A) T DL (fun y => G y ∨ y ∈ NW ++ [Y]) Kw → (mjCf f1 f 16 = 1 ∨ (mjCf f1 f 16 = f 16 ∧ ∀ y, y ∈ NW ++ [Y] → G y)) → RS (mjCf f1 f) (mjCA A1 A) T DL (fset dev p (id, K0, K1, on, lnu, se, me)) (fset sto p (st_commit p0 P c (dv_en (id, K0, K1, on, lnu, se, me))).2) (ws ++ NW.map (fun X => (X, -1)) ++ [(Y, nI ls.length)]) dir reg seen (ls ++ [(S, nI p, f 33, oc, mi, th, f 37, 0, fun _ => 2147483647)]) (upd lo m (nI ls.length)) R → Q 1 (mjCf f1 f, mjCA A1 A)) : mGi sc (d + 4) 203 [.ref 1482, .int (nI p)] (f, A) Q := by
  have h0 := hS.1.2.2 p hp
  rw [hst] at h0
  have hP := (st_other h0).2
  have hbP := bk_67 hP
  have hbW := bk_67 hW
  have hsb := sh_lt p0
  have h21 : A 21 p = nI (sh p0) := h0.1.1.trans (bz_sh p0)
  have h20 : A 20 (2 * p + sh p0) = nI P.length := h0.2.1.1.1
  have h23 := h0.1.2.1
  have hid : tv T (A 16 p) id := eid ▸ hS.1.1 p hp
  generalize eW : dv_en (id, K0, K1, on, lnu, se, me) = W at *
  show mg sc (d + 4) 203 0 [(0, .ref 1482), (1, .int (nI p))] [] (f, A) _
  generalize elv : ([(0, .ref 1482), (1, .int (nI p))] : tm_L) = lv
  have l0 : lv.lookup 0 = some (.ref 1482) := by rw [← elv]; rfl
  have l1 : lv.lookup 1 = some (.int (nI p)) := by rw [← elv]; rfl
  clear elv
  rcases c with _ | k
  · skip
    refine m_ald (pc' := 1) cd_Mo_commits rfl (Or.inr ⟨_, rfl, rfl, rfl⟩) l0 rfl rfl ?_
    refine m_ild (pc' := 2) cd_Mo_commits rfl (Or.inr ⟨_, rfl, rfl, rfl⟩) l1 rfl ?_
    refine m_cv (pc' := 5) cd_Mo_commits rfl rfl rfl rfl rfl cd_Mo_list rfl (Nat.le_of_ble_eq_true rfl) (m_list hM hp hid hD hz0 hz1 (by rw [eW]; omega) (fun g hE => ?_))
    rw [eW] at hE ⊢
    show mg _ _ _ 5 _ [] _ _
    refine m_ald (pc' := 6) cd_Mo_commits rfl (Or.inr ⟨_, rfl, rfl, rfl⟩) l0 rfl rfl ?_
    refine m_fI (k := 38) (x := (nI W.length)) (pc' := 9) cd_Mo_commits rfl rfl rfl rfl rfl rfl ?_
    refine m_si (pc' := 12) cd_Mo_commits rfl rfl rfl rfl rfl cd_Mo_blocksOf rfl (Nat.le_of_ble_eq_true rfl) (m_blocksOf (by omega) ?_)
    show mg _ _ _ 12 _ [.int (nI (bk W.length))] _ _
    refine m_k1 (v := 1) (pc' := 13) cd_Mo_commits rfl (by decide) rfl ?_
    refine m_pure (pc' := 14) (st' := [.int ((nI (bk W.length)) + 1)]) cd_Mo_commits rfl rfl (fun _ _ => rfl) ?_
    refine m_eq (show ((nI (bk W.length)) + 1 : Int32) = nI ((bk W.length) + 1) from nI_add (bk W.length) 1) ?_
    refine m_ald (pc' := 15) cd_Mo_commits rfl (Or.inr ⟨_, rfl, rfl, rfl⟩) l0 rfl rfl ?_
    refine m_fR (r := 19) (a := 20) (ad := 1502) (pc' := 18) rfl rfl cd_Mo_commits rfl rfl rfl rfl rfl ?_
    refine m_k1 (v := 2) (pc' := 19) cd_Mo_commits rfl (by decide) rfl ?_
    refine m_ild (pc' := 20) cd_Mo_commits rfl (Or.inr ⟨_, rfl, rfl, rfl⟩) l1 rfl ?_
    refine m_pure (pc' := 21) (st' := [.int ((2 : Int32) * (nI p)), .ref 1502, .int (nI ((bk W.length) + 1))]) cd_Mo_commits rfl rfl (fun _ _ => rfl) ?_
    refine m_eq (show ((2 : Int32) * (nI p) : Int32) = nI (2 * p) from pk_mul 2 p) ?_
    refine m_ald (pc' := 22) cd_Mo_commits rfl (Or.inr ⟨_, rfl, rfl, rfl⟩) l0 rfl rfl ?_
    refine m_fR (r := 20) (a := 21) (ad := 1503) (pc' := 25) rfl rfl cd_Mo_commits rfl rfl rfl rfl rfl ?_
    refine m_ild (pc' := 26) cd_Mo_commits rfl (Or.inr ⟨_, rfl, rfl, rfl⟩) l1 rfl ?_
    refine m_aI (r := 20) (a := 21) (g := (A 21)) (x := (nI (sh p0))) (pc' := 27) rfl rfl cd_Mo_commits rfl rfl rfl (vp_in_nI (by omega) (by decide)) ((congrArg (A 21) (nI_clamp (by omega))).trans h21) ?_
    refine m_pure (pc' := 28) (st' := [.int ((nI (2 * p)) + (nI (sh p0))), .ref 1502, .int (nI ((bk W.length) + 1))]) cd_Mo_commits rfl rfl (fun _ _ => rfl) ?_
    refine m_eq (show ((nI (2 * p)) + (nI (sh p0)) : Int32) = nI ((2 * p) + (sh p0)) from nI_add (2 * p) (sh p0)) ?_
    refine m_aI (r := 19) (a := 20) (g := (A 20)) (x := (nI P.length)) (pc' := 29) rfl rfl cd_Mo_commits rfl rfl rfl (vp_in_nI (by omega) (by decide)) ((congrArg (A 20) (nI_clamp (by omega))).trans h20) ?_
    refine m_si (pc' := 32) cd_Mo_commits rfl rfl rfl rfl rfl cd_Mo_blocksOf rfl (Nat.le_of_ble_eq_true rfl) (m_blocksOf (by omega) ?_)
    show mg _ _ _ 32 _ [.int (nI (bk P.length)), .int (nI ((bk W.length) + 1))] _ _
    refine m_pure (pc' := 33) (st' := [.int ((nI ((bk W.length) + 1)) + (nI (bk P.length)))]) cd_Mo_commits rfl rfl (fun _ _ => rfl) ?_
    refine m_eq (show ((nI ((bk W.length) + 1)) + (nI (bk P.length)) : Int32) = nI (((bk W.length) + 1) + (bk P.length)) from nI_add ((bk W.length) + 1) (bk P.length)) ?_
    refine m_ist (pc' := 34) cd_Mo_commits rfl (Or.inr ⟨_, rfl, rfl, rfl⟩) (by decide) rfl (fun lv el => ?_)
    have l0 := tm_lk el l0 rfl (by decide)
    have l1 := tm_lk el l1 rfl (by decide)
    have l2 : lv.lookup 2 = some (.int (nI (((bk W.length) + 1) + (bk P.length)))) := tm_lks el
    clear el
    refine m_ald (pc' := 35) cd_Mo_commits rfl (Or.inr ⟨_, rfl, rfl, rfl⟩) l0 rfl rfl ?_
    refine m_fR (r := 22) (a := 23) (ad := 1505) (pc' := 38) rfl rfl cd_Mo_commits rfl rfl rfl rfl rfl ?_
    refine m_ild (pc' := 39) cd_Mo_commits rfl (Or.inr ⟨_, rfl, rfl, rfl⟩) l1 rfl ?_
    refine m_aI (r := 22) (a := 23) (g := (A 23)) (x := (-1)) (pc' := 40) rfl rfl cd_Mo_commits rfl rfl rfl (vp_in_nI (by omega) (by decide)) ((congrArg (A 23) (nI_clamp (by omega))).trans h23) ?_
    refine m_ist (pc' := 41) cd_Mo_commits rfl (Or.inr ⟨_, rfl, rfl, rfl⟩) (by decide) rfl (fun lv el => ?_)
    have l0 := tm_lk el l0 rfl (by decide)
    have l1 := tm_lk el l1 rfl (by decide)
    have l2 := tm_lk el l2 rfl (by decide)
    have l3 : lv.lookup 3 = some (.int (-1)) := tm_lks el
    clear el
    refine m_ald (pc' := 42) cd_Mo_commits rfl (Or.inr ⟨_, rfl, rfl, rfl⟩) l0 rfl rfl ?_
    refine m_fR (r := 22) (a := 23) (ad := 1505) (pc' := 45) rfl rfl cd_Mo_commits rfl rfl rfl rfl rfl ?_
    refine m_ild (pc' := 46) cd_Mo_commits rfl (Or.inr ⟨_, rfl, rfl, rfl⟩) l1 rfl ?_
    refine m_k1 (v := (-1)) (pc' := 47) cd_Mo_commits rfl (by decide) rfl ?_
    refine m_aS (r := 22) (a := 23) (g := (A 23)) (p := p) (pc' := 48) rfl rfl cd_Mo_commits rfl rfl rfl (vp_in_nI (by omega) (by decide)) (nI_clamp (by omega)) ?_
    refine m_ild (pc' := 49) cd_Mo_commits rfl (Or.inr ⟨_, rfl, rfl, rfl⟩) l3 rfl ?_
    refine m_k1 (v := (-1)) (pc' := 50) cd_Mo_commits rfl (by decide) rfl ?_
    refine m_if2 (t := 58) (pc' := 53) cd_Mo_commits rfl rfl rfl (fun c50 => ?_) (fun c50 => ?_)
    · have c50 : ((-1) : Int32) = (-1) := c50
      refine m_ald (pc' := 59) cd_Mo_commits rfl (Or.inr ⟨_, rfl, rfl, rfl⟩) l0 rfl rfl ?_
      refine m_ild (pc' := 60) cd_Mo_commits rfl (Or.inr ⟨_, rfl, rfl, rfl⟩) l1 rfl ?_
      refine m_ild (pc' := 61) cd_Mo_commits rfl (Or.inr ⟨_, rfl, rfl, rfl⟩) l2 rfl ?_
      refine m_ci (pc' := 64) cd_Mo_commits rfl rfl rfl rfl rfl cd_Mo_write rfl (Nat.le_of_ble_eq_true rfl) (m_write (o := sh p0) (N := W.length) (m := (bk W.length + 1 + bk P.length)) (n0 := P.length) hp hsb hW (by omega) hP rfl h21 h20 (fun hmb _ _ _ _ _ => ?_) (fun hmb A1 e18 e19 e20 e21 eA => ?_))
      · skip
        exact absurd hmb (by omega)
      · skip
        show mg _ _ _ 64 _ [.int 1] _ _
        refine m_pure (pc' := 65) (st' := []) cd_Mo_commits rfl rfl (fun _ _ => rfl) ?_
        refine m_ald (pc' := 66) cd_Mo_commits rfl (Or.inr ⟨_, rfl, rfl, rfl⟩) l0 rfl rfl ?_
        refine m_fR (r := 19) (a := 20) (ad := 1502) (pc' := 69) rfl rfl cd_Mo_commits rfl rfl rfl rfl rfl ?_
        refine m_k1 (v := 2) (pc' := 70) cd_Mo_commits rfl (by decide) rfl ?_
        refine m_ild (pc' := 71) cd_Mo_commits rfl (Or.inr ⟨_, rfl, rfl, rfl⟩) l1 rfl ?_
        refine m_pure (pc' := 72) (st' := [.int ((2 : Int32) * (nI p)), .ref 1502]) cd_Mo_commits rfl rfl (fun _ _ => rfl) ?_
        refine m_eq (show ((2 : Int32) * (nI p) : Int32) = nI (2 * p) from pk_mul 2 p) ?_
        refine m_k1 (v := 1) (pc' := 73) cd_Mo_commits rfl (by decide) rfl ?_
        refine m_pure (pc' := 74) (st' := [.int ((nI (2 * p)) + 1), .ref 1502]) cd_Mo_commits rfl rfl (fun _ _ => rfl) ?_
        refine m_eq (show ((nI (2 * p)) + 1 : Int32) = nI ((2 * p) + 1) from nI_add (2 * p) 1) ?_
        refine m_ald (pc' := 75) cd_Mo_commits rfl (Or.inr ⟨_, rfl, rfl, rfl⟩) l0 rfl rfl ?_
        refine m_fR (r := 20) (a := 21) (ad := 1503) (pc' := 78) rfl rfl cd_Mo_commits rfl rfl rfl rfl rfl ?_
        refine m_ild (pc' := 79) cd_Mo_commits rfl (Or.inr ⟨_, rfl, rfl, rfl⟩) l1 rfl ?_
        refine m_aI (r := 20) (a := 21) (g := (A1 21)) (x := (nI (1 - sh p0))) (pc' := 80) rfl rfl cd_Mo_commits rfl rfl rfl (vp_in_nI (by omega) (by decide)) (by rw [(nI_clamp (by omega)), e21]; exact upd_same) ?_
        refine m_pure (pc' := 81) (st' := [.int ((nI ((2 * p) + 1)) - (nI (1 - sh p0))), .ref 1502]) cd_Mo_commits rfl rfl (fun _ _ => rfl) ?_
        refine m_eq (show ((nI ((2 * p) + 1)) - (nI (1 - sh p0)) : Int32) = nI (((2 * p) + 1) - (1 - sh p0)) from pk_sub (a := ((2 * p) + 1)) (b := (1 - sh p0)) (by omega)) ?_
        refine m_k1 (v := 0) (pc' := 82) cd_Mo_commits rfl (by decide) rfl ?_
        refine m_aS (r := 19) (a := 20) (g := (A1 20)) (p := (((2 * p) + 1) - (1 - sh p0))) (pc' := 83) rfl rfl cd_Mo_commits rfl rfl rfl (vp_in_nI (by omega) (by decide)) (nI_clamp (by omega)) ?_
        refine m_ald (pc' := 84) cd_Mo_commits rfl (Or.inr ⟨_, rfl, rfl, rfl⟩) l0 rfl rfl ?_
        refine m_ild (pc' := 85) cd_Mo_commits rfl (Or.inr ⟨_, rfl, rfl, rfl⟩) l1 rfl ?_
        refine m_cv (pc' := 88) cd_Mo_commits rfl rfl rfl rfl rfl cd_Mo_keep rfl (Nat.le_of_ble_eq_true rfl) (m_keep hp (fun g14 hg14 => ?_))
        show mg _ _ _ 88 _ [] _ _
        refine m_ald (pc' := 89) cd_Mo_commits rfl (Or.inr ⟨_, rfl, rfl, rfl⟩) l0 rfl rfl ?_
        refine m_ild (pc' := 90) cd_Mo_commits rfl (Or.inr ⟨_, rfl, rfl, rfl⟩) l1 rfl ?_
        refine m_cv (pc' := 93) cd_Mo_commits rfl rfl rfl rfl rfl cd_Mo_tell rfl (Nat.le_of_ble_eq_true rfl) (m_tell1 (ls := ls) (S := S) (m := m) (on := oc) (mi := mi) (th := th) (show MT (fset f 38 (nI W.length)) (fset (fset (mjW A1 (fset (fset A 27 g) 23 (upd (A 23) p (-1)))) 20 (upd (A1 20) (2 * p + 1 - (1 - sh p0)) 0)) 14 g14) T DL G Kw from hM) h30 hnw h26 hz (show qWi (fset f 38 (nI W.length)) (fset (fset (mjW A1 (fset (fset A 27 g) 23 (upd (A 23) p (-1)))) 20 (upd (A1 20) (2 * p + 1 - (1 - sh p0)) 0)) 14 g14) T ws from qWi_m (List.prefix_refl T) rfl rfl rfl hS.2.1.1) hl (show qLs (fset f 38 (nI W.length)) (fset (fset (mjW A1 (fset (fset A 27 g) 23 (upd (A 23) p (-1)))) 20 (upd (A1 20) (2 * p + 1 - (1 - sh p0)) 0)) 14 g14) T ls from qLs_m (List.prefix_refl T) rfl (fun j h1 h2 => (fset_ne (by omega)).trans ((fset_ne (by omega)).trans ((if_neg (by omega)).trans ((fset_ne (by omega)).trans (fset_ne (by omega)))))) hS.2.2.1.1) hls7 h32 hS1 hSm hm h34 h35 h36 (fun f2 A2 hM2 hq2 hst2 hl2 e13 => ?_))
        show mg _ _ _ 93 _ [] _ _
        refine m_k1 (v := 1) (pc' := 94) cd_Mo_commits rfl (by decide) rfl ?_
        have esc : st_commit p0 P none W = (2, !p0, W, [], none, false) := by
          rw [st_commit_2 rfl (show (bk W.length + 1 + bk P.length) = st_made none (bk W.length + 1 + bk P.length) from rfl) (by omega) (by omega)]
          rw [List.drop_of_length_le (by have := bk_ge P.length; omega)]
        have ef3 : ∀ k, ¬ (k = 16 ∨ k = 38 ∨ k = 40 ∨ k = 43) → mjTf f2 (fset f 38 (nI W.length)) k = f k := fun k q => (if_neg (by omega)).trans (fset_ne (by omega))
        have eA3 : ∀ j, ¬ (j = 5 ∨ j = 13 ∨ j = 14 ∨ (18 ≤ j ∧ j ≤ 23) ∨ (27 ≤ j ∧ j ≤ 38)) → mjTA A2 (fset (fset (mjW A1 (fset (fset A 27 g) 23 (upd (A 23) p (-1)))) 20 (upd (A1 20) (2 * p + 1 - (1 - sh p0)) 0)) 14 g14) j = A j := (fun j q => (if_neg (by omega)).trans ((fset_ne (by omega)).trans ((fset_ne (by omega)).trans ((if_neg (by omega)).trans ((fset_ne (by omega)).trans (fset_ne (by omega)))))))
        have k3 := k2 (by rw [esc]) (mjTf f2 (fset f 38 (nI W.length))) (mjTA A2 (fset (fset (mjW A1 (fset (fset A 27 g) 23 (upd (A 23) p (-1)))) 20 (upd (A1 20) (2 * p + 1 - (1 - sh p0)) 0)) 14 g14))
        rw [mjCf_of ef3, mjCA_of eA3, esc] at k3
        have ix : 2 * p + 1 - (1 - sh p0) = 2 * p + sh p0 := by omega
        have g20 : mjTA A2 (fset (fset (mjW A1 (fset (fset A 27 g) 23 (upd (A 23) p (-1)))) 20 (upd (A1 20) (2 * p + 1 - (1 - sh p0)) 0)) 14 g14) 20 = upd (upd (A 20) (2 * p + (1 - sh p0)) (nI W.length)) (2 * p + sh p0) 0 := (show upd (A1 20) (2 * p + 1 - (1 - sh p0)) 0 = _ by rw [ix, e20]; rfl)
        rw [show min (bk P.length) ((bk W.length + 1 + bk P.length) - bk W.length - 1) = bk P.length by omega] at e19
        have hLS : qLs (mjTf f2 (fset f 38 (nI W.length))) (mjTA A2 (fset (fset (mjW A1 (fset (fset A 27 g) 23 (upd (A 23) p (-1)))) 20 (upd (A1 20) (2 * p + 1 - (1 - sh p0)) 0)) 14 g14)) T _ := hl2
        have h13 : mjTA A2 (fset (fset (mjW A1 (fset (fset A 27 g) 23 (upd (A 23) p (-1)))) 20 (upd (A1 20) (2 * p + 1 - (1 - sh p0)) 0)) 14 g14) 13 = upd lo m (nI ls.length) := (by rw [e13]; show upd (A 13) m _ = _; rw [hS.2.2.1.2])
        exact m_retz cd_Mo_commits rfl (Or.inr rfl) ⟨_, rfl, (k3 hM2 hst2 (cm_2 (f' := mjTf f2 (fset f 38 (nI W.length))) (A' := mjTA A2 (fset (fset (mjW A1 (fset (fset A 27 g) 23 (upd (A 23) p (-1)))) 20 (upd (A1 20) (2 * p + 1 - (1 - sh p0)) 0)) 14 g14)) (en := g) (w := A 15) hS hp hst hE hW e18 e19 g20 e21 (eA 22 (by decide) (by decide) (by decide) (by decide)) (eA 23 (by decide) (by decide) (by decide) (by decide)) hD eid.symm hg14.1 hg14.2 hq2 hLS h13 ⟨rfl, rfl, rfl, rfl⟩ rfl ⟨rfl, rfl, rfl, rfl, rfl, rfl, rfl, rfl, rfl⟩ ⟨rfl, rfl, rfl, rfl⟩))⟩
    · exact absurd (show ¬ ((-1) : Int32) = (-1) from c50) (by decide)
  · have hk200 : k ≤ 200 := h0.1.2.2.2 k rfl
    refine m_ald (pc' := 1) cd_Mo_commits rfl (Or.inr ⟨_, rfl, rfl, rfl⟩) l0 rfl rfl ?_
    refine m_ild (pc' := 2) cd_Mo_commits rfl (Or.inr ⟨_, rfl, rfl, rfl⟩) l1 rfl ?_
    refine m_cv (pc' := 5) cd_Mo_commits rfl rfl rfl rfl rfl cd_Mo_list rfl (Nat.le_of_ble_eq_true rfl) (m_list hM hp hid hD hz0 hz1 (by rw [eW]; omega) (fun g hE => ?_))
    rw [eW] at hE ⊢
    show mg _ _ _ 5 _ [] _ _
    refine m_ald (pc' := 6) cd_Mo_commits rfl (Or.inr ⟨_, rfl, rfl, rfl⟩) l0 rfl rfl ?_
    refine m_fI (k := 38) (x := (nI W.length)) (pc' := 9) cd_Mo_commits rfl rfl rfl rfl rfl rfl ?_
    refine m_si (pc' := 12) cd_Mo_commits rfl rfl rfl rfl rfl cd_Mo_blocksOf rfl (Nat.le_of_ble_eq_true rfl) (m_blocksOf (by omega) ?_)
    show mg _ _ _ 12 _ [.int (nI (bk W.length))] _ _
    refine m_k1 (v := 1) (pc' := 13) cd_Mo_commits rfl (by decide) rfl ?_
    refine m_pure (pc' := 14) (st' := [.int ((nI (bk W.length)) + 1)]) cd_Mo_commits rfl rfl (fun _ _ => rfl) ?_
    refine m_eq (show ((nI (bk W.length)) + 1 : Int32) = nI ((bk W.length) + 1) from nI_add (bk W.length) 1) ?_
    refine m_ald (pc' := 15) cd_Mo_commits rfl (Or.inr ⟨_, rfl, rfl, rfl⟩) l0 rfl rfl ?_
    refine m_fR (r := 19) (a := 20) (ad := 1502) (pc' := 18) rfl rfl cd_Mo_commits rfl rfl rfl rfl rfl ?_
    refine m_k1 (v := 2) (pc' := 19) cd_Mo_commits rfl (by decide) rfl ?_
    refine m_ild (pc' := 20) cd_Mo_commits rfl (Or.inr ⟨_, rfl, rfl, rfl⟩) l1 rfl ?_
    refine m_pure (pc' := 21) (st' := [.int ((2 : Int32) * (nI p)), .ref 1502, .int (nI ((bk W.length) + 1))]) cd_Mo_commits rfl rfl (fun _ _ => rfl) ?_
    refine m_eq (show ((2 : Int32) * (nI p) : Int32) = nI (2 * p) from pk_mul 2 p) ?_
    refine m_ald (pc' := 22) cd_Mo_commits rfl (Or.inr ⟨_, rfl, rfl, rfl⟩) l0 rfl rfl ?_
    refine m_fR (r := 20) (a := 21) (ad := 1503) (pc' := 25) rfl rfl cd_Mo_commits rfl rfl rfl rfl rfl ?_
    refine m_ild (pc' := 26) cd_Mo_commits rfl (Or.inr ⟨_, rfl, rfl, rfl⟩) l1 rfl ?_
    refine m_aI (r := 20) (a := 21) (g := (A 21)) (x := (nI (sh p0))) (pc' := 27) rfl rfl cd_Mo_commits rfl rfl rfl (vp_in_nI (by omega) (by decide)) ((congrArg (A 21) (nI_clamp (by omega))).trans h21) ?_
    refine m_pure (pc' := 28) (st' := [.int ((nI (2 * p)) + (nI (sh p0))), .ref 1502, .int (nI ((bk W.length) + 1))]) cd_Mo_commits rfl rfl (fun _ _ => rfl) ?_
    refine m_eq (show ((nI (2 * p)) + (nI (sh p0)) : Int32) = nI ((2 * p) + (sh p0)) from nI_add (2 * p) (sh p0)) ?_
    refine m_aI (r := 19) (a := 20) (g := (A 20)) (x := (nI P.length)) (pc' := 29) rfl rfl cd_Mo_commits rfl rfl rfl (vp_in_nI (by omega) (by decide)) ((congrArg (A 20) (nI_clamp (by omega))).trans h20) ?_
    refine m_si (pc' := 32) cd_Mo_commits rfl rfl rfl rfl rfl cd_Mo_blocksOf rfl (Nat.le_of_ble_eq_true rfl) (m_blocksOf (by omega) ?_)
    show mg _ _ _ 32 _ [.int (nI (bk P.length)), .int (nI ((bk W.length) + 1))] _ _
    refine m_pure (pc' := 33) (st' := [.int ((nI ((bk W.length) + 1)) + (nI (bk P.length)))]) cd_Mo_commits rfl rfl (fun _ _ => rfl) ?_
    refine m_eq (show ((nI ((bk W.length) + 1)) + (nI (bk P.length)) : Int32) = nI (((bk W.length) + 1) + (bk P.length)) from nI_add ((bk W.length) + 1) (bk P.length)) ?_
    refine m_ist (pc' := 34) cd_Mo_commits rfl (Or.inr ⟨_, rfl, rfl, rfl⟩) (by decide) rfl (fun lv el => ?_)
    have l0 := tm_lk el l0 rfl (by decide)
    have l1 := tm_lk el l1 rfl (by decide)
    have l2 : lv.lookup 2 = some (.int (nI (((bk W.length) + 1) + (bk P.length)))) := tm_lks el
    clear el
    refine m_ald (pc' := 35) cd_Mo_commits rfl (Or.inr ⟨_, rfl, rfl, rfl⟩) l0 rfl rfl ?_
    refine m_fR (r := 22) (a := 23) (ad := 1505) (pc' := 38) rfl rfl cd_Mo_commits rfl rfl rfl rfl rfl ?_
    refine m_ild (pc' := 39) cd_Mo_commits rfl (Or.inr ⟨_, rfl, rfl, rfl⟩) l1 rfl ?_
    refine m_aI (r := 22) (a := 23) (g := (A 23)) (x := nI k) (pc' := 40) rfl rfl cd_Mo_commits rfl rfl rfl (vp_in_nI (by omega) (by decide)) ((congrArg (A 23) (nI_clamp (by omega))).trans h23) ?_
    refine m_ist (pc' := 41) cd_Mo_commits rfl (Or.inr ⟨_, rfl, rfl, rfl⟩) (by decide) rfl (fun lv el => ?_)
    have l0 := tm_lk el l0 rfl (by decide)
    have l1 := tm_lk el l1 rfl (by decide)
    have l2 := tm_lk el l2 rfl (by decide)
    have l3 : lv.lookup 3 = some (.int (nI k)) := tm_lks el
    clear el
    refine m_ald (pc' := 42) cd_Mo_commits rfl (Or.inr ⟨_, rfl, rfl, rfl⟩) l0 rfl rfl ?_
    refine m_fR (r := 22) (a := 23) (ad := 1505) (pc' := 45) rfl rfl cd_Mo_commits rfl rfl rfl rfl rfl ?_
    refine m_ild (pc' := 46) cd_Mo_commits rfl (Or.inr ⟨_, rfl, rfl, rfl⟩) l1 rfl ?_
    refine m_k1 (v := (-1)) (pc' := 47) cd_Mo_commits rfl (by decide) rfl ?_
    refine m_aS (r := 22) (a := 23) (g := (A 23)) (p := p) (pc' := 48) rfl rfl cd_Mo_commits rfl rfl rfl (vp_in_nI (by omega) (by decide)) (nI_clamp (by omega)) ?_
    refine m_ild (pc' := 49) cd_Mo_commits rfl (Or.inr ⟨_, rfl, rfl, rfl⟩) l3 rfl ?_
    refine m_k1 (v := (-1)) (pc' := 50) cd_Mo_commits rfl (by decide) rfl ?_
    refine m_if2 (t := 58) (pc' := 53) cd_Mo_commits rfl rfl rfl (fun c50 => ?_) (fun c50 => ?_)
    · have c50 : (nI k) = (-1) := c50
      exact absurd c50 (nI_nm1 (by omega))
    · have c50 : ¬ (nI k) = (-1) := c50
      refine m_ild (pc' := 54) cd_Mo_commits rfl (Or.inr ⟨_, rfl, rfl, rfl⟩) l2 rfl ?_
      refine m_ild (pc' := 55) cd_Mo_commits rfl (Or.inr ⟨_, rfl, rfl, rfl⟩) l3 rfl ?_
      refine m_if2 (t := 95) (pc' := 58) cd_Mo_commits rfl rfl rfl (fun c55 => ?_) (fun c55 => ?_)
      · have c55 : (nI k) < (nI (((bk W.length) + 1) + (bk P.length))) := c55
        refine m_ald (pc' := 96) cd_Mo_commits rfl (Or.inr ⟨_, rfl, rfl, rfl⟩) l0 rfl rfl ?_
        refine m_ild (pc' := 97) cd_Mo_commits rfl (Or.inr ⟨_, rfl, rfl, rfl⟩) l1 rfl ?_
        refine m_ild (pc' := 98) cd_Mo_commits rfl (Or.inr ⟨_, rfl, rfl, rfl⟩) l3 rfl ?_
        refine m_ci (pc' := 101) cd_Mo_commits rfl rfl rfl rfl rfl cd_Mo_write rfl (Nat.le_of_ble_eq_true rfl) (m_write (o := sh p0) (N := W.length) (m := k) (n0 := P.length) hp hsb hW (by omega) hP rfl h21 h20 (fun hmb A1 e18 e19 e20 eA => ?_) (fun hmb A1 e18 e19 e20 e21 eA => ?_))
        · skip
          show mg _ _ _ 101 _ [.int 0] _ _
          refine m_if1 (t := 109) (pc' := 104) cd_Mo_commits rfl rfl rfl (fun c101 => ?_) (fun c101 => ?_)
          · have c101 : (0 : Int32) = 0 := c101
            refine m_ald (pc' := 110) cd_Mo_commits rfl (Or.inr ⟨_, rfl, rfl, rfl⟩) l0 rfl rfl ?_
            refine m_fR (r := 21) (a := 22) (ad := 1504) (pc' := 113) rfl rfl cd_Mo_commits rfl rfl rfl rfl rfl ?_
            refine m_ild (pc' := 114) cd_Mo_commits rfl (Or.inr ⟨_, rfl, rfl, rfl⟩) l1 rfl ?_
            refine m_k1 (v := 1) (pc' := 115) cd_Mo_commits rfl (by decide) rfl ?_
            refine m_bS (r := 21) (a := 22) (g := (A1 22)) (p := p) (pc' := 116) rfl rfl cd_Mo_commits rfl rfl rfl (vp_in_nI (by omega) (by decide)) (nI_clamp (by omega)) (by decide) ?_
            refine m_k1 (v := 0) (pc' := 117) cd_Mo_commits rfl (by decide) rfl ?_
            have hk : k < (bk W.length + 1 + bk P.length) := (nI_ltI (by omega) (by omega)).mp c55
            have esc : st_commit p0 P (some k) W = (0, p0, P, W.take (8 * k), none, true) := st_commit_0 rfl (show k = st_made (some k) (bk W.length + 1 + bk P.length) from (Nat.min_eq_left (by omega)).symm) hmb
            have ef3 : ∀ k, ¬ (k = 16 ∨ k = 38 ∨ k = 40 ∨ k = 43) → (fset f 38 (nI W.length)) k = f k := fun k q => fset_ne (by omega)
            have eA3 : ∀ j, ¬ (j = 5 ∨ j = 13 ∨ j = 14 ∨ (18 ≤ j ∧ j ≤ 23) ∨ (27 ≤ j ∧ j ≤ 38)) → (fset (mjW A1 (fset (fset A 27 g) 23 (upd (A 23) p (-1)))) 22 (upd (A1 22) p 1)) j = A j := (fun j q => (fset_ne (by omega)).trans ((if_neg (by omega)).trans ((fset_ne (by omega)).trans (fset_ne (by omega)))))
            have k3 := k0 (by rw [esc]) (fset f 38 (nI W.length)) (fset (mjW A1 (fset (fset A 27 g) 23 (upd (A 23) p (-1)))) 22 (upd (A1 22) p 1))
            rw [mjCf_of ef3, mjCA_of eA3, esc] at k3
            have g22 : (fset (mjW A1 (fset (fset A 27 g) 23 (upd (A 23) p (-1)))) 22 (upd (A1 22) p 1)) 22 = upd (A 22) p 1 := (show upd (A1 22) p 1 = _ by rw [eA 22 (by decide) (by decide) (by decide) ]; rfl)
            have hLj : ∀ j, 30 ≤ j → j ≤ 38 → (fset (mjW A1 (fset (fset A 27 g) 23 (upd (A 23) p (-1)))) 22 (upd (A1 22) p 1)) j = A j := (fun j h1 h2 => (fset_ne (by omega)).trans ((if_neg (by omega)).trans ((fset_ne (by omega)).trans (fset_ne (by omega)))))
            exact m_retz cd_Mo_commits rfl (Or.inl rfl) ⟨_, rfl, (k3 hM rfl (cm_0 (f' := fset f 38 (nI W.length)) (A' := (fset (mjW A1 (fset (fset A 27 g) 23 (upd (A 23) p (-1)))) 22 (upd (A1 22) p 1))) (en := g) hS hp hst hE hW hmb e18 e19 e20 (eA 21 (by decide) (by decide) (by decide) ) g22 (eA 23 (by decide) (by decide) (by decide) ) rfl rfl ⟨rfl, rfl, rfl⟩ rfl hLj ⟨rfl, rfl, rfl, rfl⟩ rfl ⟨rfl, rfl, rfl, rfl, rfl, rfl, rfl, rfl, rfl⟩ ⟨rfl, rfl, rfl, rfl⟩))⟩
          · exact absurd (show ¬ (0 : Int32) = 0 from c101) (by decide)
        · skip
          show mg _ _ _ 101 _ [.int 1] _ _
          refine m_if1 (t := 109) (pc' := 104) cd_Mo_commits rfl rfl rfl (fun c101 => ?_) (fun c101 => ?_)
          · exact absurd (show (1 : Int32) = 0 from c101) (by decide)
          · have c101 : ¬ (1 : Int32) = 0 := c101
            refine m_ald (pc' := 105) cd_Mo_commits rfl (Or.inr ⟨_, rfl, rfl, rfl⟩) l0 rfl rfl ?_
            refine m_ild (pc' := 106) cd_Mo_commits rfl (Or.inr ⟨_, rfl, rfl, rfl⟩) l1 rfl ?_
            refine m_cv (pc' := 109) cd_Mo_commits rfl rfl rfl rfl rfl cd_Mo_keep rfl (Nat.le_of_ble_eq_true rfl) (m_keep hp (fun g14 hg14 => ?_))
            show mg _ _ _ 109 _ [] _ _
            refine m_ald (pc' := 110) cd_Mo_commits rfl (Or.inr ⟨_, rfl, rfl, rfl⟩) l0 rfl rfl ?_
            refine m_fR (r := 21) (a := 22) (ad := 1504) (pc' := 113) rfl rfl cd_Mo_commits rfl rfl rfl rfl rfl ?_
            refine m_ild (pc' := 114) cd_Mo_commits rfl (Or.inr ⟨_, rfl, rfl, rfl⟩) l1 rfl ?_
            refine m_k1 (v := 1) (pc' := 115) cd_Mo_commits rfl (by decide) rfl ?_
            refine m_bS (r := 21) (a := 22) (g := (A1 22)) (p := p) (pc' := 116) rfl rfl cd_Mo_commits rfl rfl rfl (vp_in_nI (by omega) (by decide)) (nI_clamp (by omega)) (by decide) ?_
            refine m_k1 (v := 0) (pc' := 117) cd_Mo_commits rfl (by decide) rfl ?_
            have hk : k < (bk W.length + 1 + bk P.length) := (nI_ltI (by omega) (by omega)).mp c55
            have esc : st_commit p0 P (some k) W = (1, !p0, W, P.drop (8 * (k - bk W.length - 1)), none, true) := st_commit_1 rfl (show k = st_made (some k) (bk W.length + 1 + bk P.length) from (Nat.min_eq_left (by omega)).symm) (by omega) hk
            have ef3 : ∀ k, ¬ (k = 16 ∨ k = 38 ∨ k = 40 ∨ k = 43) → (fset f 38 (nI W.length)) k = f k := fun k q => fset_ne (by omega)
            have eA3 : ∀ j, ¬ (j = 5 ∨ j = 13 ∨ j = 14 ∨ (18 ≤ j ∧ j ≤ 23) ∨ (27 ≤ j ∧ j ≤ 38)) → (fset (fset (mjW A1 (fset (fset A 27 g) 23 (upd (A 23) p (-1)))) 14 g14) 22 (upd (A1 22) p 1)) j = A j := (fun j q => (fset_ne (by omega)).trans ((fset_ne (by omega)).trans ((if_neg (by omega)).trans ((fset_ne (by omega)).trans (fset_ne (by omega))))))
            have k3 := k1 (by rw [esc]) (fset f 38 (nI W.length)) (fset (fset (mjW A1 (fset (fset A 27 g) 23 (upd (A 23) p (-1)))) 14 g14) 22 (upd (A1 22) p 1))
            rw [mjCf_of ef3, mjCA_of eA3, esc] at k3
            have g22 : (fset (fset (mjW A1 (fset (fset A 27 g) 23 (upd (A 23) p (-1)))) 14 g14) 22 (upd (A1 22) p 1)) 22 = upd (A 22) p 1 := (show upd (A1 22) p 1 = _ by rw [eA 22 (by decide) (by decide) (by decide) (by decide) ]; rfl)
            have hLj : ∀ j, 30 ≤ j → j ≤ 38 → (fset (fset (mjW A1 (fset (fset A 27 g) 23 (upd (A 23) p (-1)))) 14 g14) 22 (upd (A1 22) p 1)) j = A j := (fun j h1 h2 => (fset_ne (by omega)).trans ((fset_ne (by omega)).trans ((if_neg (by omega)).trans ((fset_ne (by omega)).trans (fset_ne (by omega))))))
            exact m_retz cd_Mo_commits rfl (Or.inl rfl) ⟨_, rfl, (k3 hM rfl (cm_1 (f' := fset f 38 (nI W.length)) (A' := (fset (fset (mjW A1 (fset (fset A 27 g) 23 (upd (A 23) p (-1)))) 14 g14) 22 (upd (A1 22) p 1))) (en := g) (w := A 15) hS hp hst hE hW (by omega) hk e18 e19 e20 e21 g22 (eA 23 (by decide) (by decide) (by decide) (by decide) ) hD eid.symm hg14.1 hg14.2 rfl ⟨rfl, rfl, rfl⟩ rfl hLj ⟨rfl, rfl, rfl, rfl⟩ rfl ⟨rfl, rfl, rfl, rfl, rfl, rfl, rfl, rfl, rfl⟩ ⟨rfl, rfl, rfl, rfl⟩))⟩
      · have c55 : ¬ (nI k) < (nI (((bk W.length) + 1) + (bk P.length))) := c55
        refine m_ald (pc' := 59) cd_Mo_commits rfl (Or.inr ⟨_, rfl, rfl, rfl⟩) l0 rfl rfl ?_
        refine m_ild (pc' := 60) cd_Mo_commits rfl (Or.inr ⟨_, rfl, rfl, rfl⟩) l1 rfl ?_
        refine m_ild (pc' := 61) cd_Mo_commits rfl (Or.inr ⟨_, rfl, rfl, rfl⟩) l2 rfl ?_
        refine m_ci (pc' := 64) cd_Mo_commits rfl rfl rfl rfl rfl cd_Mo_write rfl (Nat.le_of_ble_eq_true rfl) (m_write (o := sh p0) (N := W.length) (m := (bk W.length + 1 + bk P.length)) (n0 := P.length) hp hsb hW (by omega) hP rfl h21 h20 (fun hmb _ _ _ _ _ => ?_) (fun hmb A1 e18 e19 e20 e21 eA => ?_))
        · skip
          exact absurd hmb (by omega)
        · skip
          show mg _ _ _ 64 _ [.int 1] _ _
          refine m_pure (pc' := 65) (st' := []) cd_Mo_commits rfl rfl (fun _ _ => rfl) ?_
          refine m_ald (pc' := 66) cd_Mo_commits rfl (Or.inr ⟨_, rfl, rfl, rfl⟩) l0 rfl rfl ?_
          refine m_fR (r := 19) (a := 20) (ad := 1502) (pc' := 69) rfl rfl cd_Mo_commits rfl rfl rfl rfl rfl ?_
          refine m_k1 (v := 2) (pc' := 70) cd_Mo_commits rfl (by decide) rfl ?_
          refine m_ild (pc' := 71) cd_Mo_commits rfl (Or.inr ⟨_, rfl, rfl, rfl⟩) l1 rfl ?_
          refine m_pure (pc' := 72) (st' := [.int ((2 : Int32) * (nI p)), .ref 1502]) cd_Mo_commits rfl rfl (fun _ _ => rfl) ?_
          refine m_eq (show ((2 : Int32) * (nI p) : Int32) = nI (2 * p) from pk_mul 2 p) ?_
          refine m_k1 (v := 1) (pc' := 73) cd_Mo_commits rfl (by decide) rfl ?_
          refine m_pure (pc' := 74) (st' := [.int ((nI (2 * p)) + 1), .ref 1502]) cd_Mo_commits rfl rfl (fun _ _ => rfl) ?_
          refine m_eq (show ((nI (2 * p)) + 1 : Int32) = nI ((2 * p) + 1) from nI_add (2 * p) 1) ?_
          refine m_ald (pc' := 75) cd_Mo_commits rfl (Or.inr ⟨_, rfl, rfl, rfl⟩) l0 rfl rfl ?_
          refine m_fR (r := 20) (a := 21) (ad := 1503) (pc' := 78) rfl rfl cd_Mo_commits rfl rfl rfl rfl rfl ?_
          refine m_ild (pc' := 79) cd_Mo_commits rfl (Or.inr ⟨_, rfl, rfl, rfl⟩) l1 rfl ?_
          refine m_aI (r := 20) (a := 21) (g := (A1 21)) (x := (nI (1 - sh p0))) (pc' := 80) rfl rfl cd_Mo_commits rfl rfl rfl (vp_in_nI (by omega) (by decide)) (by rw [(nI_clamp (by omega)), e21]; exact upd_same) ?_
          refine m_pure (pc' := 81) (st' := [.int ((nI ((2 * p) + 1)) - (nI (1 - sh p0))), .ref 1502]) cd_Mo_commits rfl rfl (fun _ _ => rfl) ?_
          refine m_eq (show ((nI ((2 * p) + 1)) - (nI (1 - sh p0)) : Int32) = nI (((2 * p) + 1) - (1 - sh p0)) from pk_sub (a := ((2 * p) + 1)) (b := (1 - sh p0)) (by omega)) ?_
          refine m_k1 (v := 0) (pc' := 82) cd_Mo_commits rfl (by decide) rfl ?_
          refine m_aS (r := 19) (a := 20) (g := (A1 20)) (p := (((2 * p) + 1) - (1 - sh p0))) (pc' := 83) rfl rfl cd_Mo_commits rfl rfl rfl (vp_in_nI (by omega) (by decide)) (nI_clamp (by omega)) ?_
          refine m_ald (pc' := 84) cd_Mo_commits rfl (Or.inr ⟨_, rfl, rfl, rfl⟩) l0 rfl rfl ?_
          refine m_ild (pc' := 85) cd_Mo_commits rfl (Or.inr ⟨_, rfl, rfl, rfl⟩) l1 rfl ?_
          refine m_cv (pc' := 88) cd_Mo_commits rfl rfl rfl rfl rfl cd_Mo_keep rfl (Nat.le_of_ble_eq_true rfl) (m_keep hp (fun g14 hg14 => ?_))
          show mg _ _ _ 88 _ [] _ _
          refine m_ald (pc' := 89) cd_Mo_commits rfl (Or.inr ⟨_, rfl, rfl, rfl⟩) l0 rfl rfl ?_
          refine m_ild (pc' := 90) cd_Mo_commits rfl (Or.inr ⟨_, rfl, rfl, rfl⟩) l1 rfl ?_
          refine m_cv (pc' := 93) cd_Mo_commits rfl rfl rfl rfl rfl cd_Mo_tell rfl (Nat.le_of_ble_eq_true rfl) (m_tell1 (ls := ls) (S := S) (m := m) (on := oc) (mi := mi) (th := th) (show MT (fset f 38 (nI W.length)) (fset (fset (mjW A1 (fset (fset A 27 g) 23 (upd (A 23) p (-1)))) 20 (upd (A1 20) (2 * p + 1 - (1 - sh p0)) 0)) 14 g14) T DL G Kw from hM) h30 hnw h26 hz (show qWi (fset f 38 (nI W.length)) (fset (fset (mjW A1 (fset (fset A 27 g) 23 (upd (A 23) p (-1)))) 20 (upd (A1 20) (2 * p + 1 - (1 - sh p0)) 0)) 14 g14) T ws from qWi_m (List.prefix_refl T) rfl rfl rfl hS.2.1.1) hl (show qLs (fset f 38 (nI W.length)) (fset (fset (mjW A1 (fset (fset A 27 g) 23 (upd (A 23) p (-1)))) 20 (upd (A1 20) (2 * p + 1 - (1 - sh p0)) 0)) 14 g14) T ls from qLs_m (List.prefix_refl T) rfl (fun j h1 h2 => (fset_ne (by omega)).trans ((fset_ne (by omega)).trans ((if_neg (by omega)).trans ((fset_ne (by omega)).trans (fset_ne (by omega)))))) hS.2.2.1.1) hls7 h32 hS1 hSm hm h34 h35 h36 (fun f2 A2 hM2 hq2 hst2 hl2 e13 => ?_))
          show mg _ _ _ 93 _ [] _ _
          refine m_k1 (v := 1) (pc' := 94) cd_Mo_commits rfl (by decide) rfl ?_
          have hk : (bk W.length + 1 + bk P.length) ≤ k := (nI_leI (by omega) (by omega)).mp (Int32.not_lt.mp c55)
          have esc : st_commit p0 P (some k) W = (2, !p0, W, [], none, false) := by
            rw [st_commit_2 rfl (show (bk W.length + 1 + bk P.length) = st_made (some k) (bk W.length + 1 + bk P.length) from (Nat.min_eq_right hk).symm) (by omega) (by omega)]
            rw [List.drop_of_length_le (by have := bk_ge P.length; omega)]
          have ef3 : ∀ k, ¬ (k = 16 ∨ k = 38 ∨ k = 40 ∨ k = 43) → mjTf f2 (fset f 38 (nI W.length)) k = f k := fun k q => (if_neg (by omega)).trans (fset_ne (by omega))
          have eA3 : ∀ j, ¬ (j = 5 ∨ j = 13 ∨ j = 14 ∨ (18 ≤ j ∧ j ≤ 23) ∨ (27 ≤ j ∧ j ≤ 38)) → mjTA A2 (fset (fset (mjW A1 (fset (fset A 27 g) 23 (upd (A 23) p (-1)))) 20 (upd (A1 20) (2 * p + 1 - (1 - sh p0)) 0)) 14 g14) j = A j := (fun j q => (if_neg (by omega)).trans ((fset_ne (by omega)).trans ((fset_ne (by omega)).trans ((if_neg (by omega)).trans ((fset_ne (by omega)).trans (fset_ne (by omega)))))))
          have k3 := k2 (by rw [esc]) (mjTf f2 (fset f 38 (nI W.length))) (mjTA A2 (fset (fset (mjW A1 (fset (fset A 27 g) 23 (upd (A 23) p (-1)))) 20 (upd (A1 20) (2 * p + 1 - (1 - sh p0)) 0)) 14 g14))
          rw [mjCf_of ef3, mjCA_of eA3, esc] at k3
          have ix : 2 * p + 1 - (1 - sh p0) = 2 * p + sh p0 := by omega
          have g20 : mjTA A2 (fset (fset (mjW A1 (fset (fset A 27 g) 23 (upd (A 23) p (-1)))) 20 (upd (A1 20) (2 * p + 1 - (1 - sh p0)) 0)) 14 g14) 20 = upd (upd (A 20) (2 * p + (1 - sh p0)) (nI W.length)) (2 * p + sh p0) 0 := (show upd (A1 20) (2 * p + 1 - (1 - sh p0)) 0 = _ by rw [ix, e20]; rfl)
          rw [show min (bk P.length) ((bk W.length + 1 + bk P.length) - bk W.length - 1) = bk P.length by omega] at e19
          have hLS : qLs (mjTf f2 (fset f 38 (nI W.length))) (mjTA A2 (fset (fset (mjW A1 (fset (fset A 27 g) 23 (upd (A 23) p (-1)))) 20 (upd (A1 20) (2 * p + 1 - (1 - sh p0)) 0)) 14 g14)) T _ := hl2
          have h13 : mjTA A2 (fset (fset (mjW A1 (fset (fset A 27 g) 23 (upd (A 23) p (-1)))) 20 (upd (A1 20) (2 * p + 1 - (1 - sh p0)) 0)) 14 g14) 13 = upd lo m (nI ls.length) := (by rw [e13]; show upd (A 13) m _ = _; rw [hS.2.2.1.2])
          exact m_retz cd_Mo_commits rfl (Or.inr rfl) ⟨_, rfl, (k3 hM2 hst2 (cm_2 (f' := mjTf f2 (fset f 38 (nI W.length))) (A' := mjTA A2 (fset (fset (mjW A1 (fset (fset A 27 g) 23 (upd (A 23) p (-1)))) 20 (upd (A1 20) (2 * p + 1 - (1 - sh p0)) 0)) 14 g14)) (en := g) (w := A 15) hS hp hst hE hW e18 e19 g20 e21 (eA 22 (by decide) (by decide) (by decide) (by decide)) (eA 23 (by decide) (by decide) (by decide) (by decide)) hD eid.symm hg14.1 hg14.2 hq2 hLS h13 ⟨rfl, rfl, rfl, rfl⟩ rfl ⟨rfl, rfl, rfl, rfl, rfl, rfl, rfl, rfl, rfl⟩ ⟨rfl, rfl, rfl, rfl⟩))⟩
