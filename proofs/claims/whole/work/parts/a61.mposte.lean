/-! The reference: post, the letter -/
theorem qMm_posted {w h : Nat → Int32} {T T' : List Tm} {a : Nat} {M : MM} (hT : T <+: T') (hM : qMm w T a M) (e : ∀ k, k ≠ a + 4 → k ≠ a + 6 → h k = w k) (e4 : tv T' (h (a + 4)) (Tmx 7 M.2.2.2.2.1 tz)) (e6 : h (a + 6) = M.2.2.2.2.2.2.1 + 1) : qMm h T' a (mm_posted M) := by
  obtain ⟨ve, ma, go, ge, ch, si, ix, ga, sl, gv⟩ := M
  obtain ⟨⟨h1, h2, h3, h4⟩, ⟨h5, h6⟩, ⟨h7, h8, h9⟩, h10⟩ := hM
  refine ⟨⟨(e _ (by omega) (by omega)).trans h1, (e _ (by omega) (by omega)).trans h2, (e _ (by omega) (by omega)).trans h3, (e _ (by omega) (by omega)).trans h4⟩, ⟨e4, by rw [e _ (by omega) (by omega)]; exact tv_mono hT h6⟩, ⟨e6, (e _ (by omega) (by omega)).trans h8, (e _ (by omega) (by omega)).trans h9⟩, fun p hp => ?_⟩
  obtain ⟨⟨q1, q2⟩, q3⟩ := h10 p hp
  exact ⟨⟨(e _ (by omega) (by omega)).trans q1, q2⟩, fun k G hG => qGv_c hT (fun j hj => e _ (by omega) (by omega)) (q3 k G hG)⟩
set_option maxRecDepth 100000 in
theorem l_mpostE {sc : tm_X} {d : Nat} {f : Nat → Int32} {A : Nat → Nat → Int32} {T : List Tm} {DL : List (Int32 × Int32)} {G Kw : Tm → Prop} {dev : Nat → DV} {sto : Nat → ST} {ws : List (Tm × Int32)} {dir reg : Nat → Tm} {seen : List Tm} {ls : List RL} {lo dt db rt fl ll tl tf tg tm : Nat → Int32} {ck fo du : Int32} {id : Tm} {K0 K1 : PK} {on : List (Tm × Int32)} {lnu : Int32} {se : Nat → List SS} {me : Nat → MM} {p0 : Bool} {P O : EN2} {c : Option Nat} {NW : List Tm} {s g : Nat} {Q : Int32 → MS → Prop} (hP : PS f A T DL G Kw id K0 K1 on lnu se me dir NW) (hS : RS f A T DL dev sto ws dir reg seen ls lo (dt, db, rt, fl, ll, tl, tf, tg, tm, ck, fo, du)) (hl : T.length + 7 ≤ 4000) (hr : rc (A 1) T.length + 2 < 1000) (hdl : DL.length + 1 ≤ 3000) (hwn : ws.length + NW.length + 1 ≤ 700) (hls : ls.length < 700) (hs : s < 6) (hg : g < 4) (eid : (dev s).1 = id) (hz0 : K0.1 = tz ↔ K0.2.1 = 0) (hz1 : K1.1 = tz ↔ K1.2.1 = 0) (hst : sto s = (p0, P, O, c, false)) (hnw : NW.length < 15) (hnz : ∀ X, X ∈ NW → X ≠ tz) (ksi : kd (me g).2.2.2.2.2.1 = 1) (hen : (dv_en (id, K0, K1, on, lnu, se, fset me g (mm_posted (me g)))).length ≤ 536) (k0 : (st_commit p0 P c (dv_en (id, K0, K1, on, lnu, se, fset me g (mm_posted (me g))))).1 = 0 → ∀ f1 A1 T', T <+: T' → T'.length ≤ T.length + 7 → rc (A1 1) T'.length ≤ rc (A 1) T.length + 2 → MT f1 A1 T' (DL ++ [(nI s, 0)]) G Kw → f1 16 = f 16 → RS f1 A1 T' (DL ++ [(nI s, 0)]) dev (fset sto s (st_commit p0 P c (dv_en (id, K0, K1, on, lnu, se, fset me g (mm_posted (me g))))).2) (ws) dir reg seen (ls) ((wl lo DL.length (([(nI (6 + s), false)] : List (Int32 × Bool)).map fun _ => -1))) (wl dt DL.length (([(nI (6 + s), false)] : List (Int32 × Bool)).map fun _ => ck), wl db DL.length (([(nI (6 + s), false)] : List (Int32 × Bool)).map fun (e : Int32 × Bool) => e.1), wl rt DL.length (([(nI (6 + s), false)] : List (Int32 × Bool)).map fun (e : Int32 × Bool) => bz e.2), fl, ll, tl, tf, tg, tm, ck, fo, du) → Q (-4) (f1, A1)) (k1 : (st_commit p0 P c (dv_en (id, K0, K1, on, lnu, se, fset me g (mm_posted (me g))))).1 = 1 → ∀ f1 A1 T', T <+: T' → T'.length ≤ T.length + 7 → rc (A1 1) T'.length ≤ rc (A 1) T.length + 2 → MT f1 A1 T' (DL ++ [(nI s, 0)]) G Kw → f1 16 = f 16 → RS f1 A1 T' (DL ++ [(nI s, 0)]) (fset dev s (id, K0, K1, on, lnu, se, fset me g (mm_posted (me g)))) (fset sto s (st_commit p0 P c (dv_en (id, K0, K1, on, lnu, se, fset me g (mm_posted (me g))))).2) (ws) dir reg seen (ls) ((wl lo DL.length (([(nI (6 + s), false)] : List (Int32 × Bool)).map fun _ => -1))) (wl dt DL.length (([(nI (6 + s), false)] : List (Int32 × Bool)).map fun _ => ck), wl db DL.length (([(nI (6 + s), false)] : List (Int32 × Bool)).map fun (e : Int32 × Bool) => e.1), wl rt DL.length (([(nI (6 + s), false)] : List (Int32 × Bool)).map fun (e : Int32 × Bool) => bz e.2), fl, ll, tl, tf, tg, tm, ck, fo, du) → Q (-4) (f1, A1)) (k2 : (st_commit p0 P c (dv_en (id, K0, K1, on, lnu, se, fset me g (mm_posted (me g))))).1 = 2 → ∀ f1 A1 T', T <+: T' → T'.length ≤ T.length + 7 → rc (A1 1) T'.length ≤ rc (A 1) T.length + 2 → MT f1 A1 T' (DL ++ [(nI s, 0)]) (fun y => G y ∨ y ∈ NW ++ [(mm_post (me g) (nI g) (nI s) (Trw 4 0 0 0 0 (Tsec (nI DL.length) (nI s) 0) tz tz tz))]) Kw → (f1 16 = 1 ∨ (f1 16 = f 16 ∧ ∀ y, y ∈ NW ++ [(mm_post (me g) (nI g) (nI s) (Trw 4 0 0 0 0 (Tsec (nI DL.length) (nI s) 0) tz tz tz))] → G y)) → RS f1 A1 T' (DL ++ [(nI s, 0)]) (fset dev s (id, K0, K1, on, lnu, se, fset me g (mm_posted (me g)))) (fset sto s (st_commit p0 P c (dv_en (id, K0, K1, on, lnu, se, fset me g (mm_posted (me g))))).2) (ws ++ NW.map (fun X => (X, -1)) ++ [((mm_post (me g) (nI g) (nI s) (Trw 4 0 0 0 0 (Tsec (nI DL.length) (nI s) 0) tz tz tz)), nI ls.length)]) dir reg seen (ls ++ [((Tsec (nI DL.length) (nI s) 0), nI s, nI (16 + g), false, tz, tz, (me g).2.1, 0, fun _ => 2147483647)]) (upd (wl lo DL.length (([(nI (6 + s), false)] : List (Int32 × Bool)).map fun _ => -1)) DL.length (nI ls.length)) (wl dt DL.length (([(nI (6 + s), false)] : List (Int32 × Bool)).map fun _ => ck), wl db DL.length (([(nI (6 + s), false)] : List (Int32 × Bool)).map fun (e : Int32 × Bool) => e.1), wl rt DL.length (([(nI (6 + s), false)] : List (Int32 × Bool)).map fun (e : Int32 × Bool) => bz e.2), fl, ll, tl, tf, tg, tm, ck, fo, du) → Q (nI (ws.length + NW.length)) (f1, A1)) : ∀ lv : tm_L, lv.lookup 0 = some (.ref 1482) → lv.lookup 1 = some (.int (nI s)) → lv.lookup 2 = some (.int (nI g)) → lv.lookup 4 = some (.int (nI (486 + g * 279))) → mg sc (d + 5) 228 352 lv [] (f, A) (fun r s' => ∃ v, r = some (.int v) ∧ Q v s') := by
  intro lv l0 l1 l2 l4
  obtain ⟨⟨hM, h11⟩, hD, hdir, h30, h26⟩ := hP
  have hTl := MT_len hM
  have h21 : f 21 = ck := hS.2.2.2.1.2.1
  have hG0 := hD.2.2.2 g hg
  have hG := hG0
  have hmg2 : ∃ M, me g = M := ⟨_, rfl⟩
  rcases hmg : me g with ⟨ve, ma, go, ge, ch, si, ix, ga, sl, gv⟩
  rw [hmg] at hG
  have ksi2 : kd si = 1 := by rw [hmg] at ksi; exact ksi
  obtain ⟨⟨g1, g2, g3, g4⟩, ⟨g5, g6⟩, ⟨g7, g8, g9⟩, g10⟩ := hG
  refine m_ald (pc' := 353) cd_Mo_post rfl (Or.inr ⟨_, rfl, rfl, rfl⟩) l0 rfl rfl ?_
  refine m_ald (pc' := 354) cd_Mo_post rfl (Or.inr ⟨_, rfl, rfl, rfl⟩) l0 rfl rfl ?_
  refine m_k2 (v := 6) (pc' := 356) cd_Mo_post rfl (by decide) rfl ?_
  refine m_ild (pc' := 357) cd_Mo_post rfl (Or.inr ⟨_, rfl, rfl, rfl⟩) l1 rfl ?_
  refine m_pure (pc' := 358) (st' := [.int ((6 : Int32) + (nI s)), .ref 1482, .ref 1482]) cd_Mo_post rfl rfl (fun _ _ => rfl) ?_
  refine m_eq (show ((6 : Int32) + (nI s) : Int32) = nI (6 + s) from nI_add 6 s) ?_
  refine m_k1 (v := 0) (pc' := 359) cd_Mo_post rfl (by decide) rfl ?_
  refine m_ci (pc' := 362) cd_Mo_post rfl rfl rfl rfl rfl cd_Mo_drawn rfl (Nat.le_of_ble_eq_true rfl) (m_drawn (rt := false) (xd := (nI s)) (xp := 0) (by exact MT_i hM rfl rfl rfl rfl rfl rfl rfl rfl rfl rfl) (by omega) (by show rc (A 1) T.length < 1000; omega) h11 (by omega) (fun f1 A1 T1 r1 hx1 hr1 => ?_))
  obtain ⟨p1, q1, s1, hM1⟩ := hx1
  have hM1 : MT f1 A1 T1 _ _ _ := MT_i hM1 rfl rfl rfl rfl rfl rfl rfl rfl rfl rfl
  have s1 : rc (A1 1) T1.length ≤ rc (A 1) T.length + 0 := s1
  show mg _ _ _ 362 _ [.int r1, .ref 1482] _ _
  refine m_pI (k := 32) (pc' := 365) cd_Mo_post rfl rfl rfl rfl (by simp [tm_okV, narrow, fits]) rfl rfl ?_
  refine m_ald (pc' := 366) cd_Mo_post rfl (Or.inr ⟨_, rfl, rfl, rfl⟩) l0 rfl rfl ?_
  refine m_k2 (v := 16) (pc' := 368) cd_Mo_post rfl (by decide) rfl ?_
  refine m_ild (pc' := 369) cd_Mo_post rfl (Or.inr ⟨_, rfl, rfl, rfl⟩) l2 rfl ?_
  refine m_pure (pc' := 370) (st' := [.int ((16 : Int32) + (nI g)), .ref 1482]) cd_Mo_post rfl rfl (fun _ _ => rfl) ?_
  refine m_eq (show ((16 : Int32) + (nI g) : Int32) = nI (16 + g) from nI_add 16 g) ?_
  refine m_pI (k := 33) (pc' := 373) cd_Mo_post rfl rfl rfl rfl (by simp [tm_okV, narrow, fits]) rfl rfl ?_
  refine m_ald (pc' := 374) cd_Mo_post rfl (Or.inr ⟨_, rfl, rfl, rfl⟩) l0 rfl rfl ?_
  refine m_k1 (v := 0) (pc' := 375) cd_Mo_post rfl (by decide) rfl ?_
  refine m_pI (k := 34) (pc' := 378) cd_Mo_post rfl rfl rfl rfl (by decide) rfl rfl ?_
  refine m_ald (pc' := 379) cd_Mo_post rfl (Or.inr ⟨_, rfl, rfl, rfl⟩) l0 rfl rfl ?_
  refine m_k1 (v := 0) (pc' := 380) cd_Mo_post rfl (by decide) rfl ?_
  refine m_pI (k := 35) (pc' := 383) cd_Mo_post rfl rfl rfl rfl (by simp [tm_okV, narrow, fits]) rfl rfl ?_
  refine m_ald (pc' := 384) cd_Mo_post rfl (Or.inr ⟨_, rfl, rfl, rfl⟩) l0 rfl rfl ?_
  refine m_k1 (v := 0) (pc' := 385) cd_Mo_post rfl (by decide) rfl ?_
  refine m_pI (k := 36) (pc' := 388) cd_Mo_post rfl rfl rfl rfl (by simp [tm_okV, narrow, fits]) rfl rfl ?_
  refine m_ald (pc' := 389) cd_Mo_post rfl (Or.inr ⟨_, rfl, rfl, rfl⟩) l0 rfl rfl ?_
  refine m_ald (pc' := 390) cd_Mo_post rfl (Or.inr ⟨_, rfl, rfl, rfl⟩) l0 rfl rfl ?_
  refine m_fR (r := 14) (a := 15) (ad := 1497) (pc' := 393) rfl rfl cd_Mo_post rfl rfl rfl rfl rfl ?_
  refine m_ild (pc' := 395) cd_Mo_post rfl (Or.inl ⟨rfl, rfl⟩) l4 rfl ?_
  refine m_k1 (v := 1) (pc' := 396) cd_Mo_post rfl (by decide) rfl ?_
  refine m_pure (pc' := 397) (st' := [.int ((nI (486 + g * 279)) + 1), .ref 1497, .ref 1482]) cd_Mo_post rfl rfl (fun _ _ => rfl) ?_
  refine m_eq (show ((nI (486 + g * 279)) + 1 : Int32) = nI ((486 + g * 279) + 1) from nI_add (486 + g * 279) 1) ?_
  refine m_aI (r := 14) (a := 15) (g := (A 15)) (x := ma) (pc' := 398) rfl rfl cd_Mo_post rfl rfl rfl (vp_in_nI (by omega) (by decide)) ((congrArg (A 15) (nI_clamp (by omega))).trans g2) ?_
  refine m_pI (k := 37) (pc' := 401) cd_Mo_post rfl rfl rfl rfl (by simp [tm_okV, narrow, fits]) rfl rfl ?_
  refine m_ald (pc' := 402) cd_Mo_post rfl (Or.inr ⟨_, rfl, rfl, rfl⟩) l0 rfl rfl ?_
  refine m_k2 (v := 7) (pc' := 404) cd_Mo_post rfl (by decide) rfl ?_
  refine m_ild (pc' := 405) cd_Mo_post rfl (Or.inr ⟨_, rfl, rfl, rfl⟩) l2 rfl ?_
  refine m_ild (pc' := 406) cd_Mo_post rfl (Or.inr ⟨_, rfl, rfl, rfl⟩) l1 rfl ?_
  refine m_ald (pc' := 407) cd_Mo_post rfl (Or.inr ⟨_, rfl, rfl, rfl⟩) l0 rfl rfl ?_
  refine m_fR (r := 14) (a := 15) (ad := 1497) (pc' := 410) rfl rfl cd_Mo_post rfl rfl rfl rfl rfl ?_
  refine m_ild (pc' := 412) cd_Mo_post rfl (Or.inl ⟨rfl, rfl⟩) l4 rfl ?_
  refine m_k1 (v := 3) (pc' := 413) cd_Mo_post rfl (by decide) rfl ?_
  refine m_pure (pc' := 414) (st' := [.int ((nI (486 + g * 279)) + 3), .ref 1497, .int (nI s), .int (nI g), .int 7, .ref 1482]) cd_Mo_post rfl rfl (fun _ _ => rfl) ?_
  refine m_eq (show ((nI (486 + g * 279)) + 3 : Int32) = nI ((486 + g * 279) + 3) from nI_add (486 + g * 279) 3) ?_
  refine m_aI (r := 14) (a := 15) (g := (A 15)) (x := ge) (pc' := 415) rfl rfl cd_Mo_post rfl rfl rfl (vp_in_nI (by omega) (by decide)) ((congrArg (A 15) (nI_clamp (by omega))).trans g4) ?_
  refine m_ald (pc' := 416) cd_Mo_post rfl (Or.inr ⟨_, rfl, rfl, rfl⟩) l0 rfl rfl ?_
  refine m_fR (r := 14) (a := 15) (ad := 1497) (pc' := 419) rfl rfl cd_Mo_post rfl rfl rfl rfl rfl ?_
  refine m_ild (pc' := 421) cd_Mo_post rfl (Or.inl ⟨rfl, rfl⟩) l4 rfl ?_
  refine m_k2 (v := 6) (pc' := 423) cd_Mo_post rfl (by decide) rfl ?_
  refine m_pure (pc' := 424) (st' := [.int ((nI (486 + g * 279)) + 6), .ref 1497, .int ge, .int (nI s), .int (nI g), .int 7, .ref 1482]) cd_Mo_post rfl rfl (fun _ _ => rfl) ?_
  refine m_eq (show ((nI (486 + g * 279)) + 6 : Int32) = nI ((486 + g * 279) + 6) from nI_add (486 + g * 279) 6) ?_
  refine m_aI (r := 14) (a := 15) (g := (A 15)) (x := ix) (pc' := 425) rfl rfl cd_Mo_post rfl rfl rfl (vp_in_nI (by omega) (by decide)) ((congrArg (A 15) (nI_clamp (by omega))).trans g7) ?_
  refine m_k1 (v := 0) (pc' := 426) cd_Mo_post rfl (by decide) rfl ?_
  refine m_k1 (v := 0) (pc' := 427) cd_Mo_post rfl (by decide) rfl ?_
  refine m_ci (pc' := 430) cd_Mo_post rfl rfl rfl rfl rfl cd_Mo_rowOf rfl (Nat.le_of_ble_eq_true rfl) (m_rowOf (by exact MT_i hM1 rfl rfl rfl rfl rfl rfl rfl rfl rfl rfl) (by omega) (by show rc (A1 1) T1.length < 1000; omega) (MT_z hM1) (MT_z hM1) (fun f2 A2 T2 r2 g2 hx2 hr2 => ?_))
  obtain ⟨p2, q2, s2, hM2⟩ := hx2
  have hM2 : MT f2 A2 T2 _ _ _ := MT_i hM2 rfl rfl rfl rfl rfl rfl rfl rfl rfl rfl
  have s2 : rc (A2 1) T2.length ≤ rc (A1 1) T1.length + 1 := s2
  show mg _ _ _ 430 _ [.int r2] _ _
  refine m_ist (pc' := 432) cd_Mo_post rfl (Or.inl ⟨rfl, rfl⟩) (by decide) rfl (fun lv el => ?_)
  have l0 := tm_lk el l0 rfl (by decide)
  have l1 := tm_lk el l1 rfl (by decide)
  have l2 := tm_lk el l2 rfl (by decide)
  have l4 := tm_lk el l4 rfl (by decide)
  have l5 : lv.lookup 5 = some (.int r2) := tm_lks el
  clear el
  refine m_ald (pc' := 433) cd_Mo_post rfl (Or.inr ⟨_, rfl, rfl, rfl⟩) l0 rfl rfl ?_
  refine m_k1 (v := 4) (pc' := 434) cd_Mo_post rfl (by decide) rfl ?_
  refine m_k1 (v := 0) (pc' := 435) cd_Mo_post rfl (by decide) rfl ?_
  refine m_k1 (v := 0) (pc' := 436) cd_Mo_post rfl (by decide) rfl ?_
  refine m_k1 (v := 0) (pc' := 437) cd_Mo_post rfl (by decide) rfl ?_
  refine m_k1 (v := 0) (pc' := 438) cd_Mo_post rfl (by decide) rfl ?_
  refine m_ald (pc' := 439) cd_Mo_post rfl (Or.inr ⟨_, rfl, rfl, rfl⟩) l0 rfl rfl ?_
  refine m_fI (k := 32) (x := r1) (pc' := 442) cd_Mo_post rfl rfl rfl rfl rfl rfl ?_
  refine m_k1 (v := 0) (pc' := 443) cd_Mo_post rfl (by decide) rfl ?_
  refine m_ci (pc' := 446) cd_Mo_post rfl rfl rfl rfl rfl cd_Mo_rowOf rfl (Nat.le_of_ble_eq_true rfl) (m_rowOf (by exact MT_i hM2 rfl rfl rfl rfl rfl rfl rfl rfl rfl rfl) (by omega) (by show rc (A2 1) T2.length < 1000; omega) (tv_mono p2 hr1) (MT_z hM2) (fun f3 A3 T3 r3 g3 hx3 hr3 => ?_))
  obtain ⟨p3, q3, s3, hM3⟩ := hx3
  have hM3 : MT f3 A3 T3 _ _ _ := MT_i hM3 rfl rfl rfl rfl rfl rfl rfl rfl rfl rfl
  have s3 : rc (A3 1) T3.length ≤ rc (A2 1) T2.length + 1 := s3
  show mg _ _ _ 446 _ [.int r3] _ _
  refine m_ist (pc' := 448) cd_Mo_post rfl (Or.inl ⟨rfl, rfl⟩) (by decide) rfl (fun lv el => ?_)
  have l0 := tm_lk el l0 rfl (by decide)
  have l1 := tm_lk el l1 rfl (by decide)
  have l2 := tm_lk el l2 rfl (by decide)
  have l4 := tm_lk el l4 rfl (by decide)
  have l5 := tm_lk el l5 rfl (by decide)
  have l6 : lv.lookup 6 = some (.int r3) := tm_lks el
  clear el
  refine m_ald (pc' := 449) cd_Mo_post rfl (Or.inr ⟨_, rfl, rfl, rfl⟩) l0 rfl rfl ?_
  refine m_fR (r := 25) (a := 26) (ad := 1508) (pc' := 452) rfl rfl cd_Mo_post rfl rfl rfl rfl rfl ?_
  refine m_ald (pc' := 453) cd_Mo_post rfl (Or.inr ⟨_, rfl, rfl, rfl⟩) l0 rfl rfl ?_
  refine m_fI (k := 30) (x := (nI NW.length)) (pc' := 456) cd_Mo_post rfl rfl rfl rfl rfl h30 ?_
  refine m_ald (pc' := 457) cd_Mo_post rfl (Or.inr ⟨_, rfl, rfl, rfl⟩) l0 rfl rfl ?_
  refine m_k2 (v := 6) (pc' := 459) cd_Mo_post rfl (by decide) rfl ?_
  refine m_ald (pc' := 460) cd_Mo_post rfl (Or.inr ⟨_, rfl, rfl, rfl⟩) l0 rfl rfl ?_
  refine m_fR (r := 14) (a := 15) (ad := 1497) (pc' := 463) rfl rfl cd_Mo_post rfl rfl rfl rfl rfl ?_
  refine m_ild (pc' := 465) cd_Mo_post rfl (Or.inl ⟨rfl, rfl⟩) l4 rfl ?_
  refine m_k1 (v := 5) (pc' := 466) cd_Mo_post rfl (by decide) rfl ?_
  refine m_pure (pc' := 467) (st' := [.int ((nI (486 + g * 279)) + 5), .ref 1497, .int 6, .ref 1482, .int ((nI NW.length)), .ref 1508]) cd_Mo_post rfl rfl (fun _ _ => rfl) ?_
  refine m_eq (show ((nI (486 + g * 279)) + 5 : Int32) = nI ((486 + g * 279) + 5) from nI_add (486 + g * 279) 5) ?_
  refine m_aI (r := 14) (a := 15) (g := (A 15)) (x := ((A 15) ((486 + g * 279) + 5))) (pc' := 468) rfl rfl cd_Mo_post rfl rfl rfl (vp_in_nI (by omega) (by decide)) (congrArg (A 15) (nI_clamp (by omega))) ?_
  refine m_ald (pc' := 469) cd_Mo_post rfl (Or.inr ⟨_, rfl, rfl, rfl⟩) l0 rfl rfl ?_
  refine m_k1 (v := 5) (pc' := 470) cd_Mo_post rfl (by decide) rfl ?_
  refine m_ald (pc' := 471) cd_Mo_post rfl (Or.inr ⟨_, rfl, rfl, rfl⟩) l0 rfl rfl ?_
  refine m_k2 (v := 6) (pc' := 473) cd_Mo_post rfl (by decide) rfl ?_
  refine m_ald (pc' := 474) cd_Mo_post rfl (Or.inr ⟨_, rfl, rfl, rfl⟩) l0 rfl rfl ?_
  refine m_fR (r := 14) (a := 15) (ad := 1497) (pc' := 477) rfl rfl cd_Mo_post rfl rfl rfl rfl rfl ?_
  refine m_ild (pc' := 479) cd_Mo_post rfl (Or.inl ⟨rfl, rfl⟩) l4 rfl ?_
  refine m_k1 (v := 4) (pc' := 480) cd_Mo_post rfl (by decide) rfl ?_
  refine m_pure (pc' := 481) (st' := [.int ((nI (486 + g * 279)) + 4), .ref 1497, .int 6, .ref 1482, .int 5, .ref 1482, .int (((A 15) ((486 + g * 279) + 5))), .int 6, .ref 1482, .int ((nI NW.length)), .ref 1508]) cd_Mo_post rfl rfl (fun _ _ => rfl) ?_
  refine m_eq (show ((nI (486 + g * 279)) + 4 : Int32) = nI ((486 + g * 279) + 4) from nI_add (486 + g * 279) 4) ?_
  refine m_aI (r := 14) (a := 15) (g := (A 15)) (x := ((A 15) ((486 + g * 279) + 4))) (pc' := 482) rfl rfl cd_Mo_post rfl rfl rfl (vp_in_nI (by omega) (by decide)) (congrArg (A 15) (nI_clamp (by omega))) ?_
  refine m_k1 (v := 0) (pc' := 483) cd_Mo_post rfl (by decide) rfl ?_
  refine m_ci (pc' := 486) cd_Mo_post rfl rfl rfl rfl rfl cd_Mo_mix rfl (Nat.le_of_ble_eq_true rfl) (m_mix (by exact MT_i hM3 rfl rfl rfl rfl rfl rfl rfl rfl rfl rfl) (by omega) (by show rc (A3 1) T3.length < 1000; omega) (tv_mono p3 (tv_mono p2 (tv_mono p1 g5))) (MT_z hM3) (fun f4 A4 T4 r4 hx4 hr4 => ?_))
  obtain ⟨p4, q4, s4, hM4⟩ := hx4
  have hM4 : MT f4 A4 T4 _ _ _ := MT_i hM4 rfl rfl rfl rfl rfl rfl rfl rfl rfl rfl
  have s4 : rc (A4 1) T4.length ≤ rc (A3 1) T3.length + 0 := s4
  show mg _ _ _ 486 _ [.int r4, .int 5, .ref 1482, .int (((A 15) ((486 + g * 279) + 5))), .int 6, .ref 1482, .int ((nI NW.length)), .ref 1508] _ _
  refine m_ild (pc' := 488) cd_Mo_post rfl (Or.inl ⟨rfl, rfl⟩) l5 rfl ?_
  refine m_ild (pc' := 490) cd_Mo_post rfl (Or.inl ⟨rfl, rfl⟩) l6 rfl ?_
  refine m_ci (pc' := 493) cd_Mo_post rfl rfl rfl rfl rfl cd_Mo_term rfl (Nat.le_of_ble_eq_true rfl) (m_sealed (by exact MT_i hM4 rfl rfl rfl rfl rfl rfl rfl rfl rfl rfl) (by omega) (by show rc (A4 1) T4.length < 1000; omega) hr4 (tv_mono p4 (tv_mono p3 hr2)) (tv_mono p4 hr3) (fun e => nomatch e) (fun e => nomatch e) (fun e => nomatch e) (fun f5 A5 T5 r5 hx5 hr5 => ?_))
  obtain ⟨p5, q5, s5, hM5⟩ := hx5
  have hM5 : MT f5 A5 T5 _ _ _ := MT_i hM5 rfl rfl rfl rfl rfl rfl rfl rfl rfl rfl
  have s5 : rc (A5 1) T5.length ≤ rc (A4 1) T4.length + 0 := s5
  show mg _ _ _ 493 _ [.int r5, .int (((A 15) ((486 + g * 279) + 5))), .int 6, .ref 1482, .int ((nI NW.length)), .ref 1508] _ _
  refine m_k1 (v := 0) (pc' := 494) cd_Mo_post rfl (by decide) rfl ?_
  refine m_ci (pc' := 497) cd_Mo_post rfl rfl rfl rfl rfl cd_Mo_term rfl (Nat.le_of_ble_eq_true rfl) (m_signed (by exact MT_i hM5 rfl rfl rfl rfl rfl rfl rfl rfl rfl rfl) (by omega) (by show rc (A5 1) T5.length < 1000; omega) (tv_mono p5 (tv_mono p4 (tv_mono p3 (tv_mono p2 (tv_mono p1 g6))))) hr5 (fun e => by rw [e] at ksi2; exact absurd ksi2 (by decide)) (fun e => nomatch e) (fun f6 A6 T6 r6 hx6 hr6 => ?_))
  obtain ⟨p6, q6, s6, hM6⟩ := hx6
  have hM6 : MT f6 A6 T6 _ _ _ := MT_i hM6 rfl rfl rfl rfl rfl rfl rfl rfl rfl rfl
  have s6 : rc (A6 1) T6.length ≤ rc (A5 1) T5.length + 0 := s6
  show mg _ _ _ 497 _ [.int r6, .int ((nI NW.length)), .ref 1508] _ _
  refine m_aS (r := 25) (a := 26) (g := (A 26)) (p := NW.length) (pc' := 498) rfl rfl cd_Mo_post rfl rfl rfl (vp_in_nI (by omega) (by decide)) (nI_clamp (by omega)) ?_
  refine m_ald (pc' := 499) cd_Mo_post rfl (Or.inr ⟨_, rfl, rfl, rfl⟩) l0 rfl rfl ?_
  refine m_pure (pc' := 500) (st' := [.ref 1482, .ref 1482]) cd_Mo_post rfl rfl (fun _ _ => rfl) ?_
  refine m_fI (k := 30) (x := (nI NW.length)) (pc' := 503) cd_Mo_post rfl rfl rfl rfl rfl h30 ?_
  refine m_k1 (v := 1) (pc' := 504) cd_Mo_post rfl (by decide) rfl ?_
  refine m_pure (pc' := 505) (st' := [.int ((nI NW.length) + 1), .ref 1482]) cd_Mo_post rfl rfl (fun _ _ => rfl) ?_
  refine m_eq (show ((nI NW.length) + 1 : Int32) = nI (NW.length + 1) from nI_add NW.length 1) ?_
  refine m_pI (k := 30) (pc' := 508) cd_Mo_post rfl rfl rfl rfl (by simp [tm_okV, narrow, fits]) rfl rfl ?_
  refine m_ald (pc' := 509) cd_Mo_post rfl (Or.inr ⟨_, rfl, rfl, rfl⟩) l0 rfl rfl ?_
  refine m_fR (r := 14) (a := 15) (ad := 1497) (pc' := 512) rfl rfl cd_Mo_post rfl rfl rfl rfl rfl ?_
  refine m_ild (pc' := 514) cd_Mo_post rfl (Or.inl ⟨rfl, rfl⟩) l4 rfl ?_
  refine m_k1 (v := 4) (pc' := 515) cd_Mo_post rfl (by decide) rfl ?_
  refine m_pure (pc' := 516) (st' := [.int ((nI (486 + g * 279)) + 4), .ref 1497]) cd_Mo_post rfl rfl (fun _ _ => rfl) ?_
  refine m_eq (show ((nI (486 + g * 279)) + 4 : Int32) = nI ((486 + g * 279) + 4) from nI_add (486 + g * 279) 4) ?_
  refine m_ald (pc' := 517) cd_Mo_post rfl (Or.inr ⟨_, rfl, rfl, rfl⟩) l0 rfl rfl ?_
  refine m_k2 (v := 7) (pc' := 519) cd_Mo_post rfl (by decide) rfl ?_
  refine m_ald (pc' := 520) cd_Mo_post rfl (Or.inr ⟨_, rfl, rfl, rfl⟩) l0 rfl rfl ?_
  refine m_fR (r := 14) (a := 15) (ad := 1497) (pc' := 523) rfl rfl cd_Mo_post rfl rfl rfl rfl rfl ?_
  refine m_ild (pc' := 525) cd_Mo_post rfl (Or.inl ⟨rfl, rfl⟩) l4 rfl ?_
  refine m_k1 (v := 4) (pc' := 526) cd_Mo_post rfl (by decide) rfl ?_
  refine m_pure (pc' := 527) (st' := [.int ((nI (486 + g * 279)) + 4), .ref 1497, .int 7, .ref 1482, .int (nI ((486 + g * 279) + 4)), .ref 1497]) cd_Mo_post rfl rfl (fun _ _ => rfl) ?_
  refine m_eq (show ((nI (486 + g * 279)) + 4 : Int32) = nI ((486 + g * 279) + 4) from nI_add (486 + g * 279) 4) ?_
  refine m_aI (r := 14) (a := 15) (g := (A 15)) (x := ((A 15) ((486 + g * 279) + 4))) (pc' := 528) rfl rfl cd_Mo_post rfl rfl rfl (vp_in_nI (by omega) (by decide)) (congrArg (A 15) (nI_clamp (by omega))) ?_
  refine m_k1 (v := 0) (pc' := 529) cd_Mo_post rfl (by decide) rfl ?_
  refine m_ci (pc' := 532) cd_Mo_post rfl rfl rfl rfl rfl cd_Mo_mix rfl (Nat.le_of_ble_eq_true rfl) (m_mix (by exact MT_i hM6 rfl rfl rfl rfl rfl rfl rfl rfl rfl rfl) (by omega) (by show rc (A6 1) T6.length < 1000; omega) (tv_mono p6 (tv_mono p5 (tv_mono p4 (tv_mono p3 (tv_mono p2 (tv_mono p1 g5)))))) (MT_z hM6) (fun f7 A7 T7 r7 hx7 hr7 => ?_))
  obtain ⟨p7, q7, s7, hM7⟩ := hx7
  have hM7 : MT f7 A7 T7 _ _ _ := MT_i hM7 rfl rfl rfl rfl rfl rfl rfl rfl rfl rfl
  have s7 : rc (A7 1) T7.length ≤ rc (A6 1) T6.length + 0 := s7
  show mg _ _ _ 532 _ [.int r7, .int (nI ((486 + g * 279) + 4)), .ref 1497] _ _
  refine m_aS (r := 14) (a := 15) (g := (A 15)) (p := ((486 + g * 279) + 4)) (pc' := 533) rfl rfl cd_Mo_post rfl rfl rfl (vp_in_nI (by omega) (by decide)) (nI_clamp (by omega)) ?_
  refine m_ald (pc' := 534) cd_Mo_post rfl (Or.inr ⟨_, rfl, rfl, rfl⟩) l0 rfl rfl ?_
  refine m_fR (r := 14) (a := 15) (ad := 1497) (pc' := 537) rfl rfl cd_Mo_post rfl rfl rfl rfl rfl ?_
  refine m_ild (pc' := 539) cd_Mo_post rfl (Or.inl ⟨rfl, rfl⟩) l4 rfl ?_
  refine m_k2 (v := 6) (pc' := 541) cd_Mo_post rfl (by decide) rfl ?_
  refine m_pure (pc' := 542) (st' := [.int ((nI (486 + g * 279)) + 6), .ref 1497]) cd_Mo_post rfl rfl (fun _ _ => rfl) ?_
  refine m_eq (show ((nI (486 + g * 279)) + 6 : Int32) = nI ((486 + g * 279) + 6) from nI_add (486 + g * 279) 6) ?_
  refine m_pure (pc' := 543) (st' := [.int (nI ((486 + g * 279) + 6)), .ref 1497, .int (nI ((486 + g * 279) + 6)), .ref 1497]) cd_Mo_post rfl rfl (fun _ _ => rfl) ?_
  refine m_aI (r := 14) (a := 15) (g := (upd (A 15) ((486 + g * 279) + 4) r7)) (x := ix) (pc' := 544) rfl rfl cd_Mo_post rfl rfl rfl (vp_in_nI (by omega) (by decide)) (by rw [(nI_clamp (by omega)), upd_ne (by omega)]; exact g7) ?_
  refine m_k1 (v := 1) (pc' := 545) cd_Mo_post rfl (by decide) rfl ?_
  refine m_pure (pc' := 546) (st' := [.int (ix + 1), .int (nI ((486 + g * 279) + 6)), .ref 1497]) cd_Mo_post rfl rfl (fun _ _ => rfl) ?_
  refine m_aS (r := 14) (a := 15) (g := (upd (A 15) ((486 + g * 279) + 4) r7)) (p := ((486 + g * 279) + 6)) (pc' := 547) rfl rfl cd_Mo_post rfl rfl rfl (vp_in_nI (by omega) (by decide)) (nI_clamp (by omega)) ?_
  rw [fset_fset]
  refine m_ald (pc' := 548) cd_Mo_post rfl (Or.inr ⟨_, rfl, rfl, rfl⟩) l0 rfl rfl ?_
  refine m_ild (pc' := 549) cd_Mo_post rfl (Or.inr ⟨_, rfl, rfl, rfl⟩) l1 rfl ?_
  have pT := ((((((p1.trans p2).trans p3).trans p4).trans p5).trans p6).trans p7)
  have hGp : qMm (upd (upd (A 15) ((486 + g * 279) + 4) r7) ((486 + g * 279) + 6) (ix + 1)) T7 (486 + g * 279) (mm_posted (me g)) := by
    refine qMm_posted pT hG0 (fun k k1 k2 => by rw [upd_ne k2, upd_ne k1]) ?_ ?_
    · rw [upd_ne (by omega), upd_same, hmg]; exact hr7
    · rw [upd_same, hmg]
  have hND := qDv_grp hg hD pT hGp (fun j hj => by rw [upd_ne (by omega), upd_ne (by omega)])
  have hwp : tv T7 r6 (mm_post (me g) (nI g) (nI s) (Trw 4 0 0 0 0 (Tsec (nI DL.length) (nI s) 0) tz tz tz)) := (by rw [hmg]; exact (tv_mono p7 hr6))
  have hwz : (mm_post (me g) (nI g) (nI s) (Trw 4 0 0 0 0 (Tsec (nI DL.length) (nI s) 0) tz tz tz)) ≠ tz := by rw [hmg]; exact fun e => nomatch e
  have hN26 := NW_add (A' := fset A 26 (upd (A 26) NW.length r6)) pT h26 rfl hwp
  have ema : (me g).2.1 = ma := by rw [hmg]
  rw [ema] at k2
  refine m_ci (pc' := 552) cd_Mo_post rfl rfl rfl rfl rfl cd_Mo_commits rfl (Nat.le_of_ble_eq_true rfl) (m_commits1 (T := T7) (DL := (DL ++ [(nI s, 0)])) (dev := dev) (sto := sto) (ws := ws) (dir := dir) (reg := reg) (seen := seen) (ls := ls) (lo := (wl lo DL.length (([(nI (6 + s), false)] : List (Int32 × Bool)).map fun _ => -1))) (R := (wl dt DL.length (([(nI (6 + s), false)] : List (Int32 × Bool)).map fun _ => ck), wl db DL.length (([(nI (6 + s), false)] : List (Int32 × Bool)).map fun (e : Int32 × Bool) => e.1), wl rt DL.length (([(nI (6 + s), false)] : List (Int32 × Bool)).map fun (e : Int32 × Bool) => bz e.2), fl, ll, tl, tf, tg, tm, ck, fo, du)) (NW := NW) (Y := (mm_post (me g) (nI g) (nI s) (Trw 4 0 0 0 0 (Tsec (nI DL.length) (nI s) 0) tz tz tz))) (S := (Tsec (nI DL.length) (nI s) 0)) (m := DL.length) (oc := false) (mi := tz) (th := tz) (by exact MT_i hM7 rfl rfl rfl rfl rfl rfl rfl rfl rfl rfl) (by exact RS_p (DL' := (DL ++ [(nI s, 0)])) (ck' := ck) (dir' := dir) (dt' := wl dt DL.length (([(nI (6 + s), false)] : List (Int32 × Bool)).map fun _ => ck)) (db' := wl db DL.length (([(nI (6 + s), false)] : List (Int32 × Bool)).map fun (e : Int32 × Bool) => e.1)) (rt' := wl rt DL.length (([(nI (6 + s), false)] : List (Int32 × Bool)).map fun (e : Int32 × Bool) => bz e.2)) (lo' := (wl lo DL.length (([(nI (6 + s), false)] : List (Int32 × Bool)).map fun _ => -1))) hS pT (by show nI (DL.length + 1) = nI (List.length (DL ++ [(nI s, 0)])); exact congrArg nI (by simp)) h21 ⟨rfl, rfl, rfl, rfl, rfl⟩ ⟨rfl, rfl, rfl, rfl, rfl, rfl, rfl, rfl, rfl, rfl, rfl, rfl, rfl, rfl, rfl, rfl, rfl, rfl, rfl, rfl, rfl, rfl, rfl, rfl, rfl, rfl, rfl⟩ (fun i hi => tv_mono pT (hS.2.1.2.1 i hi)) (by show upd (A 10) _ (f 21) = _; rw [hS.2.2.2.2.1.1, h21]; rfl) (by show upd (A 11) _ _ = _; rw [hS.2.2.2.2.1.2.1]; rfl) (by show upd (A 12) _ _ = _; rw [hS.2.2.2.2.1.2.2]; rfl) (by show upd (A 13) _ _ = _; rw [hS.2.2.1.2]; rfl)) hs eid (by exact hND) hz0 hz1 hen hst (by show nI (NW.length + 1) = _; congr 1; simp) (by simp; omega) (by exact hN26) (fun X q => (List.mem_append.mp q).elim (hnz X) (fun q => by rw [List.mem_singleton.mp q]; exact hwz)) (by simp; omega) hls (by exact (tv_mono p7 (tv_mono p6 (tv_mono p5 (tv_mono p4 (tv_mono p3 (tv_mono p2 hr1))))))) rfl rfl (by omega) rfl (MT_z hM7) (MT_z hM7) (fun hc f9 A9 hM9 e16 hS9 => ?_) (fun hc f9 A9 hM9 e16 hS9 => ?_) (fun hc f9 A9 hM9 e16 hS9 => ?_))
  · skip
    show mg _ _ _ 552 _ [.int 0] _ _
    refine m_if1 (t := 564) (pc' := 555) cd_Mo_post rfl rfl rfl (fun c552 => ?_) (fun c552 => ?_)
    · have c552 : (0 : Int32) = 0 := c552
      refine m_k2 (v := (-4)) (pc' := 566) cd_Mo_post rfl (by decide) rfl ?_
      exact m_reti cd_Mo_post rfl ⟨_, rfl, (k0 hc _ _ _ pT (by omega) (by show rc (A7 1) _ ≤ _; omega) hM9 e16 hS9)⟩
    · exact absurd (show ¬ (0 : Int32) = 0 from c552) (by decide)
  · skip
    show mg _ _ _ 552 _ [.int 0] _ _
    refine m_if1 (t := 564) (pc' := 555) cd_Mo_post rfl rfl rfl (fun c552 => ?_) (fun c552 => ?_)
    · have c552 : (0 : Int32) = 0 := c552
      refine m_k2 (v := (-4)) (pc' := 566) cd_Mo_post rfl (by decide) rfl ?_
      exact m_reti cd_Mo_post rfl ⟨_, rfl, (k1 hc _ _ _ pT (by omega) (by show rc (A7 1) _ ≤ _; omega) hM9 e16 hS9)⟩
    · exact absurd (show ¬ (0 : Int32) = 0 from c552) (by decide)
  · skip
    have hf40 := hS9.2.1.1.1.1
    rw [List.length_append, List.length_append, List.length_map] at hf40
    show mg _ _ _ 552 _ [.int 1] _ _
    refine m_if1 (t := 564) (pc' := 555) cd_Mo_post rfl rfl rfl (fun c552 => ?_) (fun c552 => ?_)
    · exact absurd (show (1 : Int32) = 0 from c552) (by decide)
    · have c552 : ¬ (1 : Int32) = 0 := c552
      refine m_ald (pc' := 556) cd_Mo_post rfl (Or.inr ⟨_, rfl, rfl, rfl⟩) l0 rfl rfl ?_
      refine m_fI (k := 40) (x := (nI (ws.length + NW.length + 1))) (pc' := 559) cd_Mo_post rfl rfl rfl rfl rfl hf40 ?_
      refine m_k1 (v := 1) (pc' := 560) cd_Mo_post rfl (by decide) rfl ?_
      refine m_pure (pc' := 561) (st' := [.int ((nI (ws.length + NW.length + 1)) - 1)]) cd_Mo_post rfl rfl (fun _ _ => rfl) ?_
      refine m_eq (show ((nI (ws.length + NW.length + 1)) - 1 : Int32) = nI (ws.length + NW.length) from pk_sub (a := ws.length + NW.length + 1) (b := 1) (by omega)) ?_
      refine m_pure (pc' := 566) (st' := [.int (nI (ws.length + NW.length))]) cd_Mo_post rfl rfl (fun _ _ => rfl) ?_
      exact m_reti cd_Mo_post rfl ⟨_, rfl, (k2 hc _ _ _ pT (by omega) (by show rc (A7 1) _ ≤ _; omega) hM9 e16 hS9)⟩
