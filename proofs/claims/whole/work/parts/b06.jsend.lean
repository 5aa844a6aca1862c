/-! The joint contracts: list, send -/
theorem st_new {f1 : Nat → Int32} {G' Kw : Tm → Prop} {ls : List RL} {x : RL} (h : f1 16 = 0 → ∀ e, e ∈ ls → Kn G' e.1 → Kw e.1) (h2 : f1 16 = 0 → False) : f1 16 = 0 → ∀ e, e ∈ ls ++ [x] → Kn G' e.1 → Kw e.1 := fun q => absurd q h2
/-- a wire with a new SECRET was never given -/
theorem wire_new {f : Nat → Int32} {A : Nat → Nat → Int32} {T : List Tm} {DL : List (Int32 × Int32)} {G W : Tm → Prop} {X : Tm} {m : Nat} {a b : Int32} (hM : MT f A T DL G W) (h : G X) (hm : DL.length ≤ m) (e5 : kd X = 5) (eY : pt X 2 = Trw 4 0 0 0 0 (Tsec (nI m) a b) tz tz tz) (hb : m < 3000) : False := by
  have h1 := (hM.2.2.2.2.2.1 X h).1
  obtain ⟨i, hi⟩ := List.getElem?_of_mem h1
  obtain ⟨j, -, hj⟩ := MT_three hM hi e5
  rw [eY] at hj
  have h2 := MT_parts hM (List.mem_of_getElem? hj) rfl (k := 0) (by decide)
  obtain ⟨m', d, p, h3, -, h5⟩ := MT_sec hM h2 rfl
  have e := (congrArg mk h5 : nI m = nI m')
  have := hM.1.2.2.2
  have := (nI_eq (by omega) (by omega)).mp e
  omega
theorem lk_all {B : bm_H} {T : List Tm} {ws : List (Tm × Int32)} {wt : List Tm} {G : LG} {ids dir reg : Nat → Tm} {seen : List Tm} {π : Nat → Nat} {w : Nat → SW} {dev : Nat → DV} {sto : Nat → ST} (h : RH B T ws wt G ids dir reg seen π w dev sto) : ∀ (i : Nat) (e : LT), G.1[i]? = some e → ∃ u, u < T.length ∧ T[u]? = some e.1 := fun i e he => by
  obtain ⟨u, -, hu⟩ := (h.2.2.1.2.2.1 i e he).1
  exact ⟨u, tv_lt hu, hu⟩
set_option maxRecDepth 100000 in
theorem P_list {sc : tm_X} {d N S n : Nat} {B : bm_H} {DL : List (Int32 × Int32)} {dev : Nat → DV} {sto : Nat → ST} {ws : List (Tm × Int32)} {dir reg : Nat → Tm} {seen : List Tm} {G : Tm → Prop} {ls : List RL} {lo dt db rt fl ll tl tf tg tm : Nat → Int32} {ck fo du : Int32} {L : LG} {id : Tm} {K0 K1 : PK} {on : List (Tm × Int32)} {lnu : Int32} {se : Nat → List SS} {me : Nat → MM} {p0 : Bool} {P : EN2} {c : Option Nat} {q : Nat} {k : Int32} {ids : Nat → Tm} {ve ma go ge ix ga : Int32} {ch si : Tm} {sl : Bool} {gv : Nat → List GV} {Q : Int32 → Int32 → bm_H → Prop} (hJ : J N S n B DL dev sto ws dir reg seen G L ls lo (dt, db, rt, fl, ll, tl, tf, tg, tm, ck, fo, du)) (hn : n < 64) (hdl : DL.length ≤ 2900) (hws : ws.length ≤ 692) (hq : q < 4) (hk0 : ¬ k < 0) (hk6 : ¬ 64 ≤ k) (eids : ids = fun q => (dev q).1) (eD : dev q = (id, K0, K1, on, lnu, se, me)) (eM : me q = (ve, ma, go, ge, ch, si, ix, ga, sl, gv)) (hst : sto q = (p0, P, [], c, false)) (hD : DVI q n (dev q)) (kN : (hbit k (nI q) = false ∨ ¬ k &&& go = 0) → ∀ B2, J N S (n + 1) B2 DL dev sto ws dir reg seen G L ls lo (dt, db, rt, fl, ll, tl, tf, tg, tm, ck + 1, fo, du) → Q (-6) (-6) B2) (k0 : hbit k (nI q) = true → k &&& go = 0 → (st_commit p0 P c (dv_en (id, K0, K1, on, lnu, se, fset me q (mm_adopt (ve, ma, go, ge, ch, si, ix, ga, sl, gv) (ve + 1) k)))).1 = 0 → ∀ B2, J N S (n + 1) B2 DL dev (fset sto q (st_commit p0 P c (dv_en (id, K0, K1, on, lnu, se, fset me q (mm_adopt (ve, ma, go, ge, ch, si, ix, ga, sl, gv) (ve + 1) k)))).2) (ws) dir reg seen G L ls lo (dt, db, rt, fl, ll, tl, tf, tg, tm, ck + 1, fo, du) → Q (-4) (-4) B2) (k1 : hbit k (nI q) = true → k &&& go = 0 → (st_commit p0 P c (dv_en (id, K0, K1, on, lnu, se, fset me q (mm_adopt (ve, ma, go, ge, ch, si, ix, ga, sl, gv) (ve + 1) k)))).1 = 1 → ∀ B2, J N S (n + 1) B2 DL (fset dev q (id, K0, K1, on, lnu, se, fset me q (mm_adopt (ve, ma, go, ge, ch, si, ix, ga, sl, gv) (ve + 1) k))) (fset sto q (st_commit p0 P c (dv_en (id, K0, K1, on, lnu, se, fset me q (mm_adopt (ve, ma, go, ge, ch, si, ix, ga, sl, gv) (ve + 1) k)))).2) (ws) dir reg seen G L ls lo (dt, db, rt, fl, ll, tl, tf, tg, tm, ck + 1, fo, du) → Q (-4) (-4) B2) (k2 : hbit k (nI q) = true → k &&& go = 0 → (st_commit p0 P c (dv_en (id, K0, K1, on, lnu, se, fset me q (mm_adopt (ve, ma, go, ge, ch, si, ix, ga, sl, gv) (ve + 1) k)))).1 = 2 → ∀ B2, J N S (n + 1) B2 DL (fset dev q (id, K0, K1, on, lnu, se, fset me q (mm_adopt (ve, ma, go, ge, ch, si, ix, ga, sl, gv) (ve + 1) k))) (fset sto q (st_commit p0 P c (dv_en (id, K0, K1, on, lnu, se, fset me q (mm_adopt (ve, ma, go, ge, ch, si, ix, ga, sl, gv) (ve + 1) k)))).2) (ws ++ [((Tsg id (Trw 6 (nI q) (ve + 1) k 0 tz tz tz tz)), -1)]) dir reg seen (fun y => G y ∨ y = (Tsg id (Trw 6 (nI q) (ve + 1) k 0 tz tz tz tz))) L ls lo (dt, db, rt, fl, ll, tl, tf, tg, tm, ck + 1, fo, du) → Q (nI ws.length) (nI ws.length) B2) : PR sc (d + 12) 94 226 [.int (nI q), .int k] B Q := by
  obtain ⟨f, A, T, T0, K, Kw, ca, rm, kc, kl, rk, M, ln, wt, π, w, dv, idc, ⟨hC, hH0, hdv, hid⟩, ⟨hMo, hs0, hM, hS⟩, ⟨hKG, hKs, h16, hlk⟩, hTl, hPh, hrc⟩ := hJ
  have hH := RH_ids (ids' := fun q => (dev q).1) hH0 (fun q hq => (hid q hq).symm)
  have hq6 : q < 6 := by omega
  rw [← eids] at hH
  rw [eD] at hD
  have hid0 : (dev q).1 = id := by rw [eD]
  have hidg : ids q = id := by rw [eids]; exact hid0
  have hD1 := DVI_list (by omega) k hD
  rw [eM] at hD1
  have hen : (dv_en (id, K0, K1, on, lnu, se, fset me q (mm_adopt (ve, ma, go, ge, ch, si, ix, ga, sl, gv) (ve + 1) k))).length ≤ 536 := DVI_en hq6 hD1
  have hcu := cuts_set (sto := sto) (S := (st_commit p0 P c (dv_en (id, K0, K1, on, lnu, se, fset me q (mm_adopt (ve, ma, go, ge, ch, si, ix, ga, sl, gv) (ve + 1) k)))).2) hq6
  rw [cz1_commit] at hcu
  have hem := emp_set (dev := dev) (D := (id, K0, K1, on, lnu, se, fset me q (mm_adopt (ve, ma, go, ge, ch, si, ix, ga, sl, gv) (ve + 1) k))) hq6
  rw [eD] at hem
  have hem : emp (fset dev q (id, K0, K1, on, lnu, se, fset me q (mm_adopt (ve, ma, go, ge, ch, si, ix, ga, sl, gv) (ve + 1) k))) + ec q se = emp dev + ec q se := hem
  refine t_list (F := mX) hC hH (by omega) hws (by omega) hq hk0 hk6 ((hdv q hq6).trans eD) eM hst hen (fun B1 M1 ca1 rm1 hx0 hC1 hH1 hf1 => ?_) (fun B1 T1 M1 ca1 rm1 kc1 kl1 rk1 w1 pT qT hx0 hx1 hc1 hC1 hH1 hf1 => ?_) (fun B1 T1 M1 ca1 rm1 kc1 kl1 rk1 w1 pT qT hx0 hx1 hc1 hC1 hH1 hf1 => ?_) (fun B1 T1 M1 ca1 rm1 kc1 kl1 rk1 w1 pT qT hx0 hx1 hc1 hC1 hH1 hf1 => ?_)
  · obtain ⟨A1, hMo1, hs1, hM1, hS1, hr1, -⟩ := J_cls hf1 hMo hs0 hM hS
    refine m_run hMo1 hs1 (m_list2 hM1 hS1 (by omega) hws (by omega) (by omega) hq hk0 hk6 hD.1 eD eM hD.2.1.1.1 hD.2.1.2.1 hst hen (fun hy0 f2 A2 hy1 hM2 g16 hS2 => ?_) (fun hy0 hy1 hc2 f2 A2 T2 pU qU sU hM2 g16 hS2 => ?_) (fun hy0 hy1 hc2 f2 A2 T2 pU qU sU hM2 g16 hS2 => ?_) (fun hy0 hy1 hc2 f2 A2 T2 pU qU sU hM2 g16 hS2 => ?_))
    · intro B2 hF2 hs2
      have e1 : rc (A2 1) T0.length = rc (A1 1) T0.length := rc_MT hM2 hM1
      exact kN hy0 B2 (J_mk hF2 hs2 hC1 hH1 hdv (fun _ _ => by rw [eids]) hM2 hS2 hKG hKs (st_keep h16 g16) hlk (by omega) (by omega) (by omega))
    · rcases hx0 with hx0 | hx0
      · exact absurd (hx0.symm.trans hy0) (by decide)
      · exact absurd hy1 hx0
    · rcases hx0 with hx0 | hx0
      · exact absurd (hx0.symm.trans hy0) (by decide)
      · exact absurd hy1 hx0
    · rcases hx0 with hx0 | hx0
      · exact absurd (hx0.symm.trans hy0) (by decide)
      · exact absurd hy1 hx0
  · obtain ⟨A1, hMo1, hs1, hM1, hS1, hr1, -⟩ := J_cls hf1 hMo hs0 hM hS
    refine m_run hMo1 hs1 (m_list2 hM1 hS1 (by omega) hws (by omega) (by omega) hq hk0 hk6 hD.1 eD eM hD.2.1.1.1 hD.2.1.2.1 hst hen (fun hy0 f2 A2 hy1 hM2 g16 hS2 => ?_) (fun hy0 hy1 hc2 f2 A2 T2 pU qU sU hM2 g16 hS2 => ?_) (fun hy0 hy1 hc2 f2 A2 T2 pU qU sU hM2 g16 hS2 => ?_) (fun hy0 hy1 hc2 f2 A2 T2 pU qU sU hM2 g16 hS2 => ?_))
    · rcases hy0 with hy0 | hy0
      · exact absurd (hy0.symm.trans hx0) (by decide)
      · exact absurd hx1 hy0
    · intro B2 hF2 hs2
      exact k0 hy0 hy1 hc2 B2 (J_mk hF2 hs2 hC1 hH1 (f6_dev (f6_dev hdv)) (fun _ _ => by rw [eids]) hM2 hS2 hKG hKs (st_keep h16 g16) (lk_mono hlk pT (Nat.le_refl _)) (by omega) (by omega) (by omega))
    · exact absurd (hc1.symm.trans hc2) (by decide)
    · exact absurd (hc1.symm.trans hc2) (by decide)
  · obtain ⟨A1, hMo1, hs1, hM1, hS1, hr1, -⟩ := J_cls hf1 hMo hs0 hM hS
    refine m_run hMo1 hs1 (m_list2 hM1 hS1 (by omega) hws (by omega) (by omega) hq hk0 hk6 hD.1 eD eM hD.2.1.1.1 hD.2.1.2.1 hst hen (fun hy0 f2 A2 hy1 hM2 g16 hS2 => ?_) (fun hy0 hy1 hc2 f2 A2 T2 pU qU sU hM2 g16 hS2 => ?_) (fun hy0 hy1 hc2 f2 A2 T2 pU qU sU hM2 g16 hS2 => ?_) (fun hy0 hy1 hc2 f2 A2 T2 pU qU sU hM2 g16 hS2 => ?_))
    · rcases hy0 with hy0 | hy0
      · exact absurd (hy0.symm.trans hx0) (by decide)
      · exact absurd hx1 hy0
    · exact absurd (hc1.symm.trans hc2) (by decide)
    · intro B2 hF2 hs2
      exact k1 hy0 hy1 hc2 B2 (J_mk hF2 hs2 hC1 hH1 (sw6_dev hq6 (f6_dev hdv)) (by rw [eids]; exact id_set (by rw [hid0])) hM2 hS2 hKG hKs (st_keep h16 g16) (lk_mono hlk pT (Nat.le_refl _)) (by omega) (by omega) (by omega))
    · exact absurd (hc1.symm.trans hc2) (by decide)
  · obtain ⟨A1, hMo1, hs1, hM1, hS1, hr1, -⟩ := J_cls hf1 hMo hs0 hM hS
    refine m_run hMo1 hs1 (m_list2 hM1 hS1 (by omega) hws (by omega) (by omega) hq hk0 hk6 hD.1 eD eM hD.2.1.1.1 hD.2.1.2.1 hst hen (fun hy0 f2 A2 hy1 hM2 g16 hS2 => ?_) (fun hy0 hy1 hc2 f2 A2 T2 pU qU sU hM2 g16 hS2 => ?_) (fun hy0 hy1 hc2 f2 A2 T2 pU qU sU hM2 g16 hS2 => ?_) (fun hy0 hy1 hc2 f2 A2 T2 pU qU sU hM2 g16 hS2 => ?_))
    · rcases hy0 with hy0 | hy0
      · exact absurd (hy0.symm.trans hx0) (by decide)
      · exact absurd hx1 hy0
    · exact absurd (hc1.symm.trans hc2) (by decide)
    · exact absurd (hc1.symm.trans hc2) (by decide)
    · intro B2 hF2 hs2
      rw [hidg] at hC1 hH1
      exact k2 hy0 hy1 hc2 B2 (J_mk hF2 hs2 hC1 hH1 (sw6_dev hq6 (f6_dev hdv)) (by rw [eids]; exact id_set (by rw [hid0])) hM2 hS2 (KG_add hKG (fun y q => Or.inr q) (fun y q => q)) (fun y q => Kn_mono (fun z hz => Or.inl hz) (hKs y q)) (st_give h16 (g16.imp_right (fun z => ⟨z.1, fun y hy => hy.elim Kn_G (fun hy => Kn_G (hy ▸ z.2))⟩))) (lk_mono hlk pT (Nat.le_trans (CK_ln hC) (pT.length_le))) (by omega) (by omega) (by omega))
set_option maxRecDepth 100000 in
theorem P_sendA {sc : tm_X} {d N S n : Nat} {B : bm_H} {DL : List (Int32 × Int32)} {dev : Nat → DV} {sto : Nat → ST} {ws : List (Tm × Int32)} {dir reg : Nat → Tm} {seen : List Tm} {G : Tm → Prop} {ls : List RL} {lo dt db rt fl ll tl tf tg tm : Nat → Int32} {ck fo du : Int32} {Lc : List LT} {bdc llc tcc tlc tfc tgc : Nat → Int32} {cfc cgc : Int32} {ctc : Tm} {coc : Bool} {lic foc dbc : Int32} {id : Tm} {K0 K1 : PK} {on : List (Tm × Int32)} {lnu : Int32} {se : Nat → List SS} {me : Nat → MM} {p0 : Bool} {P : EN2} {c : Option Nat} {th ch ba ro mi sd bp bo : Tm} {nx nn b : Int32} {le : List (Tm × Int32 × Tm)} {br oc : Bool} {lz : List SS} {s p : Nat} {ids : Nat → Tm} {Q : Int32 → Int32 → bm_H → Prop} (hJ : J N S n B DL dev sto ws dir reg seen G (Lc, bdc, llc, tcc, tlc, tfc, tgc, cfc, cgc, ctc, coc, lic, foc, dbc) ls lo (dt, db, rt, fl, ll, tl, tf, tg, tm, ck, fo, du)) (hn : n < 64) (hdl : DL.length ≤ 2900) (hws : ws.length ≤ 692) (hs : s < 6) (hp : p < 6) (hsp : s ≠ p) (eids : ids = fun q => (dev q).1) (hll : Lc.length = ls.length) (hls : ls.length < 700) (eD : dev s = (id, K0, K1, on, lnu, se, me)) (hse : se p = ((th, ch, nx, le), ba, ro, mi, sd, nn, b, br, bp, bo, oc) :: lz) (hsd : sd ≠ tz) (hst : sto s = (p0, P, [], c, false)) (hD : DVI s n (dev s)) (k0 : (st_commit p0 P c (dv_en (id, K0, K1, on, lnu, fset se p (ss_sent ((th, ch, nx, le), ba, ro, mi, sd, nn, b, br, bp, bo, oc) :: lz), me))).1 = 0 → ∀ B2, J N S (n + 1) B2 (DL ++ [(nI s, 0)]) dev (fset sto s (st_commit p0 P c (dv_en (id, K0, K1, on, lnu, fset se p (ss_sent ((th, ch, nx, le), ba, ro, mi, sd, nn, b, br, bp, bo, oc) :: lz), me))).2) (ws) dir reg seen G (Lc, bdc, llc, tcc, tlc, tfc, tgc, cfc, cgc, ctc, coc, lic, foc, dbc) (ls) ((wl lo (List.length DL) (([(nI (6 + s), false)] : List (Int32 × Bool)).map fun _ => -1))) (wl dt (List.length DL) (([(nI (6 + s), false)] : List (Int32 × Bool)).map fun _ => (ck + 1)), wl db (List.length DL) (([(nI (6 + s), false)] : List (Int32 × Bool)).map fun (e : Int32 × Bool) => e.1), wl rt (List.length DL) (([(nI (6 + s), false)] : List (Int32 × Bool)).map fun (e : Int32 × Bool) => bz e.2), fl, ll, tl, tf, tg, tm, (ck + 1), fo, du) → Q (-4) (-4) B2) (k1 : (st_commit p0 P c (dv_en (id, K0, K1, on, lnu, fset se p (ss_sent ((th, ch, nx, le), ba, ro, mi, sd, nn, b, br, bp, bo, oc) :: lz), me))).1 = 1 → ∀ B2, J N S (n + 1) B2 (DL ++ [(nI s, 0)]) (fset dev s (id, K0, K1, on, lnu, fset se p (ss_sent ((th, ch, nx, le), ba, ro, mi, sd, nn, b, br, bp, bo, oc) :: lz), me)) (fset sto s (st_commit p0 P c (dv_en (id, K0, K1, on, lnu, fset se p (ss_sent ((th, ch, nx, le), ba, ro, mi, sd, nn, b, br, bp, bo, oc) :: lz), me))).2) (ws) dir reg seen G (Lc, bdc, llc, tcc, tlc, tfc, tgc, cfc, cgc, ctc, coc, lic, foc, dbc) (ls) ((wl lo (List.length DL) (([(nI (6 + s), false)] : List (Int32 × Bool)).map fun _ => -1))) (wl dt (List.length DL) (([(nI (6 + s), false)] : List (Int32 × Bool)).map fun _ => (ck + 1)), wl db (List.length DL) (([(nI (6 + s), false)] : List (Int32 × Bool)).map fun (e : Int32 × Bool) => e.1), wl rt (List.length DL) (([(nI (6 + s), false)] : List (Int32 × Bool)).map fun (e : Int32 × Bool) => bz e.2), fl, ll, tl, tf, tg, tm, (ck + 1), fo, du) → Q (-4) (-4) B2) (k2 : (st_commit p0 P c (dv_en (id, K0, K1, on, lnu, fset se p (ss_sent ((th, ch, nx, le), ba, ro, mi, sd, nn, b, br, bp, bo, oc) :: lz), me))).1 = 2 → ∀ B2, J N S (n + 1) B2 (DL ++ [(nI s, 0)]) (fset dev s (id, K0, K1, on, lnu, fset se p (ss_sent ((th, ch, nx, le), ba, ro, mi, sd, nn, b, br, bp, bo, oc) :: lz), me)) (fset sto s (st_commit p0 P c (dv_en (id, K0, K1, on, lnu, fset se p (ss_sent ((th, ch, nx, le), ba, ro, mi, sd, nn, b, br, bp, bo, oc) :: lz), me))).2) (ws ++ [((ss_wire ((th, ch, nx, le), ba, ro, mi, sd, nn, b, br, bp, bo, oc) (nI s) (nI p) (Trw 4 0 0 0 0 (Tsec (nI (List.length DL)) (nI s) 0) tz tz tz)), nI ls.length)]) dir reg seen (fun y => G y ∨ y = (ss_wire ((th, ch, nx, le), ba, ro, mi, sd, nn, b, br, bp, bo, oc) (nI s) (nI p) (Trw 4 0 0 0 0 (Tsec (nI (List.length DL)) (nI s) 0) tz tz tz))) (Lc ++ [lt_sent (Tsec (nI (List.length DL)) (nI s) 0) (nI s) (nI p) (ss_sent ((th, ch, nx, le), ba, ro, mi, sd, nn, b, br, bp, bo, oc))], upd bdc (List.length DL) (nI ls.length), llc, tcc, tlc, tfc, tgc, cfc, cgc, ctc, coc, lic, foc, dbc) (ls ++ [((Tsec (nI (List.length DL)) (nI s) 0), nI s, nI p, oc, mi, pt th 0, 0, 0, fun _ => 2147483647)]) (upd (wl lo (List.length DL) (([(nI (6 + s), false)] : List (Int32 × Bool)).map fun _ => -1)) (List.length DL) (nI ls.length)) (wl dt (List.length DL) (([(nI (6 + s), false)] : List (Int32 × Bool)).map fun _ => (ck + 1)), wl db (List.length DL) (([(nI (6 + s), false)] : List (Int32 × Bool)).map fun (e : Int32 × Bool) => e.1), wl rt (List.length DL) (([(nI (6 + s), false)] : List (Int32 × Bool)).map fun (e : Int32 × Bool) => bz e.2), fl, ll, tl, tf, tg, tm, (ck + 1), fo, du) → Q (nI ws.length) (nI ws.length) B2) : PR sc (d + 12) 84 223 [.int (nI s), .int (nI p)] B Q := by
  obtain ⟨f, A, T, T0, K, Kw, ca, rm, kc, kl, rk, M, ln, wt, π, w, dv, idc, ⟨hC, hH0, hdv, hid⟩, ⟨hMo, hs0, hM, hS⟩, ⟨hKG, hKs, h16, hlk⟩, hTl, hPh, hrc⟩ := hJ
  have hH := RH_ids (ids' := fun q => (dev q).1) hH0 (fun q hq => (hid q hq).symm)
  rw [← eids] at hH
  rw [eD] at hD
  have hid0 : (dev s).1 = id := by rw [eD]
  have eT : ss_turn ((th, ch, nx, le), ba, ro, mi, sd, nn, b, br, bp, bo, oc) (Tsec (nI DL.length) (nI s) 2) = ((th, ch, nx, le), ba, ro, mi, sd, nn, b, br, bp, bo, oc) := ss_turn_f hsd
  have eR : dr_turn ((th, ch, nx, le), ba, ro, mi, sd, nn, b, br, bp, bo, oc) DL.length = (List.length DL) := if_neg (fun q => hsd (tnil_iff.mp q))
  have eS : (se p).set 0 (ss_sent ((th, ch, nx, le), ba, ro, mi, sd, nn, b, br, bp, bo, oc)) = ss_sent ((th, ch, nx, le), ba, ro, mi, sd, nn, b, br, bp, bo, oc) :: lz := by rw [hse]; rfl
  have hSI : SSI ((th, ch, nx, le), ba, ro, mi, sd, nn, b, br, bp, bo, oc) := SEI_at (p := p) (k := 0) (DVI_sei hD) (by rw [hse]; rfl)
  have hsl := (DVI_sei hD).2 p
  rw [hse] at hsl
  have hD1 : DVI s n (id, K0, K1, on, lnu, fset se p (ss_sent ((th, ch, nx, le), ba, ro, mi, sd, nn, b, br, bp, bo, oc) :: lz), me) := DVI_ses hD (SEI_set (Ne.symm hsp) (DVI_sei hD) hsl.1 (fun S hS => by
    rcases List.mem_cons.mp hS with rfl | hS
    · have := SSI_sent (n := (Tsec (nI DL.length) (nI s) 2)) hSI rfl; rw [eT] at this; exact this
    · exact hsl.2 S (List.mem_cons_of_mem _ hS)))
  have hen : (dv_en (id, K0, K1, on, lnu, fset se p (ss_sent ((th, ch, nx, le), ba, ro, mi, sd, nn, b, br, bp, bo, oc) :: lz), me)).length ≤ 536 := DVI_en hs hD1
  have hcu := cuts_set (sto := sto) (S := (st_commit p0 P c (dv_en (id, K0, K1, on, lnu, fset se p (ss_sent ((th, ch, nx, le), ba, ro, mi, sd, nn, b, br, bp, bo, oc) :: lz), me))).2) hs
  rw [cz1_commit] at hcu
  have hem := emp_set (dev := dev) (D := (id, K0, K1, on, lnu, fset se p (ss_sent ((th, ch, nx, le), ba, ro, mi, sd, nn, b, br, bp, bo, oc) :: lz), me)) hs
  rw [eD] at hem
  have hem : emp (fset dev s (id, K0, K1, on, lnu, fset se p (ss_sent ((th, ch, nx, le), ba, ro, mi, sd, nn, b, br, bp, bo, oc) :: lz), me)) + ec s se = emp dev + ec s (fset se p (ss_sent ((th, ch, nx, le), ba, ro, mi, sd, nn, b, br, bp, bo, oc) :: lz)) := hem
  have hecl : ec s (fset se p (ss_sent ((th, ch, nx, le), ba, ro, mi, sd, nn, b, br, bp, bo, oc) :: lz)) ≤ ec s se := ec_cons
  have hlen : (DL ++ [(nI s, (0 : Int32))]).length = DL.length + 1 := by simp
  refine t_sendA (F := mX) hC hH (by omega) hws (by omega) hs hp hsp ((hdv s hs).trans eD) (by omega) hst hse hSI.2.2 hSI.2.1.2 (by rw [eT, eS]; exact hen) (fun B1 T1 M1 ca1 rm1 kc1 kl1 rk1 w1 pT qT hc1 hC1 hH1 hf1 => ?_) (fun B1 T1 M1 ca1 rm1 kc1 kl1 rk1 w1 pT qT hc1 hC1 hH1 hf1 => ?_) (fun B1 T1 M1 ca1 rm1 kc1 kl1 rk1 w1 pT qT hc1 hC1 hH1 hf1 => ?_)
  · obtain ⟨A1, hMo1, hs1, hM1, hS1, hr1, -⟩ := J_cls hf1 hMo hs0 hM hS
    rw [eT, eS] at hc1
    rw [eR] at hC1
    rw [eT, eR, eS] at hH1
    refine m_run hMo1 hs1 (m_sendA hM1 hS1 (by omega) hws hls (by omega) (by omega) hs hp hsp eD hD.2.1.1.1 hD.2.1.2.1 hst hse hSI.2.1.1 hsd hSI.2.2 hen (fun hc2 f2 A2 T2 pU qU sU hM2 g16 hS2 => ?_) (fun hc2 f2 A2 T2 pU qU sU hM2 g16 hS2 => ?_) (fun hc2 f2 A2 T2 pU qU sU hM2 g16 hS2 => ?_))
    · intro B2 hF2 hs2
      rw [← hlen] at hC1
      exact k0 hc2 B2 (J_mk hF2 hs2 hC1 hH1 (f6_dev (f6_dev hdv)) (fun _ _ => by rw [eids]) hM2 hS2 hKG hKs (st_keep h16 g16) (lk_mono hlk pT (Nat.le_refl _)) (by omega) (by omega) (by omega))
    · exact absurd (hc1.symm.trans hc2) (by decide)
    · exact absurd (hc1.symm.trans hc2) (by decide)
  · obtain ⟨A1, hMo1, hs1, hM1, hS1, hr1, -⟩ := J_cls hf1 hMo hs0 hM hS
    rw [eT, eS] at hc1
    rw [eR] at hC1
    rw [eT, eR, eS] at hH1
    refine m_run hMo1 hs1 (m_sendA hM1 hS1 (by omega) hws hls (by omega) (by omega) hs hp hsp eD hD.2.1.1.1 hD.2.1.2.1 hst hse hSI.2.1.1 hsd hSI.2.2 hen (fun hc2 f2 A2 T2 pU qU sU hM2 g16 hS2 => ?_) (fun hc2 f2 A2 T2 pU qU sU hM2 g16 hS2 => ?_) (fun hc2 f2 A2 T2 pU qU sU hM2 g16 hS2 => ?_))
    · exact absurd (hc1.symm.trans hc2) (by decide)
    · intro B2 hF2 hs2
      rw [← hlen] at hC1
      exact k1 hc2 B2 (J_mk hF2 hs2 hC1 hH1 (sw6_dev hs (f6_dev hdv)) (by rw [eids]; exact id_set (by rw [hid0])) hM2 hS2 hKG hKs (st_keep h16 g16) (lk_mono hlk pT (Nat.le_refl _)) (by omega) (by omega) (by omega))
    · exact absurd (hc1.symm.trans hc2) (by decide)
  · obtain ⟨A1, hMo1, hs1, hM1, hS1, hr1, -⟩ := J_cls hf1 hMo hs0 hM hS
    rw [eT, eS] at hc1
    rw [eR, eT] at hC1
    rw [eT, eR, eS] at hH1
    refine m_run hMo1 hs1 (m_sendA hM1 hS1 (by omega) hws hls (by omega) (by omega) hs hp hsp eD hD.2.1.1.1 hD.2.1.2.1 hst hse hSI.2.1.1 hsd hSI.2.2 hen (fun hc2 f2 A2 T2 pU qU sU hM2 g16 hS2 => ?_) (fun hc2 f2 A2 T2 pU qU sU hM2 g16 hS2 => ?_) (fun hc2 f2 A2 T2 pU qU sU hM2 g16 hS2 => ?_))
    · exact absurd (hc1.symm.trans hc2) (by decide)
    · exact absurd (hc1.symm.trans hc2) (by decide)
    · intro B2 hF2 hs2
      rw [← hlen] at hC1
      rw [hll] at hH1
      exact k2 hc2 B2 (J_mk hF2 hs2 hC1 hH1 (sw6_dev hs (f6_dev hdv)) (by rw [eids]; exact id_set (by rw [hid0])) hM2 hS2 (KG_add hKG (fun y q => Or.inr q) (fun y q => q)) (fun y q => Kn_mono (fun z hz => Or.inl hz) (hKs y q)) (st_new (ls := ls) (fun h => st_give h16 (g16.imp_right (fun z => ⟨z.1, fun y hy => hy.elim Kn_G (fun hy => Kn_G (hy ▸ z.2))⟩)) h) (fun h => g16.elim (fun z => absurd (h.symm.trans z) (by decide)) (fun z => wire_new hM1 z.2 (by simp) rfl rfl (by omega)))) (lk_all hH1) (by omega) (by omega) (by omega))
set_option maxRecDepth 100000 in
theorem P_sendT {sc : tm_X} {d N S n : Nat} {B : bm_H} {DL : List (Int32 × Int32)} {dev : Nat → DV} {sto : Nat → ST} {ws : List (Tm × Int32)} {dir reg : Nat → Tm} {seen : List Tm} {G : Tm → Prop} {ls : List RL} {lo dt db rt fl ll tl tf tg tm : Nat → Int32} {ck fo du : Int32} {Lc : List LT} {bdc llc tcc tlc tfc tgc : Nat → Int32} {cfc cgc : Int32} {ctc : Tm} {coc : Bool} {lic foc dbc : Int32} {id : Tm} {K0 K1 : PK} {on : List (Tm × Int32)} {lnu : Int32} {se : Nat → List SS} {me : Nat → MM} {p0 : Bool} {P : EN2} {c : Option Nat} {th ch ba ro mi sd bp bo : Tm} {nx nn b : Int32} {le : List (Tm × Int32 × Tm)} {br oc : Bool} {lz : List SS} {s p : Nat} {ids : Nat → Tm} {Q : Int32 → Int32 → bm_H → Prop} (hJ : J N S n B DL dev sto ws dir reg seen G (Lc, bdc, llc, tcc, tlc, tfc, tgc, cfc, cgc, ctc, coc, lic, foc, dbc) ls lo (dt, db, rt, fl, ll, tl, tf, tg, tm, ck, fo, du)) (hn : n < 64) (hdl : DL.length ≤ 2900) (hws : ws.length ≤ 692) (hs : s < 6) (hp : p < 6) (hsp : s ≠ p) (eids : ids = fun q => (dev q).1) (hll : Lc.length = ls.length) (hls : ls.length < 700) (eD : dev s = (id, K0, K1, on, lnu, se, me)) (hse : se p = ((th, ch, nx, le), ba, ro, mi, sd, nn, b, br, bp, bo, oc) :: lz) (hsd : sd = tz) (hst : sto s = (p0, P, [], c, false)) (hD : DVI s n (dev s)) (k0 : (st_commit p0 P c (dv_en (id, K0, K1, on, lnu, fset se p (ss_sent ((th, ch, nx, le), ba, Tmx 4 ro (Tsh (Tsec (nI DL.length) (nI s) 2) (pt th 0)), (Tsec (nI DL.length) (nI s) 2), Tmx 5 ro (Tsh (Tsec (nI DL.length) (nI s) 2) (pt th 0)), 0, nn, br, bp, bo, oc) :: lz), me))).1 = 0 → ∀ B2, J N S (n + 1) B2 ((DL ++ [(nI s, 2)]) ++ [(nI s, 0)]) dev (fset sto s (st_commit p0 P c (dv_en (id, K0, K1, on, lnu, fset se p (ss_sent ((th, ch, nx, le), ba, Tmx 4 ro (Tsh (Tsec (nI DL.length) (nI s) 2) (pt th 0)), (Tsec (nI DL.length) (nI s) 2), Tmx 5 ro (Tsh (Tsec (nI DL.length) (nI s) 2) (pt th 0)), 0, nn, br, bp, bo, oc) :: lz), me))).2) (ws) dir reg seen G (Lc, bdc, llc, tcc, tlc, tfc, tgc, cfc, cgc, ctc, coc, lic, foc, dbc) (ls) ((wl (wl lo DL.length [-1]) (List.length (DL ++ [(nI s, 2)])) (([(nI (6 + s), false)] : List (Int32 × Bool)).map fun _ => -1))) (wl (wl dt DL.length [ck + 1]) (List.length (DL ++ [(nI s, 2)])) (([(nI (6 + s), false)] : List (Int32 × Bool)).map fun _ => (ck + 1)), wl (wl db DL.length [nI s]) (List.length (DL ++ [(nI s, 2)])) (([(nI (6 + s), false)] : List (Int32 × Bool)).map fun (e : Int32 × Bool) => e.1), wl (wl rt DL.length [1]) (List.length (DL ++ [(nI s, 2)])) (([(nI (6 + s), false)] : List (Int32 × Bool)).map fun (e : Int32 × Bool) => bz e.2), fl, ll, tl, tf, tg, tm, (ck + 1), fo, du) → Q (-4) (-4) B2) (k1 : (st_commit p0 P c (dv_en (id, K0, K1, on, lnu, fset se p (ss_sent ((th, ch, nx, le), ba, Tmx 4 ro (Tsh (Tsec (nI DL.length) (nI s) 2) (pt th 0)), (Tsec (nI DL.length) (nI s) 2), Tmx 5 ro (Tsh (Tsec (nI DL.length) (nI s) 2) (pt th 0)), 0, nn, br, bp, bo, oc) :: lz), me))).1 = 1 → ∀ B2, J N S (n + 1) B2 ((DL ++ [(nI s, 2)]) ++ [(nI s, 0)]) (fset dev s (id, K0, K1, on, lnu, fset se p (ss_sent ((th, ch, nx, le), ba, Tmx 4 ro (Tsh (Tsec (nI DL.length) (nI s) 2) (pt th 0)), (Tsec (nI DL.length) (nI s) 2), Tmx 5 ro (Tsh (Tsec (nI DL.length) (nI s) 2) (pt th 0)), 0, nn, br, bp, bo, oc) :: lz), me)) (fset sto s (st_commit p0 P c (dv_en (id, K0, K1, on, lnu, fset se p (ss_sent ((th, ch, nx, le), ba, Tmx 4 ro (Tsh (Tsec (nI DL.length) (nI s) 2) (pt th 0)), (Tsec (nI DL.length) (nI s) 2), Tmx 5 ro (Tsh (Tsec (nI DL.length) (nI s) 2) (pt th 0)), 0, nn, br, bp, bo, oc) :: lz), me))).2) (ws) dir reg seen G (Lc, bdc, llc, tcc, tlc, tfc, tgc, cfc, cgc, ctc, coc, lic, foc, dbc) (ls) ((wl (wl lo DL.length [-1]) (List.length (DL ++ [(nI s, 2)])) (([(nI (6 + s), false)] : List (Int32 × Bool)).map fun _ => -1))) (wl (wl dt DL.length [ck + 1]) (List.length (DL ++ [(nI s, 2)])) (([(nI (6 + s), false)] : List (Int32 × Bool)).map fun _ => (ck + 1)), wl (wl db DL.length [nI s]) (List.length (DL ++ [(nI s, 2)])) (([(nI (6 + s), false)] : List (Int32 × Bool)).map fun (e : Int32 × Bool) => e.1), wl (wl rt DL.length [1]) (List.length (DL ++ [(nI s, 2)])) (([(nI (6 + s), false)] : List (Int32 × Bool)).map fun (e : Int32 × Bool) => bz e.2), fl, ll, tl, tf, tg, tm, (ck + 1), fo, du) → Q (-4) (-4) B2) (k2 : (st_commit p0 P c (dv_en (id, K0, K1, on, lnu, fset se p (ss_sent ((th, ch, nx, le), ba, Tmx 4 ro (Tsh (Tsec (nI DL.length) (nI s) 2) (pt th 0)), (Tsec (nI DL.length) (nI s) 2), Tmx 5 ro (Tsh (Tsec (nI DL.length) (nI s) 2) (pt th 0)), 0, nn, br, bp, bo, oc) :: lz), me))).1 = 2 → ∀ B2, J N S (n + 1) B2 ((DL ++ [(nI s, 2)]) ++ [(nI s, 0)]) (fset dev s (id, K0, K1, on, lnu, fset se p (ss_sent ((th, ch, nx, le), ba, Tmx 4 ro (Tsh (Tsec (nI DL.length) (nI s) 2) (pt th 0)), (Tsec (nI DL.length) (nI s) 2), Tmx 5 ro (Tsh (Tsec (nI DL.length) (nI s) 2) (pt th 0)), 0, nn, br, bp, bo, oc) :: lz), me)) (fset sto s (st_commit p0 P c (dv_en (id, K0, K1, on, lnu, fset se p (ss_sent ((th, ch, nx, le), ba, Tmx 4 ro (Tsh (Tsec (nI DL.length) (nI s) 2) (pt th 0)), (Tsec (nI DL.length) (nI s) 2), Tmx 5 ro (Tsh (Tsec (nI DL.length) (nI s) 2) (pt th 0)), 0, nn, br, bp, bo, oc) :: lz), me))).2) (ws ++ [((ss_wire ((th, ch, nx, le), ba, Tmx 4 ro (Tsh (Tsec (nI DL.length) (nI s) 2) (pt th 0)), (Tsec (nI DL.length) (nI s) 2), Tmx 5 ro (Tsh (Tsec (nI DL.length) (nI s) 2) (pt th 0)), 0, nn, br, bp, bo, oc) (nI s) (nI p) (Trw 4 0 0 0 0 (Tsec (nI (List.length (DL ++ [(nI s, 2)]))) (nI s) 0) tz tz tz)), nI ls.length)]) dir reg seen (fun y => G y ∨ y = (ss_wire ((th, ch, nx, le), ba, Tmx 4 ro (Tsh (Tsec (nI DL.length) (nI s) 2) (pt th 0)), (Tsec (nI DL.length) (nI s) 2), Tmx 5 ro (Tsh (Tsec (nI DL.length) (nI s) 2) (pt th 0)), 0, nn, br, bp, bo, oc) (nI s) (nI p) (Trw 4 0 0 0 0 (Tsec (nI (List.length (DL ++ [(nI s, 2)]))) (nI s) 0) tz tz tz))) (Lc ++ [lt_sent (Tsec (nI (List.length (DL ++ [(nI s, (2 : Int32))]))) (nI s) 0) (nI s) (nI p) (ss_sent ((th, ch, nx, le), ba, Tmx 4 ro (Tsh (Tsec (nI DL.length) (nI s) 2) (pt th 0)), (Tsec (nI DL.length) (nI s) 2), Tmx 5 ro (Tsh (Tsec (nI DL.length) (nI s) 2) (pt th 0)), 0, nn, br, bp, bo, oc))], upd bdc (List.length (DL ++ [(nI s, (2 : Int32))])) (nI ls.length), llc, tcc, tlc, tfc, tgc, cfc, cgc, ctc, coc, lic, foc, dbc) (ls ++ [((Tsec (nI (List.length (DL ++ [(nI s, 2)]))) (nI s) 0), nI s, nI p, oc, (Tsec (nI DL.length) (nI s) 2), pt th 0, 0, 0, fun _ => 2147483647)]) (upd (wl (wl lo DL.length [-1]) (List.length (DL ++ [(nI s, 2)])) (([(nI (6 + s), false)] : List (Int32 × Bool)).map fun _ => -1)) (List.length (DL ++ [(nI s, 2)])) (nI ls.length)) (wl (wl dt DL.length [ck + 1]) (List.length (DL ++ [(nI s, 2)])) (([(nI (6 + s), false)] : List (Int32 × Bool)).map fun _ => (ck + 1)), wl (wl db DL.length [nI s]) (List.length (DL ++ [(nI s, 2)])) (([(nI (6 + s), false)] : List (Int32 × Bool)).map fun (e : Int32 × Bool) => e.1), wl (wl rt DL.length [1]) (List.length (DL ++ [(nI s, 2)])) (([(nI (6 + s), false)] : List (Int32 × Bool)).map fun (e : Int32 × Bool) => bz e.2), fl, ll, tl, tf, tg, tm, (ck + 1), fo, du) → Q (nI ws.length) (nI ws.length) B2) : PR sc (d + 12) 84 223 [.int (nI s), .int (nI p)] B Q := by
  obtain ⟨f, A, T, T0, K, Kw, ca, rm, kc, kl, rk, M, ln, wt, π, w, dv, idc, ⟨hC, hH0, hdv, hid⟩, ⟨hMo, hs0, hM, hS⟩, ⟨hKG, hKs, h16, hlk⟩, hTl, hPh, hrc⟩ := hJ
  have hH := RH_ids (ids' := fun q => (dev q).1) hH0 (fun q hq => (hid q hq).symm)
  rw [← eids] at hH
  rw [eD] at hD
  have hid0 : (dev s).1 = id := by rw [eD]
  have eT : ss_turn ((th, ch, nx, le), ba, ro, mi, sd, nn, b, br, bp, bo, oc) (Tsec (nI DL.length) (nI s) 2) = ((th, ch, nx, le), ba, Tmx 4 ro (Tsh (Tsec (nI DL.length) (nI s) 2) (pt th 0)), (Tsec (nI DL.length) (nI s) 2), Tmx 5 ro (Tsh (Tsec (nI DL.length) (nI s) 2) (pt th 0)), 0, nn, br, bp, bo, oc) := ss_turn_t hsd
  have eR : dr_turn ((th, ch, nx, le), ba, ro, mi, sd, nn, b, br, bp, bo, oc) DL.length = (List.length (DL ++ [(nI s, (2 : Int32))])) := (if_pos (tnil_iff.mpr hsd)).trans (by simp)
  have eS : (se p).set 0 (ss_sent ((th, ch, nx, le), ba, Tmx 4 ro (Tsh (Tsec (nI DL.length) (nI s) 2) (pt th 0)), (Tsec (nI DL.length) (nI s) 2), Tmx 5 ro (Tsh (Tsec (nI DL.length) (nI s) 2) (pt th 0)), 0, nn, br, bp, bo, oc)) = ss_sent ((th, ch, nx, le), ba, Tmx 4 ro (Tsh (Tsec (nI DL.length) (nI s) 2) (pt th 0)), (Tsec (nI DL.length) (nI s) 2), Tmx 5 ro (Tsh (Tsec (nI DL.length) (nI s) 2) (pt th 0)), 0, nn, br, bp, bo, oc) :: lz := by rw [hse]; rfl
  have hSI : SSI ((th, ch, nx, le), ba, ro, mi, sd, nn, b, br, bp, bo, oc) := SEI_at (p := p) (k := 0) (DVI_sei hD) (by rw [hse]; rfl)
  have hsl := (DVI_sei hD).2 p
  rw [hse] at hsl
  have hD1 : DVI s n (id, K0, K1, on, lnu, fset se p (ss_sent ((th, ch, nx, le), ba, Tmx 4 ro (Tsh (Tsec (nI DL.length) (nI s) 2) (pt th 0)), (Tsec (nI DL.length) (nI s) 2), Tmx 5 ro (Tsh (Tsec (nI DL.length) (nI s) 2) (pt th 0)), 0, nn, br, bp, bo, oc) :: lz), me) := DVI_ses hD (SEI_set (Ne.symm hsp) (DVI_sei hD) hsl.1 (fun S hS => by
    rcases List.mem_cons.mp hS with rfl | hS
    · have := SSI_sent (n := (Tsec (nI DL.length) (nI s) 2)) hSI rfl; rw [eT] at this; exact this
    · exact hsl.2 S (List.mem_cons_of_mem _ hS)))
  have hen : (dv_en (id, K0, K1, on, lnu, fset se p (ss_sent ((th, ch, nx, le), ba, Tmx 4 ro (Tsh (Tsec (nI DL.length) (nI s) 2) (pt th 0)), (Tsec (nI DL.length) (nI s) 2), Tmx 5 ro (Tsh (Tsec (nI DL.length) (nI s) 2) (pt th 0)), 0, nn, br, bp, bo, oc) :: lz), me)).length ≤ 536 := DVI_en hs hD1
  have hcu := cuts_set (sto := sto) (S := (st_commit p0 P c (dv_en (id, K0, K1, on, lnu, fset se p (ss_sent ((th, ch, nx, le), ba, Tmx 4 ro (Tsh (Tsec (nI DL.length) (nI s) 2) (pt th 0)), (Tsec (nI DL.length) (nI s) 2), Tmx 5 ro (Tsh (Tsec (nI DL.length) (nI s) 2) (pt th 0)), 0, nn, br, bp, bo, oc) :: lz), me))).2) hs
  rw [cz1_commit] at hcu
  have hem := emp_set (dev := dev) (D := (id, K0, K1, on, lnu, fset se p (ss_sent ((th, ch, nx, le), ba, Tmx 4 ro (Tsh (Tsec (nI DL.length) (nI s) 2) (pt th 0)), (Tsec (nI DL.length) (nI s) 2), Tmx 5 ro (Tsh (Tsec (nI DL.length) (nI s) 2) (pt th 0)), 0, nn, br, bp, bo, oc) :: lz), me)) hs
  rw [eD] at hem
  have hem : emp (fset dev s (id, K0, K1, on, lnu, fset se p (ss_sent ((th, ch, nx, le), ba, Tmx 4 ro (Tsh (Tsec (nI DL.length) (nI s) 2) (pt th 0)), (Tsec (nI DL.length) (nI s) 2), Tmx 5 ro (Tsh (Tsec (nI DL.length) (nI s) 2) (pt th 0)), 0, nn, br, bp, bo, oc) :: lz), me)) + ec s se = emp dev + ec s (fset se p (ss_sent ((th, ch, nx, le), ba, Tmx 4 ro (Tsh (Tsec (nI DL.length) (nI s) 2) (pt th 0)), (Tsec (nI DL.length) (nI s) 2), Tmx 5 ro (Tsh (Tsec (nI DL.length) (nI s) 2) (pt th 0)), 0, nn, br, bp, bo, oc) :: lz)) := hem
  have hecl : ec s (fset se p (ss_sent ((th, ch, nx, le), ba, Tmx 4 ro (Tsh (Tsec (nI DL.length) (nI s) 2) (pt th 0)), (Tsec (nI DL.length) (nI s) 2), Tmx 5 ro (Tsh (Tsec (nI DL.length) (nI s) 2) (pt th 0)), 0, nn, br, bp, bo, oc) :: lz)) ≤ ec s se := ec_cons
  have hlen : ((DL ++ [(nI s, (2 : Int32))]) ++ [(nI s, (0 : Int32))]).length = (DL ++ [(nI s, (2 : Int32))]).length + 1 := by simp
  refine t_sendA (F := mX) hC hH (by omega) hws (by omega) hs hp hsp ((hdv s hs).trans eD) (by omega) hst hse hSI.2.2 hSI.2.1.2 (by rw [eT, eS]; exact hen) (fun B1 T1 M1 ca1 rm1 kc1 kl1 rk1 w1 pT qT hc1 hC1 hH1 hf1 => ?_) (fun B1 T1 M1 ca1 rm1 kc1 kl1 rk1 w1 pT qT hc1 hC1 hH1 hf1 => ?_) (fun B1 T1 M1 ca1 rm1 kc1 kl1 rk1 w1 pT qT hc1 hC1 hH1 hf1 => ?_)
  · obtain ⟨A1, hMo1, hs1, hM1, hS1, hr1, -⟩ := J_cls hf1 hMo hs0 hM hS
    rw [eT, eS] at hc1
    rw [eR] at hC1
    rw [eT, eR, eS] at hH1
    refine m_run hMo1 hs1 (m_sendT hM1 hS1 (by omega) hws hls (by omega) (by omega) hs hp hsp eD hD.2.1.1.1 hD.2.1.2.1 hst hse hSI.2.1.1 hsd hen (fun hc2 f2 A2 T2 pU qU sU hM2 g16 hS2 => ?_) (fun hc2 f2 A2 T2 pU qU sU hM2 g16 hS2 => ?_) (fun hc2 f2 A2 T2 pU qU sU hM2 g16 hS2 => ?_))
    · intro B2 hF2 hs2
      rw [← hlen] at hC1
      exact k0 hc2 B2 (J_mk hF2 hs2 hC1 hH1 (f6_dev (f6_dev hdv)) (fun _ _ => by rw [eids]) hM2 hS2 hKG hKs (st_keep h16 g16) (lk_mono hlk pT (Nat.le_refl _)) (by omega) (by omega) (by omega))
    · exact absurd (hc1.symm.trans hc2) (by decide)
    · exact absurd (hc1.symm.trans hc2) (by decide)
  · obtain ⟨A1, hMo1, hs1, hM1, hS1, hr1, -⟩ := J_cls hf1 hMo hs0 hM hS
    rw [eT, eS] at hc1
    rw [eR] at hC1
    rw [eT, eR, eS] at hH1
    refine m_run hMo1 hs1 (m_sendT hM1 hS1 (by omega) hws hls (by omega) (by omega) hs hp hsp eD hD.2.1.1.1 hD.2.1.2.1 hst hse hSI.2.1.1 hsd hen (fun hc2 f2 A2 T2 pU qU sU hM2 g16 hS2 => ?_) (fun hc2 f2 A2 T2 pU qU sU hM2 g16 hS2 => ?_) (fun hc2 f2 A2 T2 pU qU sU hM2 g16 hS2 => ?_))
    · exact absurd (hc1.symm.trans hc2) (by decide)
    · intro B2 hF2 hs2
      rw [← hlen] at hC1
      exact k1 hc2 B2 (J_mk hF2 hs2 hC1 hH1 (sw6_dev hs (f6_dev hdv)) (by rw [eids]; exact id_set (by rw [hid0])) hM2 hS2 hKG hKs (st_keep h16 g16) (lk_mono hlk pT (Nat.le_refl _)) (by omega) (by omega) (by omega))
    · exact absurd (hc1.symm.trans hc2) (by decide)
  · obtain ⟨A1, hMo1, hs1, hM1, hS1, hr1, -⟩ := J_cls hf1 hMo hs0 hM hS
    rw [eT, eS] at hc1
    rw [eR, eT] at hC1
    rw [eT, eR, eS] at hH1
    refine m_run hMo1 hs1 (m_sendT hM1 hS1 (by omega) hws hls (by omega) (by omega) hs hp hsp eD hD.2.1.1.1 hD.2.1.2.1 hst hse hSI.2.1.1 hsd hen (fun hc2 f2 A2 T2 pU qU sU hM2 g16 hS2 => ?_) (fun hc2 f2 A2 T2 pU qU sU hM2 g16 hS2 => ?_) (fun hc2 f2 A2 T2 pU qU sU hM2 g16 hS2 => ?_))
    · exact absurd (hc1.symm.trans hc2) (by decide)
    · exact absurd (hc1.symm.trans hc2) (by decide)
    · intro B2 hF2 hs2
      rw [← hlen] at hC1
      rw [hll] at hH1
      exact k2 hc2 B2 (J_mk hF2 hs2 hC1 hH1 (sw6_dev hs (f6_dev hdv)) (by rw [eids]; exact id_set (by rw [hid0])) hM2 hS2 (KG_add hKG (fun y q => Or.inr q) (fun y q => q)) (fun y q => Kn_mono (fun z hz => Or.inl hz) (hKs y q)) (st_new (ls := ls) (fun h => st_give h16 (g16.imp_right (fun z => ⟨z.1, fun y hy => hy.elim Kn_G (fun hy => Kn_G (hy ▸ z.2))⟩)) h) (fun h => g16.elim (fun z => absurd (h.symm.trans z) (by decide)) (fun z => wire_new hM1 z.2 (by simp) rfl rfl (by simp only [List.length_append, List.length_cons, List.length_nil]; omega)))) (lk_all hH1) (by omega) (by omega) (by omega))
