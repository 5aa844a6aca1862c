/-! The reference: send -/
set_option maxRecDepth 100000 in
theorem m_sendA {sc : tm_X} {d : Nat} {f : Nat → Int32} {A : Nat → Nat → Int32} {T : List Tm} {DL : List (Int32 × Int32)} {G Kw : Tm → Prop} {dev : Nat → DV} {sto : Nat → ST} {ws : List (Tm × Int32)} {dir reg : Nat → Tm} {seen : List Tm} {ls : List RL} {lo dt db rt fl ll tl tf tg tm : Nat → Int32} {ck fo du : Int32} {id : Tm} {K0 K1 : PK} {on : List (Tm × Int32)} {lnu : Int32} {se : Nat → List SS} {me : Nat → MM} {p0 : Bool} {P O : EN2} {c : Option Nat} {s p : Nat} {th ch ba ro mi sd bp bo : Tm} {nx n b : Int32} {le : List (Tm × Int32 × Tm)} {br oc : Bool} {lz : List SS} {Q : Int32 → MS → Prop} (hM : MT f A T DL G Kw) (hS : RS f A T DL dev sto ws dir reg seen ls lo (dt, db, rt, fl, ll, tl, tf, tg, tm, ck, fo, du)) (hdl : DL.length ≤ 2960) (hws : ws.length ≤ 692) (hls : ls.length < 700) (hTl : T.length + 12 ≤ 4000) (hr : rc (A 1) T.length + 2 < 1000) (hs : s < 6) (hp : p < 6) (hsp : s ≠ p) (eD : dev s = (id, K0, K1, on, lnu, se, me)) (hz0 : K0.1 = tz ↔ K0.2.1 = 0) (hz1 : K1.1 = tz ↔ K1.2.1 = 0) (hst : sto s = (p0, P, O, c, false)) (hse : se p = ((th, ch, nx, le), ba, ro, mi, sd, n, b, br, bp, bo, oc) :: lz) (kth : kd th = 2) (hsd : sd ≠ tz) (kmi : kd mi = 1) (hen : (dv_en (id, K0, K1, on, lnu, fset se p (ss_sent ((th, ch, nx, le), ba, ro, mi, sd, n, b, br, bp, bo, oc) :: lz), me)).length ≤ 536) (k0 : (st_commit p0 P c (dv_en (id, K0, K1, on, lnu, fset se p (ss_sent ((th, ch, nx, le), ba, ro, mi, sd, n, b, br, bp, bo, oc) :: lz), me))).1 = 0 → ∀ f1 A1 T', T <+: T' → T'.length ≤ T.length + 8 → rc (A1 1) T'.length ≤ rc (A 1) T.length + 2 → MT f1 A1 T' (DL ++ [(nI s, 0)]) G Kw → (f1 16 = 1 ∨ f1 16 = f 16) → RS f1 A1 T' (DL ++ [(nI s, 0)]) dev (fset sto s (st_commit p0 P c (dv_en (id, K0, K1, on, lnu, fset se p (ss_sent ((th, ch, nx, le), ba, ro, mi, sd, n, b, br, bp, bo, oc) :: lz), me))).2) (ws) dir reg seen (ls) ((wl lo (List.length DL) (([(nI (6 + s), false)] : List (Int32 × Bool)).map fun _ => -1))) (wl dt (List.length DL) (([(nI (6 + s), false)] : List (Int32 × Bool)).map fun _ => (ck + 1)), wl db (List.length DL) (([(nI (6 + s), false)] : List (Int32 × Bool)).map fun (e : Int32 × Bool) => e.1), wl rt (List.length DL) (([(nI (6 + s), false)] : List (Int32 × Bool)).map fun (e : Int32 × Bool) => bz e.2), fl, ll, tl, tf, tg, tm, (ck + 1), fo, du) → Q (-4) (f1, A1)) (k1 : (st_commit p0 P c (dv_en (id, K0, K1, on, lnu, fset se p (ss_sent ((th, ch, nx, le), ba, ro, mi, sd, n, b, br, bp, bo, oc) :: lz), me))).1 = 1 → ∀ f1 A1 T', T <+: T' → T'.length ≤ T.length + 8 → rc (A1 1) T'.length ≤ rc (A 1) T.length + 2 → MT f1 A1 T' (DL ++ [(nI s, 0)]) G Kw → (f1 16 = 1 ∨ f1 16 = f 16) → RS f1 A1 T' (DL ++ [(nI s, 0)]) (fset dev s (id, K0, K1, on, lnu, fset se p (ss_sent ((th, ch, nx, le), ba, ro, mi, sd, n, b, br, bp, bo, oc) :: lz), me)) (fset sto s (st_commit p0 P c (dv_en (id, K0, K1, on, lnu, fset se p (ss_sent ((th, ch, nx, le), ba, ro, mi, sd, n, b, br, bp, bo, oc) :: lz), me))).2) (ws) dir reg seen (ls) ((wl lo (List.length DL) (([(nI (6 + s), false)] : List (Int32 × Bool)).map fun _ => -1))) (wl dt (List.length DL) (([(nI (6 + s), false)] : List (Int32 × Bool)).map fun _ => (ck + 1)), wl db (List.length DL) (([(nI (6 + s), false)] : List (Int32 × Bool)).map fun (e : Int32 × Bool) => e.1), wl rt (List.length DL) (([(nI (6 + s), false)] : List (Int32 × Bool)).map fun (e : Int32 × Bool) => bz e.2), fl, ll, tl, tf, tg, tm, (ck + 1), fo, du) → Q (-4) (f1, A1)) (k2 : (st_commit p0 P c (dv_en (id, K0, K1, on, lnu, fset se p (ss_sent ((th, ch, nx, le), ba, ro, mi, sd, n, b, br, bp, bo, oc) :: lz), me))).1 = 2 → ∀ f1 A1 T', T <+: T' → T'.length ≤ T.length + 8 → rc (A1 1) T'.length ≤ rc (A 1) T.length + 2 → MT f1 A1 T' (DL ++ [(nI s, 0)]) (fun y => G y ∨ y = (ss_wire ((th, ch, nx, le), ba, ro, mi, sd, n, b, br, bp, bo, oc) (nI s) (nI p) (Trw 4 0 0 0 0 (Tsec (nI (List.length DL)) (nI s) 0) tz tz tz))) Kw → (f1 16 = 1 ∨ (f1 16 = f 16 ∧ G (ss_wire ((th, ch, nx, le), ba, ro, mi, sd, n, b, br, bp, bo, oc) (nI s) (nI p) (Trw 4 0 0 0 0 (Tsec (nI (List.length DL)) (nI s) 0) tz tz tz)))) → RS f1 A1 T' (DL ++ [(nI s, 0)]) (fset dev s (id, K0, K1, on, lnu, fset se p (ss_sent ((th, ch, nx, le), ba, ro, mi, sd, n, b, br, bp, bo, oc) :: lz), me)) (fset sto s (st_commit p0 P c (dv_en (id, K0, K1, on, lnu, fset se p (ss_sent ((th, ch, nx, le), ba, ro, mi, sd, n, b, br, bp, bo, oc) :: lz), me))).2) (ws ++ [((ss_wire ((th, ch, nx, le), ba, ro, mi, sd, n, b, br, bp, bo, oc) (nI s) (nI p) (Trw 4 0 0 0 0 (Tsec (nI (List.length DL)) (nI s) 0) tz tz tz)), nI ls.length)]) dir reg seen (ls ++ [((Tsec (nI (List.length DL)) (nI s) 0), nI s, nI p, oc, mi, pt th 0, 0, 0, fun _ => 2147483647)]) (upd (wl lo (List.length DL) (([(nI (6 + s), false)] : List (Int32 × Bool)).map fun _ => -1)) (List.length DL) (nI ls.length)) (wl dt (List.length DL) (([(nI (6 + s), false)] : List (Int32 × Bool)).map fun _ => (ck + 1)), wl db (List.length DL) (([(nI (6 + s), false)] : List (Int32 × Bool)).map fun (e : Int32 × Bool) => e.1), wl rt (List.length DL) (([(nI (6 + s), false)] : List (Int32 × Bool)).map fun (e : Int32 × Bool) => bz e.2), fl, ll, tl, tf, tg, tm, (ck + 1), fo, du) → Q (nI ws.length) (f1, A1)) : mGi sc (d + 6) 223 [.ref 1482, .int (nI s), .int (nI p)] (f, A) Q := by
  have hq0 := hS.1.2.2 s hs
  rw [hst] at hq0
  have h40 := hS.2.1.1.1.1
  have h11 : f 11 = nI DL.length := hS.2.2.2.1.1
  have h21 : f 21 = ck := hS.2.2.2.1.2.1
  have hdv := hS.1.2.1 s hs
  rw [eD] at hdv
  have eI : (dev s).1 = id := by rw [eD]
  show mg sc (d + 6) 223 0 [(0, .ref 1482), (1, .int (nI s)), (2, .int (nI p))] [] (f, A) _
  generalize elv : ([(0, .ref 1482), (1, .int (nI s)), (2, .int (nI p))] : tm_L) = lv
  have l0 : lv.lookup 0 = some (.ref 1482) := by rw [← elv]; rfl
  have l1 : lv.lookup 1 = some (.int (nI s)) := by rw [← elv]; rfl
  have l2 : lv.lookup 2 = some (.int (nI p)) := by rw [← elv]; rfl
  clear elv
  refine m_ald (pc' := 1) cd_Mo_send rfl (Or.inr ⟨_, rfl, rfl, rfl⟩) l0 rfl rfl ?_
  refine m_ild (pc' := 2) cd_Mo_send rfl (Or.inr ⟨_, rfl, rfl, rfl⟩) l1 rfl ?_
  refine m_si (pc' := 5) cd_Mo_send rfl rfl rfl rfl rfl cd_Mo_isDevice rfl (Nat.le_of_ble_eq_true rfl) (m_isDev1 hs ?_)
  show mg _ _ _ 5 _ [.int 1, .ref 1482] _ _
  refine m_if1 (t := 24) (pc' := 8) cd_Mo_send rfl rfl rfl (fun c5 => ?_) (fun c5 => ?_)
  · exact absurd (show (1 : Int32) = 0 from c5) (by decide)
  · have c5 : ¬ (1 : Int32) = 0 := c5
    refine m_ild (pc' := 9) cd_Mo_send rfl (Or.inr ⟨_, rfl, rfl, rfl⟩) l2 rfl ?_
    refine m_si (pc' := 12) cd_Mo_send rfl rfl rfl rfl rfl cd_Mo_isDevice rfl (Nat.le_of_ble_eq_true rfl) (m_isDev1 hp ?_)
    show mg _ _ _ 12 _ [.int 1, .ref 1482] _ _
    refine m_if1 (t := 24) (pc' := 15) cd_Mo_send rfl rfl rfl (fun c12 => ?_) (fun c12 => ?_)
    · exact absurd (show (1 : Int32) = 0 from c12) (by decide)
    · have c12 : ¬ (1 : Int32) = 0 := c12
      refine m_ild (pc' := 16) cd_Mo_send rfl (Or.inr ⟨_, rfl, rfl, rfl⟩) l1 rfl ?_
      refine m_ild (pc' := 17) cd_Mo_send rfl (Or.inr ⟨_, rfl, rfl, rfl⟩) l2 rfl ?_
      refine m_if2 (t := 24) (pc' := 20) cd_Mo_send rfl rfl rfl (fun c17 => ?_) (fun c17 => ?_)
      · have c17 : (nI s) = (nI p) := c17
        exact absurd (nI_cxl (by omega) (by omega) c17) hsp
      · have c17 : ¬ (nI s) = (nI p) := c17
        refine m_k1 (v := 1) (pc' := 21) cd_Mo_send rfl (by decide) rfl ?_
        refine m_pure (pc' := 25) (st' := [.int 1, .ref 1482]) cd_Mo_send rfl rfl (fun _ _ => rfl) ?_
        refine m_k1 (v := 1) (pc' := 26) cd_Mo_send rfl (by decide) rfl ?_
        refine m_ild (pc' := 27) cd_Mo_send rfl (Or.inr ⟨_, rfl, rfl, rfl⟩) l1 rfl ?_
        refine m_ci (pc' := 30) cd_Mo_send rfl rfl rfl rfl rfl cd_Mo_refused rfl (Nat.le_of_ble_eq_true rfl) (m_refused (b := true) (mk := true) (dn := false) (p := s) h11 hdl h40 hws hs hq0.1.2.2.1 (fun q => nomatch q) (fun _ q => nomatch q) (fun _ _ => ?_))
        show mg _ _ _ 30 _ [.int 0] _ _
        refine m_ist (pc' := 31) cd_Mo_send rfl (Or.inr ⟨_, rfl, rfl, rfl⟩) (by decide) rfl (fun lv el => ?_)
        have l0 := tm_lk el l0 rfl (by decide)
        have l1 := tm_lk el l1 rfl (by decide)
        have l2 := tm_lk el l2 rfl (by decide)
        have l3 : lv.lookup 3 = some (.int 0) := tm_lks el
        clear el
        refine m_ild (pc' := 32) cd_Mo_send rfl (Or.inr ⟨_, rfl, rfl, rfl⟩) l3 rfl ?_
        refine m_if1 (t := 37) (pc' := 35) cd_Mo_send rfl rfl rfl (fun c32 => ?_) (fun c32 => ?_)
        · have c32 : (0 : Int32) = 0 := c32
          refine m_ald (pc' := 38) cd_Mo_send rfl (Or.inr ⟨_, rfl, rfl, rfl⟩) l0 rfl rfl ?_
          refine m_ild (pc' := 39) cd_Mo_send rfl (Or.inr ⟨_, rfl, rfl, rfl⟩) l1 rfl ?_
          refine m_cv (pc' := 42) cd_Mo_send rfl rfl rfl rfl rfl cd_Mo_load rfl (Nat.le_of_ble_eq_true rfl) (m_load hs (fun gw hgw => ?_))
          have hDw : qDv gw T (id, K0, K1, on, lnu, se, me) := qDv_c (List.prefix_refl T) hgw hdv
          have hSs := hDw.2.2.1 p hp
          rw [hse] at hSs
          have h24 := hSs.1.1
          show mg _ _ _ 42 _ [] _ _
          refine m_ald (pc' := 43) cd_Mo_send rfl (Or.inr ⟨_, rfl, rfl, rfl⟩) l0 rfl rfl ?_
          refine m_fR (r := 14) (a := 15) (ad := 1497) (pc' := 46) rfl rfl cd_Mo_send rfl rfl rfl rfl rfl ?_
          refine m_k2 (v := 24) (pc' := 48) cd_Mo_send rfl (by decide) rfl ?_
          refine m_ild (pc' := 49) cd_Mo_send rfl (Or.inr ⟨_, rfl, rfl, rfl⟩) l2 rfl ?_
          refine m_pure (pc' := 50) (st' := [.int ((24 : Int32) + (nI p)), .ref 1497]) cd_Mo_send rfl rfl (fun _ _ => rfl) ?_
          refine m_eq (show ((24 : Int32) + (nI p) : Int32) = nI (24 + p) from nI_add 24 p) ?_
          refine m_aI (r := 14) (a := 15) (g := gw) (x := (nI (((th, ch, nx, le), ba, ro, mi, sd, n, b, br, bp, bo, oc) :: lz).length)) (pc' := 51) rfl rfl cd_Mo_send rfl rfl rfl (vp_in_nI (by omega) (by decide)) (by rw [(nI_clamp (by omega))]; exact h24) ?_
          refine m_if1 (t := 66) (pc' := 54) cd_Mo_send rfl rfl rfl (fun c51 => ?_) (fun c51 => ?_)
          · have c51 : ¬ (nI (((th, ch, nx, le), ba, ro, mi, sd, n, b, br, bp, bo, oc) :: lz).length) = 0 := c51
            exact l_msend2 (f := (fset (fset (fset f 21 (f 21 + 1)) 30 0) 32 0)) (A := (fset A 15 gw)) (by exact MT_i hM rfl rfl rfl rfl rfl rfl rfl rfl rfl rfl) (RS_p (f' := (fset (fset (fset f 21 (f 21 + 1)) 30 0) 32 0)) (A' := (fset A 15 gw)) hS (List.prefix_refl T) h11 (show f 21 + 1 = ck + 1 by rw [h21]) ⟨rfl, rfl, rfl, rfl, rfl⟩ ⟨rfl, rfl, rfl, rfl, rfl, rfl, rfl, rfl, rfl, rfl, rfl, rfl, rfl, rfl, rfl, rfl, rfl, rfl, rfl, rfl, rfl, rfl, rfl, rfl, rfl, rfl, rfl⟩ hS.2.1.2.1 hS.2.2.2.2.1.1 hS.2.2.2.2.1.2.1 hS.2.2.2.2.1.2.2 hS.2.2.1.2) (by omega) (by omega) hls hTl hr hs hp rfl eI hz0 hz1 hst hDw hse kth hsd kmi hen k0 k1 k2 lv l0 l1 l2
          · have c51 : (nI (((th, ch, nx, le), ba, ro, mi, sd, n, b, br, bp, bo, oc) :: lz).length) = 0 := Classical.not_not.mp c51
            exact absurd c51 (fun e => absurd (nI_cxl (b := 0) (by have := hSs.1.2; omega) (by omega) e) (by simp))
        · exact absurd (show ¬ (0 : Int32) = 0 from c32) (by decide)
set_option maxRecDepth 100000 in
theorem m_sendT {sc : tm_X} {d : Nat} {f : Nat → Int32} {A : Nat → Nat → Int32} {T : List Tm} {DL : List (Int32 × Int32)} {G Kw : Tm → Prop} {dev : Nat → DV} {sto : Nat → ST} {ws : List (Tm × Int32)} {dir reg : Nat → Tm} {seen : List Tm} {ls : List RL} {lo dt db rt fl ll tl tf tg tm : Nat → Int32} {ck fo du : Int32} {id : Tm} {K0 K1 : PK} {on : List (Tm × Int32)} {lnu : Int32} {se : Nat → List SS} {me : Nat → MM} {p0 : Bool} {P O : EN2} {c : Option Nat} {s p : Nat} {th ch ba ro mi sd bp bo : Tm} {nx n b : Int32} {le : List (Tm × Int32 × Tm)} {br oc : Bool} {lz : List SS} {Q : Int32 → MS → Prop} (hM : MT f A T DL G Kw) (hS : RS f A T DL dev sto ws dir reg seen ls lo (dt, db, rt, fl, ll, tl, tf, tg, tm, ck, fo, du)) (hdl : DL.length ≤ 2960) (hws : ws.length ≤ 692) (hls : ls.length < 700) (hTl : T.length + 12 ≤ 4000) (hr : rc (A 1) T.length + 2 < 1000) (hs : s < 6) (hp : p < 6) (hsp : s ≠ p) (eD : dev s = (id, K0, K1, on, lnu, se, me)) (hz0 : K0.1 = tz ↔ K0.2.1 = 0) (hz1 : K1.1 = tz ↔ K1.2.1 = 0) (hst : sto s = (p0, P, O, c, false)) (hse : se p = ((th, ch, nx, le), ba, ro, mi, sd, n, b, br, bp, bo, oc) :: lz) (kth : kd th = 2) (hsd : sd = tz) (hen : (dv_en (id, K0, K1, on, lnu, fset se p (ss_sent ((th, ch, nx, le), ba, Tmx 4 ro (Tsh (Tsec (nI DL.length) (nI s) 2) (pt th 0)), (Tsec (nI DL.length) (nI s) 2), Tmx 5 ro (Tsh (Tsec (nI DL.length) (nI s) 2) (pt th 0)), 0, n, br, bp, bo, oc) :: lz), me)).length ≤ 536) (k0 : (st_commit p0 P c (dv_en (id, K0, K1, on, lnu, fset se p (ss_sent ((th, ch, nx, le), ba, Tmx 4 ro (Tsh (Tsec (nI DL.length) (nI s) 2) (pt th 0)), (Tsec (nI DL.length) (nI s) 2), Tmx 5 ro (Tsh (Tsec (nI DL.length) (nI s) 2) (pt th 0)), 0, n, br, bp, bo, oc) :: lz), me))).1 = 0 → ∀ f1 A1 T', T <+: T' → T'.length ≤ T.length + 12 → rc (A1 1) T'.length ≤ rc (A 1) T.length + 2 → MT f1 A1 T' ((DL ++ [(nI s, 2)]) ++ [(nI s, 0)]) G Kw → (f1 16 = 1 ∨ f1 16 = f 16) → RS f1 A1 T' ((DL ++ [(nI s, 2)]) ++ [(nI s, 0)]) dev (fset sto s (st_commit p0 P c (dv_en (id, K0, K1, on, lnu, fset se p (ss_sent ((th, ch, nx, le), ba, Tmx 4 ro (Tsh (Tsec (nI DL.length) (nI s) 2) (pt th 0)), (Tsec (nI DL.length) (nI s) 2), Tmx 5 ro (Tsh (Tsec (nI DL.length) (nI s) 2) (pt th 0)), 0, n, br, bp, bo, oc) :: lz), me))).2) (ws) dir reg seen (ls) ((wl (wl lo DL.length [-1]) (List.length (DL ++ [(nI s, 2)])) (([(nI (6 + s), false)] : List (Int32 × Bool)).map fun _ => -1))) (wl (wl dt DL.length [ck + 1]) (List.length (DL ++ [(nI s, 2)])) (([(nI (6 + s), false)] : List (Int32 × Bool)).map fun _ => (ck + 1)), wl (wl db DL.length [nI s]) (List.length (DL ++ [(nI s, 2)])) (([(nI (6 + s), false)] : List (Int32 × Bool)).map fun (e : Int32 × Bool) => e.1), wl (wl rt DL.length [1]) (List.length (DL ++ [(nI s, 2)])) (([(nI (6 + s), false)] : List (Int32 × Bool)).map fun (e : Int32 × Bool) => bz e.2), fl, ll, tl, tf, tg, tm, (ck + 1), fo, du) → Q (-4) (f1, A1)) (k1 : (st_commit p0 P c (dv_en (id, K0, K1, on, lnu, fset se p (ss_sent ((th, ch, nx, le), ba, Tmx 4 ro (Tsh (Tsec (nI DL.length) (nI s) 2) (pt th 0)), (Tsec (nI DL.length) (nI s) 2), Tmx 5 ro (Tsh (Tsec (nI DL.length) (nI s) 2) (pt th 0)), 0, n, br, bp, bo, oc) :: lz), me))).1 = 1 → ∀ f1 A1 T', T <+: T' → T'.length ≤ T.length + 12 → rc (A1 1) T'.length ≤ rc (A 1) T.length + 2 → MT f1 A1 T' ((DL ++ [(nI s, 2)]) ++ [(nI s, 0)]) G Kw → (f1 16 = 1 ∨ f1 16 = f 16) → RS f1 A1 T' ((DL ++ [(nI s, 2)]) ++ [(nI s, 0)]) (fset dev s (id, K0, K1, on, lnu, fset se p (ss_sent ((th, ch, nx, le), ba, Tmx 4 ro (Tsh (Tsec (nI DL.length) (nI s) 2) (pt th 0)), (Tsec (nI DL.length) (nI s) 2), Tmx 5 ro (Tsh (Tsec (nI DL.length) (nI s) 2) (pt th 0)), 0, n, br, bp, bo, oc) :: lz), me)) (fset sto s (st_commit p0 P c (dv_en (id, K0, K1, on, lnu, fset se p (ss_sent ((th, ch, nx, le), ba, Tmx 4 ro (Tsh (Tsec (nI DL.length) (nI s) 2) (pt th 0)), (Tsec (nI DL.length) (nI s) 2), Tmx 5 ro (Tsh (Tsec (nI DL.length) (nI s) 2) (pt th 0)), 0, n, br, bp, bo, oc) :: lz), me))).2) (ws) dir reg seen (ls) ((wl (wl lo DL.length [-1]) (List.length (DL ++ [(nI s, 2)])) (([(nI (6 + s), false)] : List (Int32 × Bool)).map fun _ => -1))) (wl (wl dt DL.length [ck + 1]) (List.length (DL ++ [(nI s, 2)])) (([(nI (6 + s), false)] : List (Int32 × Bool)).map fun _ => (ck + 1)), wl (wl db DL.length [nI s]) (List.length (DL ++ [(nI s, 2)])) (([(nI (6 + s), false)] : List (Int32 × Bool)).map fun (e : Int32 × Bool) => e.1), wl (wl rt DL.length [1]) (List.length (DL ++ [(nI s, 2)])) (([(nI (6 + s), false)] : List (Int32 × Bool)).map fun (e : Int32 × Bool) => bz e.2), fl, ll, tl, tf, tg, tm, (ck + 1), fo, du) → Q (-4) (f1, A1)) (k2 : (st_commit p0 P c (dv_en (id, K0, K1, on, lnu, fset se p (ss_sent ((th, ch, nx, le), ba, Tmx 4 ro (Tsh (Tsec (nI DL.length) (nI s) 2) (pt th 0)), (Tsec (nI DL.length) (nI s) 2), Tmx 5 ro (Tsh (Tsec (nI DL.length) (nI s) 2) (pt th 0)), 0, n, br, bp, bo, oc) :: lz), me))).1 = 2 → ∀ f1 A1 T', T <+: T' → T'.length ≤ T.length + 12 → rc (A1 1) T'.length ≤ rc (A 1) T.length + 2 → MT f1 A1 T' ((DL ++ [(nI s, 2)]) ++ [(nI s, 0)]) (fun y => G y ∨ y = (ss_wire ((th, ch, nx, le), ba, Tmx 4 ro (Tsh (Tsec (nI DL.length) (nI s) 2) (pt th 0)), (Tsec (nI DL.length) (nI s) 2), Tmx 5 ro (Tsh (Tsec (nI DL.length) (nI s) 2) (pt th 0)), 0, n, br, bp, bo, oc) (nI s) (nI p) (Trw 4 0 0 0 0 (Tsec (nI (List.length (DL ++ [(nI s, 2)]))) (nI s) 0) tz tz tz))) Kw → (f1 16 = 1 ∨ (f1 16 = f 16 ∧ G (ss_wire ((th, ch, nx, le), ba, Tmx 4 ro (Tsh (Tsec (nI DL.length) (nI s) 2) (pt th 0)), (Tsec (nI DL.length) (nI s) 2), Tmx 5 ro (Tsh (Tsec (nI DL.length) (nI s) 2) (pt th 0)), 0, n, br, bp, bo, oc) (nI s) (nI p) (Trw 4 0 0 0 0 (Tsec (nI (List.length (DL ++ [(nI s, 2)]))) (nI s) 0) tz tz tz)))) → RS f1 A1 T' ((DL ++ [(nI s, 2)]) ++ [(nI s, 0)]) (fset dev s (id, K0, K1, on, lnu, fset se p (ss_sent ((th, ch, nx, le), ba, Tmx 4 ro (Tsh (Tsec (nI DL.length) (nI s) 2) (pt th 0)), (Tsec (nI DL.length) (nI s) 2), Tmx 5 ro (Tsh (Tsec (nI DL.length) (nI s) 2) (pt th 0)), 0, n, br, bp, bo, oc) :: lz), me)) (fset sto s (st_commit p0 P c (dv_en (id, K0, K1, on, lnu, fset se p (ss_sent ((th, ch, nx, le), ba, Tmx 4 ro (Tsh (Tsec (nI DL.length) (nI s) 2) (pt th 0)), (Tsec (nI DL.length) (nI s) 2), Tmx 5 ro (Tsh (Tsec (nI DL.length) (nI s) 2) (pt th 0)), 0, n, br, bp, bo, oc) :: lz), me))).2) (ws ++ [((ss_wire ((th, ch, nx, le), ba, Tmx 4 ro (Tsh (Tsec (nI DL.length) (nI s) 2) (pt th 0)), (Tsec (nI DL.length) (nI s) 2), Tmx 5 ro (Tsh (Tsec (nI DL.length) (nI s) 2) (pt th 0)), 0, n, br, bp, bo, oc) (nI s) (nI p) (Trw 4 0 0 0 0 (Tsec (nI (List.length (DL ++ [(nI s, 2)]))) (nI s) 0) tz tz tz)), nI ls.length)]) dir reg seen (ls ++ [((Tsec (nI (List.length (DL ++ [(nI s, 2)]))) (nI s) 0), nI s, nI p, oc, (Tsec (nI DL.length) (nI s) 2), pt th 0, 0, 0, fun _ => 2147483647)]) (upd (wl (wl lo DL.length [-1]) (List.length (DL ++ [(nI s, 2)])) (([(nI (6 + s), false)] : List (Int32 × Bool)).map fun _ => -1)) (List.length (DL ++ [(nI s, 2)])) (nI ls.length)) (wl (wl dt DL.length [ck + 1]) (List.length (DL ++ [(nI s, 2)])) (([(nI (6 + s), false)] : List (Int32 × Bool)).map fun _ => (ck + 1)), wl (wl db DL.length [nI s]) (List.length (DL ++ [(nI s, 2)])) (([(nI (6 + s), false)] : List (Int32 × Bool)).map fun (e : Int32 × Bool) => e.1), wl (wl rt DL.length [1]) (List.length (DL ++ [(nI s, 2)])) (([(nI (6 + s), false)] : List (Int32 × Bool)).map fun (e : Int32 × Bool) => bz e.2), fl, ll, tl, tf, tg, tm, (ck + 1), fo, du) → Q (nI ws.length) (f1, A1)) : mGi sc (d + 6) 223 [.ref 1482, .int (nI s), .int (nI p)] (f, A) Q := by
  have hq0 := hS.1.2.2 s hs
  rw [hst] at hq0
  have h40 := hS.2.1.1.1.1
  have h11 : f 11 = nI DL.length := hS.2.2.2.1.1
  have h21 : f 21 = ck := hS.2.2.2.1.2.1
  have hdv := hS.1.2.1 s hs
  rw [eD] at hdv
  have eI : (dev s).1 = id := by rw [eD]
  show mg sc (d + 6) 223 0 [(0, .ref 1482), (1, .int (nI s)), (2, .int (nI p))] [] (f, A) _
  generalize elv : ([(0, .ref 1482), (1, .int (nI s)), (2, .int (nI p))] : tm_L) = lv
  have l0 : lv.lookup 0 = some (.ref 1482) := by rw [← elv]; rfl
  have l1 : lv.lookup 1 = some (.int (nI s)) := by rw [← elv]; rfl
  have l2 : lv.lookup 2 = some (.int (nI p)) := by rw [← elv]; rfl
  clear elv
  refine m_ald (pc' := 1) cd_Mo_send rfl (Or.inr ⟨_, rfl, rfl, rfl⟩) l0 rfl rfl ?_
  refine m_ild (pc' := 2) cd_Mo_send rfl (Or.inr ⟨_, rfl, rfl, rfl⟩) l1 rfl ?_
  refine m_si (pc' := 5) cd_Mo_send rfl rfl rfl rfl rfl cd_Mo_isDevice rfl (Nat.le_of_ble_eq_true rfl) (m_isDev1 hs ?_)
  show mg _ _ _ 5 _ [.int 1, .ref 1482] _ _
  refine m_if1 (t := 24) (pc' := 8) cd_Mo_send rfl rfl rfl (fun c5 => ?_) (fun c5 => ?_)
  · exact absurd (show (1 : Int32) = 0 from c5) (by decide)
  · have c5 : ¬ (1 : Int32) = 0 := c5
    refine m_ild (pc' := 9) cd_Mo_send rfl (Or.inr ⟨_, rfl, rfl, rfl⟩) l2 rfl ?_
    refine m_si (pc' := 12) cd_Mo_send rfl rfl rfl rfl rfl cd_Mo_isDevice rfl (Nat.le_of_ble_eq_true rfl) (m_isDev1 hp ?_)
    show mg _ _ _ 12 _ [.int 1, .ref 1482] _ _
    refine m_if1 (t := 24) (pc' := 15) cd_Mo_send rfl rfl rfl (fun c12 => ?_) (fun c12 => ?_)
    · exact absurd (show (1 : Int32) = 0 from c12) (by decide)
    · have c12 : ¬ (1 : Int32) = 0 := c12
      refine m_ild (pc' := 16) cd_Mo_send rfl (Or.inr ⟨_, rfl, rfl, rfl⟩) l1 rfl ?_
      refine m_ild (pc' := 17) cd_Mo_send rfl (Or.inr ⟨_, rfl, rfl, rfl⟩) l2 rfl ?_
      refine m_if2 (t := 24) (pc' := 20) cd_Mo_send rfl rfl rfl (fun c17 => ?_) (fun c17 => ?_)
      · have c17 : (nI s) = (nI p) := c17
        exact absurd (nI_cxl (by omega) (by omega) c17) hsp
      · have c17 : ¬ (nI s) = (nI p) := c17
        refine m_k1 (v := 1) (pc' := 21) cd_Mo_send rfl (by decide) rfl ?_
        refine m_pure (pc' := 25) (st' := [.int 1, .ref 1482]) cd_Mo_send rfl rfl (fun _ _ => rfl) ?_
        refine m_k1 (v := 1) (pc' := 26) cd_Mo_send rfl (by decide) rfl ?_
        refine m_ild (pc' := 27) cd_Mo_send rfl (Or.inr ⟨_, rfl, rfl, rfl⟩) l1 rfl ?_
        refine m_ci (pc' := 30) cd_Mo_send rfl rfl rfl rfl rfl cd_Mo_refused rfl (Nat.le_of_ble_eq_true rfl) (m_refused (b := true) (mk := true) (dn := false) (p := s) h11 hdl h40 hws hs hq0.1.2.2.1 (fun q => nomatch q) (fun _ q => nomatch q) (fun _ _ => ?_))
        show mg _ _ _ 30 _ [.int 0] _ _
        refine m_ist (pc' := 31) cd_Mo_send rfl (Or.inr ⟨_, rfl, rfl, rfl⟩) (by decide) rfl (fun lv el => ?_)
        have l0 := tm_lk el l0 rfl (by decide)
        have l1 := tm_lk el l1 rfl (by decide)
        have l2 := tm_lk el l2 rfl (by decide)
        have l3 : lv.lookup 3 = some (.int 0) := tm_lks el
        clear el
        refine m_ild (pc' := 32) cd_Mo_send rfl (Or.inr ⟨_, rfl, rfl, rfl⟩) l3 rfl ?_
        refine m_if1 (t := 37) (pc' := 35) cd_Mo_send rfl rfl rfl (fun c32 => ?_) (fun c32 => ?_)
        · have c32 : (0 : Int32) = 0 := c32
          refine m_ald (pc' := 38) cd_Mo_send rfl (Or.inr ⟨_, rfl, rfl, rfl⟩) l0 rfl rfl ?_
          refine m_ild (pc' := 39) cd_Mo_send rfl (Or.inr ⟨_, rfl, rfl, rfl⟩) l1 rfl ?_
          refine m_cv (pc' := 42) cd_Mo_send rfl rfl rfl rfl rfl cd_Mo_load rfl (Nat.le_of_ble_eq_true rfl) (m_load hs (fun gw hgw => ?_))
          have hDw : qDv gw T (id, K0, K1, on, lnu, se, me) := qDv_c (List.prefix_refl T) hgw hdv
          have hSs := hDw.2.2.1 p hp
          rw [hse] at hSs
          have h24 := hSs.1.1
          show mg _ _ _ 42 _ [] _ _
          refine m_ald (pc' := 43) cd_Mo_send rfl (Or.inr ⟨_, rfl, rfl, rfl⟩) l0 rfl rfl ?_
          refine m_fR (r := 14) (a := 15) (ad := 1497) (pc' := 46) rfl rfl cd_Mo_send rfl rfl rfl rfl rfl ?_
          refine m_k2 (v := 24) (pc' := 48) cd_Mo_send rfl (by decide) rfl ?_
          refine m_ild (pc' := 49) cd_Mo_send rfl (Or.inr ⟨_, rfl, rfl, rfl⟩) l2 rfl ?_
          refine m_pure (pc' := 50) (st' := [.int ((24 : Int32) + (nI p)), .ref 1497]) cd_Mo_send rfl rfl (fun _ _ => rfl) ?_
          refine m_eq (show ((24 : Int32) + (nI p) : Int32) = nI (24 + p) from nI_add 24 p) ?_
          refine m_aI (r := 14) (a := 15) (g := gw) (x := (nI (((th, ch, nx, le), ba, ro, mi, sd, n, b, br, bp, bo, oc) :: lz).length)) (pc' := 51) rfl rfl cd_Mo_send rfl rfl rfl (vp_in_nI (by omega) (by decide)) (by rw [(nI_clamp (by omega))]; exact h24) ?_
          refine m_if1 (t := 66) (pc' := 54) cd_Mo_send rfl rfl rfl (fun c51 => ?_) (fun c51 => ?_)
          · have c51 : ¬ (nI (((th, ch, nx, le), ba, ro, mi, sd, n, b, br, bp, bo, oc) :: lz).length) = 0 := c51
            exact l_msend2t (f := (fset (fset (fset f 21 (f 21 + 1)) 30 0) 32 0)) (A := (fset A 15 gw)) (by exact MT_i hM rfl rfl rfl rfl rfl rfl rfl rfl rfl rfl) (RS_p (f' := (fset (fset (fset f 21 (f 21 + 1)) 30 0) 32 0)) (A' := (fset A 15 gw)) hS (List.prefix_refl T) h11 (show f 21 + 1 = ck + 1 by rw [h21]) ⟨rfl, rfl, rfl, rfl, rfl⟩ ⟨rfl, rfl, rfl, rfl, rfl, rfl, rfl, rfl, rfl, rfl, rfl, rfl, rfl, rfl, rfl, rfl, rfl, rfl, rfl, rfl, rfl, rfl, rfl, rfl, rfl, rfl, rfl⟩ hS.2.1.2.1 hS.2.2.2.2.1.1 hS.2.2.2.2.1.2.1 hS.2.2.2.2.1.2.2 hS.2.2.1.2) (by omega) (by omega) hls hTl hr hs hp rfl eI hz0 hz1 hst hDw hse kth hsd hen k0 k1 k2 lv l0 l1 l2
          · have c51 : (nI (((th, ch, nx, le), ba, ro, mi, sd, n, b, br, bp, bo, oc) :: lz).length) = 0 := Classical.not_not.mp c51
            exact absurd c51 (fun e => absurd (nI_cxl (b := 0) (by have := hSs.1.2; omega) (by omega) e) (by simp))
        · exact absurd (show ¬ (0 : Int32) = 0 from c32) (by decide)
