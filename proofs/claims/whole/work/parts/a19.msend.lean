/-! The reference: send -/
set_option maxRecDepth 100000 in
theorem l_msend3 {sc : tm_X} {d : Nat} {f : Nat → Int32} {A : Nat → Nat → Int32} {T : List Tm} {DL : List (Int32 × Int32)} {G Kw : Tm → Prop} {dev : Nat → DV} {sto : Nat → ST} {ws : List (Tm × Int32)} {dir reg : Nat → Tm} {seen : List Tm} {ls : List RL} {lo dt db rt fl ll tl tf tg tm : Nat → Int32} {ck fo du : Int32} {id : Tm} {K0 K1 : PK} {on : List (Tm × Int32)} {lnu : Int32} {se : Nat → List SS} {me : Nat → MM} {p0 : Bool} {P O : EN2} {c : Option Nat} {s p : Nat} {th ch ba ro mi sd bp bo : Tm} {nx n b : Int32} {le : List (Tm × Int32 × Tm)} {br oc : Bool} {lz : List SS} {Q : Int32 → MS → Prop} (hM : MT f A T DL G Kw) (hS : RS f A T DL dev sto ws dir reg seen ls lo (dt, db, rt, fl, ll, tl, tf, tg, tm, ck, fo, du)) (hdl : DL.length + 1 ≤ 3000) (hws : ws.length ≤ 699) (hls : ls.length < 700)  (hTl : T.length + 8 ≤ 4000) (hr : rc (A 1) T.length + 2 < 1000) (hs : s < 6) (hp : p < 6) (h30 : f 30 = 0) (eid : (dev s).1 = id) (hz0 : K0.1 = tz ↔ K0.2.1 = 0) (hz1 : K1.1 = tz ↔ K1.2.1 = 0) (hst : sto s = (p0, P, O, c, false)) (hD : qDv (A 15) T (id, K0, K1, on, lnu, se, me)) (hse : se p = ((th, ch, nx, le), ba, ro, mi, sd, n, b, br, bp, bo, oc) :: lz) (kth : kd th = 2) (kmi : kd mi = 1) (hen : (dv_en (id, K0, K1, on, lnu, fset se p (ss_sent ((th, ch, nx, le), ba, ro, mi, sd, n, b, br, bp, bo, oc) :: lz), me)).length ≤ 536) (k0 : (st_commit p0 P c (dv_en (id, K0, K1, on, lnu, fset se p (ss_sent ((th, ch, nx, le), ba, ro, mi, sd, n, b, br, bp, bo, oc) :: lz), me))).1 = 0 → ∀ f1 A1 T', T <+: T' → T'.length ≤ T.length + 8 → rc (A1 1) T'.length ≤ rc (A 1) T.length + 2 → MT f1 A1 T' (DL ++ [(nI s, 0)]) G Kw → (f1 16 = 1 ∨ f1 16 = f 16) → RS f1 A1 T' (DL ++ [(nI s, 0)]) dev (fset sto s (st_commit p0 P c (dv_en (id, K0, K1, on, lnu, fset se p (ss_sent ((th, ch, nx, le), ba, ro, mi, sd, n, b, br, bp, bo, oc) :: lz), me))).2) (ws) dir reg seen (ls) ((wl lo DL.length (([(nI (6 + s), false)] : List (Int32 × Bool)).map fun _ => -1))) (wl dt DL.length (([(nI (6 + s), false)] : List (Int32 × Bool)).map fun _ => ck), wl db DL.length (([(nI (6 + s), false)] : List (Int32 × Bool)).map fun (e : Int32 × Bool) => e.1), wl rt DL.length (([(nI (6 + s), false)] : List (Int32 × Bool)).map fun (e : Int32 × Bool) => bz e.2), fl, ll, tl, tf, tg, tm, ck, fo, du) → Q (-4) (f1, A1)) (k1 : (st_commit p0 P c (dv_en (id, K0, K1, on, lnu, fset se p (ss_sent ((th, ch, nx, le), ba, ro, mi, sd, n, b, br, bp, bo, oc) :: lz), me))).1 = 1 → ∀ f1 A1 T', T <+: T' → T'.length ≤ T.length + 8 → rc (A1 1) T'.length ≤ rc (A 1) T.length + 2 → MT f1 A1 T' (DL ++ [(nI s, 0)]) G Kw → (f1 16 = 1 ∨ f1 16 = f 16) → RS f1 A1 T' (DL ++ [(nI s, 0)]) (fset dev s (id, K0, K1, on, lnu, fset se p (ss_sent ((th, ch, nx, le), ba, ro, mi, sd, n, b, br, bp, bo, oc) :: lz), me)) (fset sto s (st_commit p0 P c (dv_en (id, K0, K1, on, lnu, fset se p (ss_sent ((th, ch, nx, le), ba, ro, mi, sd, n, b, br, bp, bo, oc) :: lz), me))).2) (ws) dir reg seen (ls) ((wl lo DL.length (([(nI (6 + s), false)] : List (Int32 × Bool)).map fun _ => -1))) (wl dt DL.length (([(nI (6 + s), false)] : List (Int32 × Bool)).map fun _ => ck), wl db DL.length (([(nI (6 + s), false)] : List (Int32 × Bool)).map fun (e : Int32 × Bool) => e.1), wl rt DL.length (([(nI (6 + s), false)] : List (Int32 × Bool)).map fun (e : Int32 × Bool) => bz e.2), fl, ll, tl, tf, tg, tm, ck, fo, du) → Q (-4) (f1, A1)) (k2 : (st_commit p0 P c (dv_en (id, K0, K1, on, lnu, fset se p (ss_sent ((th, ch, nx, le), ba, ro, mi, sd, n, b, br, bp, bo, oc) :: lz), me))).1 = 2 → ∀ f1 A1 T', T <+: T' → T'.length ≤ T.length + 8 → rc (A1 1) T'.length ≤ rc (A 1) T.length + 2 → MT f1 A1 T' (DL ++ [(nI s, 0)]) (fun y => G y ∨ y = (ss_wire ((th, ch, nx, le), ba, ro, mi, sd, n, b, br, bp, bo, oc) (nI s) (nI p) (Trw 4 0 0 0 0 (Tsec (nI DL.length) (nI s) 0) tz tz tz))) Kw → (f1 16 = 1 ∨ (f1 16 = f 16 ∧ G (ss_wire ((th, ch, nx, le), ba, ro, mi, sd, n, b, br, bp, bo, oc) (nI s) (nI p) (Trw 4 0 0 0 0 (Tsec (nI DL.length) (nI s) 0) tz tz tz)))) → RS f1 A1 T' (DL ++ [(nI s, 0)]) (fset dev s (id, K0, K1, on, lnu, fset se p (ss_sent ((th, ch, nx, le), ba, ro, mi, sd, n, b, br, bp, bo, oc) :: lz), me)) (fset sto s (st_commit p0 P c (dv_en (id, K0, K1, on, lnu, fset se p (ss_sent ((th, ch, nx, le), ba, ro, mi, sd, n, b, br, bp, bo, oc) :: lz), me))).2) (ws ++ [((ss_wire ((th, ch, nx, le), ba, ro, mi, sd, n, b, br, bp, bo, oc) (nI s) (nI p) (Trw 4 0 0 0 0 (Tsec (nI DL.length) (nI s) 0) tz tz tz)), nI ls.length)]) dir reg seen (ls ++ [((Tsec (nI DL.length) (nI s) 0), nI s, nI p, oc, mi, pt th 0, 0, 0, fun _ => 2147483647)]) (upd (wl lo DL.length (([(nI (6 + s), false)] : List (Int32 × Bool)).map fun _ => -1)) DL.length (nI ls.length)) (wl dt DL.length (([(nI (6 + s), false)] : List (Int32 × Bool)).map fun _ => ck), wl db DL.length (([(nI (6 + s), false)] : List (Int32 × Bool)).map fun (e : Int32 × Bool) => e.1), wl rt DL.length (([(nI (6 + s), false)] : List (Int32 × Bool)).map fun (e : Int32 × Bool) => bz e.2), fl, ll, tl, tf, tg, tm, ck, fo, du) → Q (nI ws.length) (f1, A1)) : ∀ lv : tm_L, lv.lookup 0 = some (.ref 1482) → lv.lookup 1 = some (.int (nI s)) → lv.lookup 2 = some (.int (nI p)) → lv.lookup 4 = some (.int (nI (30 + (2 * p + 0) * 38))) →  mg sc (d + 5) 223 80 lv [] (f, A) (fun r s' => ∃ x, r = some (.int x) ∧ Q x s') := by
  intro lv l0 l1 l2 l4
  have h11 : f 11 = nI DL.length := hS.2.2.2.1.1
  have h21 : f 21 = ck := hS.2.2.2.1.2.1
  have hTl0 := MT_len hM
  have hSs := hD.2.2.1 p hp
  rw [hse] at hSs
  have hSe := hSs.2 0 ((th, ch, nx, le), ba, ro, mi, sd, n, b, br, bp, bo, oc) rfl
  have hSe0 : qSe (A 15) T (30 + (2 * p + 0) * 38) ((th, ch, nx, le), ba, ro, mi, sd, n, b, br, bp, bo, oc) := hSe
  obtain ⟨⟨a1, a2, a3, a4, a5, a6⟩, ⟨a7, a8, a9⟩, ⟨a10, a11⟩, _, _, a37⟩ := hSe
  obtain ⟨it, et, hit⟩ := a4
  have hitl := tv_lt hit
  have kth1 := MT_pub1 hM ⟨it, rfl, hit⟩ kth
  cases oc with
  | true =>
    refine m_ald (pc' := 81) cd_Mo_send rfl (Or.inr ⟨_, rfl, rfl, rfl⟩) l0 rfl rfl ?_
    refine m_ald (pc' := 82) cd_Mo_send rfl (Or.inr ⟨_, rfl, rfl, rfl⟩) l0 rfl rfl ?_
    refine m_k2 (v := 6) (pc' := 84) cd_Mo_send rfl (by decide) rfl ?_
    refine m_ild (pc' := 85) cd_Mo_send rfl (Or.inr ⟨_, rfl, rfl, rfl⟩) l1 rfl ?_
    refine m_pure (pc' := 86) (st' := [.int ((6 : Int32) + (nI s)), .ref 1482, .ref 1482]) cd_Mo_send rfl rfl (fun _ _ => rfl) ?_
    refine m_eq (show ((6 : Int32) + (nI s) : Int32) = nI (6 + s) from nI_add 6 s) ?_
    refine m_k1 (v := 0) (pc' := 87) cd_Mo_send rfl (by decide) rfl ?_
    refine m_ci (pc' := 90) cd_Mo_send rfl rfl rfl rfl rfl cd_Mo_drawn rfl (Nat.le_of_ble_eq_true rfl) (m_drawn (rt := false) (xd := (nI s)) (xp := 0) (by exact MT_i hM rfl rfl rfl rfl rfl rfl rfl rfl rfl rfl) (by omega) (by show rc (A 1) T.length < 1000; omega) h11 (by omega) (fun f1 A1 T1 r1 hx1 hr1 => ?_))
    obtain ⟨p1, q1, s1, hM1⟩ := hx1
    have hM1 : MT f1 A1 T1 _ _ _ := MT_i hM1 rfl rfl rfl rfl rfl rfl rfl rfl rfl rfl
    have s1 : rc (A1 1) T1.length ≤ rc (A 1) T.length + 0 := s1
    show mg _ _ _ 90 _ [.int r1, .ref 1482] _ _
    refine m_pI (k := 32) (pc' := 93) cd_Mo_send rfl rfl rfl rfl (by simp [tm_okV, narrow, fits]) rfl rfl ?_
    refine m_ald (pc' := 94) cd_Mo_send rfl (Or.inr ⟨_, rfl, rfl, rfl⟩) l0 rfl rfl ?_
    refine m_ild (pc' := 95) cd_Mo_send rfl (Or.inr ⟨_, rfl, rfl, rfl⟩) l2 rfl ?_
    refine m_pI (k := 33) (pc' := 98) cd_Mo_send rfl rfl rfl rfl (by simp [tm_okV, narrow, fits]) rfl rfl ?_
    refine m_ald (pc' := 99) cd_Mo_send rfl (Or.inr ⟨_, rfl, rfl, rfl⟩) l0 rfl rfl ?_
    refine m_ald (pc' := 100) cd_Mo_send rfl (Or.inr ⟨_, rfl, rfl, rfl⟩) l0 rfl rfl ?_
    refine m_fR (r := 14) (a := 15) (ad := 1497) (pc' := 103) rfl rfl cd_Mo_send rfl rfl rfl rfl rfl ?_
    refine m_ild (pc' := 105) cd_Mo_send rfl (Or.inl ⟨rfl, rfl⟩) l4 rfl ?_
    refine m_k2 (v := 37) (pc' := 107) cd_Mo_send rfl (by decide) rfl ?_
    refine m_pure (pc' := 108) (st' := [.int ((nI (30 + (2 * p + 0) * 38)) + 37), .ref 1497, .ref 1482]) cd_Mo_send rfl rfl (fun _ _ => rfl) ?_
    refine m_eq (show ((nI (30 + (2 * p + 0) * 38)) + 37 : Int32) = nI ((30 + (2 * p + 0) * 38) + 37) from nI_add (30 + (2 * p + 0) * 38) 37) ?_
    refine m_aI (r := 14) (a := 15) (g := (A 15)) (x := 1) (pc' := 109) rfl rfl cd_Mo_send rfl rfl rfl (vp_in_nI (by omega) (by decide)) ((congrArg (A 15) (nI_clamp (by omega))).trans a37) ?_
    refine m_k1 (v := 1) (pc' := 110) cd_Mo_send rfl (by decide) rfl ?_
    refine m_if2 (t := 117) (pc' := 113) cd_Mo_send rfl rfl rfl (fun c110 => ?_) (fun c110 => ?_)
    · exact absurd (show ¬ (1 : Int32) = 1 from c110) (by decide)
    · have c110 : (1 : Int32) = 1 := Classical.not_not.mp c110
      refine m_k1 (v := 1) (pc' := 114) cd_Mo_send rfl (by decide) rfl ?_
      refine m_pure (pc' := 118) (st' := [.int 1, .ref 1482]) cd_Mo_send rfl rfl (fun _ _ => rfl) ?_
      refine m_pI (k := 34) (pc' := 121) cd_Mo_send rfl rfl rfl rfl (by decide) rfl rfl ?_
      refine m_ald (pc' := 122) cd_Mo_send rfl (Or.inr ⟨_, rfl, rfl, rfl⟩) l0 rfl rfl ?_
      refine m_ald (pc' := 123) cd_Mo_send rfl (Or.inr ⟨_, rfl, rfl, rfl⟩) l0 rfl rfl ?_
      refine m_fR (r := 14) (a := 15) (ad := 1497) (pc' := 126) rfl rfl cd_Mo_send rfl rfl rfl rfl rfl ?_
      refine m_ild (pc' := 128) cd_Mo_send rfl (Or.inl ⟨rfl, rfl⟩) l4 rfl ?_
      refine m_k1 (v := 2) (pc' := 129) cd_Mo_send rfl (by decide) rfl ?_
      refine m_pure (pc' := 130) (st' := [.int ((nI (30 + (2 * p + 0) * 38)) + 2), .ref 1497, .ref 1482]) cd_Mo_send rfl rfl (fun _ _ => rfl) ?_
      refine m_eq (show ((nI (30 + (2 * p + 0) * 38)) + 2 : Int32) = nI ((30 + (2 * p + 0) * 38) + 2) from nI_add (30 + (2 * p + 0) * 38) 2) ?_
      refine m_aI (r := 14) (a := 15) (g := (A 15)) (x := ((A 15) ((30 + (2 * p + 0) * 38) + 2))) (pc' := 131) rfl rfl cd_Mo_send rfl rfl rfl (vp_in_nI (by omega) (by decide)) (congrArg (A 15) (nI_clamp (by omega))) ?_
      refine m_pI (k := 35) (pc' := 134) cd_Mo_send rfl rfl rfl rfl (by simp [tm_okV, narrow, fits]) rfl rfl ?_
      refine m_ald (pc' := 135) cd_Mo_send rfl (Or.inr ⟨_, rfl, rfl, rfl⟩) l0 rfl rfl ?_
      refine m_ald (pc' := 136) cd_Mo_send rfl (Or.inr ⟨_, rfl, rfl, rfl⟩) l0 rfl rfl ?_
      refine m_fR (r := 1) (a := 2) (ad := 1484) (pc' := 139) rfl rfl cd_Mo_send rfl rfl rfl rfl rfl ?_
      refine m_ald (pc' := 140) cd_Mo_send rfl (Or.inr ⟨_, rfl, rfl, rfl⟩) l0 rfl rfl ?_
      refine m_fR (r := 14) (a := 15) (ad := 1497) (pc' := 143) rfl rfl cd_Mo_send rfl rfl rfl rfl rfl ?_
      refine m_ild (pc' := 145) cd_Mo_send rfl (Or.inl ⟨rfl, rfl⟩) l4 rfl ?_
      refine m_k1 (v := 3) (pc' := 146) cd_Mo_send rfl (by decide) rfl ?_
      refine m_pure (pc' := 147) (st' := [.int ((nI (30 + (2 * p + 0) * 38)) + 3), .ref 1497, .ref 1484, .ref 1482]) cd_Mo_send rfl rfl (fun _ _ => rfl) ?_
      refine m_eq (show ((nI (30 + (2 * p + 0) * 38)) + 3 : Int32) = nI ((30 + (2 * p + 0) * 38) + 3) from nI_add (30 + (2 * p + 0) * 38) 3) ?_
      refine m_aI (r := 14) (a := 15) (g := (A 15)) (x := (nI it)) (pc' := 148) rfl rfl cd_Mo_send rfl rfl rfl (vp_in_nI (by omega) (by decide)) ((congrArg (A 15) (nI_clamp (by omega))).trans et) ?_
      have hone := MT_one hM1 (pfx_get p1 hit) (Or.inl kth)
      refine m_aI (r := 1) (a := 2) (g := (A1 2)) (x := ((A1 2) it)) (pc' := 149) rfl rfl cd_Mo_send rfl rfl rfl (vp_in_nI (by omega) (by decide)) (congrArg (A1 2) (nI_clamp (by omega))) ?_
      refine m_pI (k := 36) (pc' := 152) cd_Mo_send rfl rfl rfl rfl (by simp [tm_okV, narrow, fits]) rfl rfl ?_
      refine m_ald (pc' := 153) cd_Mo_send rfl (Or.inr ⟨_, rfl, rfl, rfl⟩) l0 rfl rfl ?_
      refine m_k1 (v := 0) (pc' := 154) cd_Mo_send rfl (by decide) rfl ?_
      refine m_pI (k := 37) (pc' := 157) cd_Mo_send rfl rfl rfl rfl (by simp [tm_okV, narrow, fits]) rfl rfl ?_
      refine m_ald (pc' := 158) cd_Mo_send rfl (Or.inr ⟨_, rfl, rfl, rfl⟩) l0 rfl rfl ?_
      refine m_ild (pc' := 159) cd_Mo_send rfl (Or.inr ⟨_, rfl, rfl, rfl⟩) l1 rfl ?_
      refine m_ild (pc' := 160) cd_Mo_send rfl (Or.inr ⟨_, rfl, rfl, rfl⟩) l2 rfl ?_
      refine m_ald (pc' := 161) cd_Mo_send rfl (Or.inr ⟨_, rfl, rfl, rfl⟩) l0 rfl rfl ?_
      refine m_k1 (v := 4) (pc' := 162) cd_Mo_send rfl (by decide) rfl ?_
      refine m_k1 (v := 0) (pc' := 163) cd_Mo_send rfl (by decide) rfl ?_
      refine m_k1 (v := 0) (pc' := 164) cd_Mo_send rfl (by decide) rfl ?_
      refine m_k1 (v := 0) (pc' := 165) cd_Mo_send rfl (by decide) rfl ?_
      refine m_k1 (v := 0) (pc' := 166) cd_Mo_send rfl (by decide) rfl ?_
      refine m_ald (pc' := 167) cd_Mo_send rfl (Or.inr ⟨_, rfl, rfl, rfl⟩) l0 rfl rfl ?_
      refine m_fI (k := 32) (x := r1) (pc' := 170) cd_Mo_send rfl rfl rfl rfl rfl rfl ?_
      refine m_k1 (v := 0) (pc' := 171) cd_Mo_send rfl (by decide) rfl ?_
      refine m_ci (pc' := 174) cd_Mo_send rfl rfl rfl rfl rfl cd_Mo_rowOf rfl (Nat.le_of_ble_eq_true rfl) (m_rowOf (by exact MT_i hM1 rfl rfl rfl rfl rfl rfl rfl rfl rfl rfl) (by omega) (by show rc (A1 1) T1.length < 1000; omega) hr1 (MT_z hM1) (fun f2 A2 T2 r2 g2 hx2 hr2 => ?_))
      obtain ⟨p2, q2, s2, hM2⟩ := hx2
      have hM2 : MT f2 A2 T2 _ _ _ := MT_i hM2 rfl rfl rfl rfl rfl rfl rfl rfl rfl rfl
      have s2 : rc (A2 1) T2.length ≤ rc (A1 1) T1.length + 1 := s2
      show mg _ _ _ 174 _ [.int r2, .int (nI p), .int (nI s), .ref 1482] _ _
      refine m_cv (pc' := 177) cd_Mo_send rfl rfl rfl rfl rfl cd_Mo_sends rfl (Nat.le_of_ble_eq_true rfl) (m_sends (m := 0) (by exact MT_i hM2 rfl rfl rfl rfl rfl rfl rfl rfl rfl rfl) (by omega) (show rc (A2 1) T2.length + 1 < 1000 by omega) hp (by exact qSe_c (p1.trans p2) (fun _ _ => rfl) hSe0) kmi hr2 (fun e => nomatch e) (by exact h30) (by decide) (fun f3 A3 T3 r3 p3 q3 s3 hM3 e30 e26 hw3 hse3 he15 => ?_))
      have s3 : rc (A3 1) T3.length ≤ rc (A2 1) T2.length + 1 := s3
      have hM3 : MT f3 A3 T3 _ _ _ := MT_i hM3 rfl rfl rfl rfl rfl rfl rfl rfl rfl rfl
      have pT := (p1.trans p2).trans p3
      have hND : qDv (A3 15) T3 (id, K0, K1, on, lnu, fset se p (ss_sent ((th, ch, nx, le), ba, ro, mi, sd, n, b, br, bp, bo, true) :: lz), me) := by
        refine qDv_ses hp hD pT ⟨⟨?_, hSs.1.2⟩, fun k S hk => ?_⟩ (fun k k1 k2 => he15 k (by omega))
        · rw [he15 _ (by omega)]; exact hSs.1.1
        · rcases k with _ | k
          · cases hk; exact hse3
          · exact qSe_c pT (fun i hi => he15 _ (by have hk2 : k + 1 < 2 := Nat.lt_of_lt_of_le (List.getElem?_eq_some_iff.mp hk).1 hSs.1.2; omega)) (hSs.2 (k + 1) S hk)
      have hwz : (ss_wire ((th, ch, nx, le), ba, ro, mi, sd, n, b, br, bp, bo, true) (nI s) (nI p) (Trw 4 0 0 0 0 (Tsec (nI DL.length) (nI s) 0) tz tz tz)) ≠ tz := fun e => nomatch e
      show mg _ _ _ 177 _ [] _ _
      refine m_ald (pc' := 178) cd_Mo_send rfl (Or.inr ⟨_, rfl, rfl, rfl⟩) l0 rfl rfl ?_
      refine m_ild (pc' := 179) cd_Mo_send rfl (Or.inr ⟨_, rfl, rfl, rfl⟩) l1 rfl ?_
      refine m_ci (pc' := 182) cd_Mo_send rfl rfl rfl rfl rfl cd_Mo_commits rfl (Nat.le_of_ble_eq_true rfl) (m_commits1 (T := T3) (DL := (DL ++ [(nI s, 0)])) (dev := dev) (sto := sto) (ws := ws) (dir := dir) (reg := reg) (seen := seen) (ls := ls) (lo := (wl lo DL.length (([(nI (6 + s), false)] : List (Int32 × Bool)).map fun _ => -1))) (R := (wl dt DL.length (([(nI (6 + s), false)] : List (Int32 × Bool)).map fun _ => ck), wl db DL.length (([(nI (6 + s), false)] : List (Int32 × Bool)).map fun (e : Int32 × Bool) => e.1), wl rt DL.length (([(nI (6 + s), false)] : List (Int32 × Bool)).map fun (e : Int32 × Bool) => bz e.2), fl, ll, tl, tf, tg, tm, ck, fo, du)) (NW := []) (Y := (ss_wire ((th, ch, nx, le), ba, ro, mi, sd, n, b, br, bp, bo, true) (nI s) (nI p) (Trw 4 0 0 0 0 (Tsec (nI DL.length) (nI s) 0) tz tz tz))) (S := (Tsec (nI DL.length) (nI s) 0)) (m := DL.length) (oc := true) (mi := mi) (th := pt th 0) (by exact MT_i hM3 rfl rfl rfl rfl rfl rfl rfl rfl rfl rfl) (by exact RS_p (DL' := (DL ++ [(nI s, 0)])) (ck' := ck) (dir' := dir) (dt' := wl dt DL.length (([(nI (6 + s), false)] : List (Int32 × Bool)).map fun _ => ck)) (db' := wl db DL.length (([(nI (6 + s), false)] : List (Int32 × Bool)).map fun (e : Int32 × Bool) => e.1)) (rt' := wl rt DL.length (([(nI (6 + s), false)] : List (Int32 × Bool)).map fun (e : Int32 × Bool) => bz e.2)) (lo' := (wl lo DL.length (([(nI (6 + s), false)] : List (Int32 × Bool)).map fun _ => -1))) hS pT (by show nI (DL.length + 1) = nI (List.length (DL ++ [(nI s, 0)])); exact congrArg nI (by simp)) h21 ⟨rfl, rfl, rfl, rfl, rfl⟩ ⟨rfl, rfl, rfl, rfl, rfl, rfl, rfl, rfl, rfl, rfl, rfl, rfl, rfl, rfl, rfl, rfl, rfl, rfl, rfl, rfl, rfl, rfl, rfl, rfl, rfl, rfl, rfl⟩ (fun i hi => tv_mono pT (hS.2.1.2.1 i hi)) (by show upd (A 10) _ (f 21) = _; rw [hS.2.2.2.2.1.1, h21]; rfl) (by show upd (A 11) _ _ = _; rw [hS.2.2.2.2.1.2.1]; rfl) (by show upd (A 12) _ _ = _; rw [hS.2.2.2.2.1.2.2]; rfl) (by show upd (A 13) _ _ = _; rw [hS.2.2.1.2]; rfl)) hs eid (by exact hND) hz0 hz1 hen hst (by show f3 30 = _; exact e30) (by simp) (fun i X q => ?_) (fun X q => ?_) (by simp; omega) hls (by exact tv_mono (p2.trans p3) hr1) rfl rfl (by omega) rfl (by exact tv_mono pT a3) (by exact tv_mono (p2.trans p3) hone) (fun hc f4 A4 hM4 e16 hS4 => ?_) (fun hc f4 A4 hM4 e16 hS4 => ?_) (fun hc f4 A4 hM4 e16 hS4 => ?_))
      · skip
        rcases i with _ | i
        · cases q
          show tv T3 (A3 26 0) _
          rw [e26, upd_same]
          exact hw3
        · simp at q
      · skip
        rw [List.mem_singleton.mp q]
        exact hwz
      · skip
        show mg _ _ _ 182 _ [.int 0] _ _
        refine m_if1 (t := 194) (pc' := 185) cd_Mo_send rfl rfl rfl (fun c182 => ?_) (fun c182 => ?_)
        · have c182 : (0 : Int32) = 0 := c182
          refine m_k2 (v := (-4)) (pc' := 196) cd_Mo_send rfl (by decide) rfl ?_
          exact m_reti cd_Mo_send rfl ⟨_, rfl, (k0 hc _ _ _ pT (by omega) (show rc (A3 1) _ ≤ _ by omega) hM4 (Or.inr e16) hS4)⟩
        · exact absurd (show ¬ (0 : Int32) = 0 from c182) (by decide)
      · skip
        show mg _ _ _ 182 _ [.int 0] _ _
        refine m_if1 (t := 194) (pc' := 185) cd_Mo_send rfl rfl rfl (fun c182 => ?_) (fun c182 => ?_)
        · have c182 : (0 : Int32) = 0 := c182
          refine m_k2 (v := (-4)) (pc' := 196) cd_Mo_send rfl (by decide) rfl ?_
          exact m_reti cd_Mo_send rfl ⟨_, rfl, (k1 hc _ _ _ pT (by omega) (show rc (A3 1) _ ≤ _ by omega) hM4 (Or.inr e16) hS4)⟩
        · exact absurd (show ¬ (0 : Int32) = 0 from c182) (by decide)
      · skip
        have hM4 := MT_G hM4 (G' := fun y => G y ∨ y = (ss_wire ((th, ch, nx, le), ba, ro, mi, sd, n, b, br, bp, bo, true) (nI s) (nI p) (Trw 4 0 0 0 0 (Tsec (nI DL.length) (nI s) 0) tz tz tz))) (W' := Kw) (fun y => by rw [List.nil_append, List.mem_singleton]) (fun _ => Iff.rfl)
        rw [List.map_nil, List.append_nil] at hS4
        have hf40 := hS4.2.1.1.1.1
        rw [List.length_append] at hf40
        show mg _ _ _ 182 _ [.int 1] _ _
        refine m_if1 (t := 194) (pc' := 185) cd_Mo_send rfl rfl rfl (fun c182 => ?_) (fun c182 => ?_)
        · exact absurd (show (1 : Int32) = 0 from c182) (by decide)
        · have c182 : ¬ (1 : Int32) = 0 := c182
          refine m_ald (pc' := 186) cd_Mo_send rfl (Or.inr ⟨_, rfl, rfl, rfl⟩) l0 rfl rfl ?_
          refine m_fI (k := 40) (x := (nI (ws.length + 1))) (pc' := 189) cd_Mo_send rfl rfl rfl rfl rfl hf40 ?_
          refine m_k1 (v := 1) (pc' := 190) cd_Mo_send rfl (by decide) rfl ?_
          refine m_pure (pc' := 191) (st' := [.int ((nI (ws.length + 1)) - 1)]) cd_Mo_send rfl rfl (fun _ _ => rfl) ?_
          refine m_eq (show ((nI (ws.length + 1)) - 1 : Int32) = nI ws.length from pk_sub (a := ws.length + 1) (b := 1) (by omega)) ?_
          refine m_pure (pc' := 196) (st' := [.int (nI ws.length)]) cd_Mo_send rfl rfl (fun _ _ => rfl) ?_
          exact m_reti cd_Mo_send rfl ⟨_, rfl, (k2 hc _ _ _ pT (by omega) (show rc (A3 1) _ ≤ _ by omega) hM4 (e16.imp (fun z => z) (fun q => ⟨q.1, q.2 _ (by simp)⟩)) hS4)⟩
  | false =>
    refine m_ald (pc' := 81) cd_Mo_send rfl (Or.inr ⟨_, rfl, rfl, rfl⟩) l0 rfl rfl ?_
    refine m_ald (pc' := 82) cd_Mo_send rfl (Or.inr ⟨_, rfl, rfl, rfl⟩) l0 rfl rfl ?_
    refine m_k2 (v := 6) (pc' := 84) cd_Mo_send rfl (by decide) rfl ?_
    refine m_ild (pc' := 85) cd_Mo_send rfl (Or.inr ⟨_, rfl, rfl, rfl⟩) l1 rfl ?_
    refine m_pure (pc' := 86) (st' := [.int ((6 : Int32) + (nI s)), .ref 1482, .ref 1482]) cd_Mo_send rfl rfl (fun _ _ => rfl) ?_
    refine m_eq (show ((6 : Int32) + (nI s) : Int32) = nI (6 + s) from nI_add 6 s) ?_
    refine m_k1 (v := 0) (pc' := 87) cd_Mo_send rfl (by decide) rfl ?_
    refine m_ci (pc' := 90) cd_Mo_send rfl rfl rfl rfl rfl cd_Mo_drawn rfl (Nat.le_of_ble_eq_true rfl) (m_drawn (rt := false) (xd := (nI s)) (xp := 0) (by exact MT_i hM rfl rfl rfl rfl rfl rfl rfl rfl rfl rfl) (by omega) (by show rc (A 1) T.length < 1000; omega) h11 (by omega) (fun f1 A1 T1 r1 hx1 hr1 => ?_))
    obtain ⟨p1, q1, s1, hM1⟩ := hx1
    have hM1 : MT f1 A1 T1 _ _ _ := MT_i hM1 rfl rfl rfl rfl rfl rfl rfl rfl rfl rfl
    have s1 : rc (A1 1) T1.length ≤ rc (A 1) T.length + 0 := s1
    show mg _ _ _ 90 _ [.int r1, .ref 1482] _ _
    refine m_pI (k := 32) (pc' := 93) cd_Mo_send rfl rfl rfl rfl (by simp [tm_okV, narrow, fits]) rfl rfl ?_
    refine m_ald (pc' := 94) cd_Mo_send rfl (Or.inr ⟨_, rfl, rfl, rfl⟩) l0 rfl rfl ?_
    refine m_ild (pc' := 95) cd_Mo_send rfl (Or.inr ⟨_, rfl, rfl, rfl⟩) l2 rfl ?_
    refine m_pI (k := 33) (pc' := 98) cd_Mo_send rfl rfl rfl rfl (by simp [tm_okV, narrow, fits]) rfl rfl ?_
    refine m_ald (pc' := 99) cd_Mo_send rfl (Or.inr ⟨_, rfl, rfl, rfl⟩) l0 rfl rfl ?_
    refine m_ald (pc' := 100) cd_Mo_send rfl (Or.inr ⟨_, rfl, rfl, rfl⟩) l0 rfl rfl ?_
    refine m_fR (r := 14) (a := 15) (ad := 1497) (pc' := 103) rfl rfl cd_Mo_send rfl rfl rfl rfl rfl ?_
    refine m_ild (pc' := 105) cd_Mo_send rfl (Or.inl ⟨rfl, rfl⟩) l4 rfl ?_
    refine m_k2 (v := 37) (pc' := 107) cd_Mo_send rfl (by decide) rfl ?_
    refine m_pure (pc' := 108) (st' := [.int ((nI (30 + (2 * p + 0) * 38)) + 37), .ref 1497, .ref 1482]) cd_Mo_send rfl rfl (fun _ _ => rfl) ?_
    refine m_eq (show ((nI (30 + (2 * p + 0) * 38)) + 37 : Int32) = nI ((30 + (2 * p + 0) * 38) + 37) from nI_add (30 + (2 * p + 0) * 38) 37) ?_
    refine m_aI (r := 14) (a := 15) (g := (A 15)) (x := 0) (pc' := 109) rfl rfl cd_Mo_send rfl rfl rfl (vp_in_nI (by omega) (by decide)) ((congrArg (A 15) (nI_clamp (by omega))).trans a37) ?_
    refine m_k1 (v := 1) (pc' := 110) cd_Mo_send rfl (by decide) rfl ?_
    refine m_if2 (t := 117) (pc' := 113) cd_Mo_send rfl rfl rfl (fun c110 => ?_) (fun c110 => ?_)
    · have c110 : ¬ (0 : Int32) = 1 := c110
      refine m_k1 (v := 0) (pc' := 118) cd_Mo_send rfl (by decide) rfl ?_
      refine m_pI (k := 34) (pc' := 121) cd_Mo_send rfl rfl rfl rfl (by decide) rfl rfl ?_
      refine m_ald (pc' := 122) cd_Mo_send rfl (Or.inr ⟨_, rfl, rfl, rfl⟩) l0 rfl rfl ?_
      refine m_ald (pc' := 123) cd_Mo_send rfl (Or.inr ⟨_, rfl, rfl, rfl⟩) l0 rfl rfl ?_
      refine m_fR (r := 14) (a := 15) (ad := 1497) (pc' := 126) rfl rfl cd_Mo_send rfl rfl rfl rfl rfl ?_
      refine m_ild (pc' := 128) cd_Mo_send rfl (Or.inl ⟨rfl, rfl⟩) l4 rfl ?_
      refine m_k1 (v := 2) (pc' := 129) cd_Mo_send rfl (by decide) rfl ?_
      refine m_pure (pc' := 130) (st' := [.int ((nI (30 + (2 * p + 0) * 38)) + 2), .ref 1497, .ref 1482]) cd_Mo_send rfl rfl (fun _ _ => rfl) ?_
      refine m_eq (show ((nI (30 + (2 * p + 0) * 38)) + 2 : Int32) = nI ((30 + (2 * p + 0) * 38) + 2) from nI_add (30 + (2 * p + 0) * 38) 2) ?_
      refine m_aI (r := 14) (a := 15) (g := (A 15)) (x := ((A 15) ((30 + (2 * p + 0) * 38) + 2))) (pc' := 131) rfl rfl cd_Mo_send rfl rfl rfl (vp_in_nI (by omega) (by decide)) (congrArg (A 15) (nI_clamp (by omega))) ?_
      refine m_pI (k := 35) (pc' := 134) cd_Mo_send rfl rfl rfl rfl (by simp [tm_okV, narrow, fits]) rfl rfl ?_
      refine m_ald (pc' := 135) cd_Mo_send rfl (Or.inr ⟨_, rfl, rfl, rfl⟩) l0 rfl rfl ?_
      refine m_ald (pc' := 136) cd_Mo_send rfl (Or.inr ⟨_, rfl, rfl, rfl⟩) l0 rfl rfl ?_
      refine m_fR (r := 1) (a := 2) (ad := 1484) (pc' := 139) rfl rfl cd_Mo_send rfl rfl rfl rfl rfl ?_
      refine m_ald (pc' := 140) cd_Mo_send rfl (Or.inr ⟨_, rfl, rfl, rfl⟩) l0 rfl rfl ?_
      refine m_fR (r := 14) (a := 15) (ad := 1497) (pc' := 143) rfl rfl cd_Mo_send rfl rfl rfl rfl rfl ?_
      refine m_ild (pc' := 145) cd_Mo_send rfl (Or.inl ⟨rfl, rfl⟩) l4 rfl ?_
      refine m_k1 (v := 3) (pc' := 146) cd_Mo_send rfl (by decide) rfl ?_
      refine m_pure (pc' := 147) (st' := [.int ((nI (30 + (2 * p + 0) * 38)) + 3), .ref 1497, .ref 1484, .ref 1482]) cd_Mo_send rfl rfl (fun _ _ => rfl) ?_
      refine m_eq (show ((nI (30 + (2 * p + 0) * 38)) + 3 : Int32) = nI ((30 + (2 * p + 0) * 38) + 3) from nI_add (30 + (2 * p + 0) * 38) 3) ?_
      refine m_aI (r := 14) (a := 15) (g := (A 15)) (x := (nI it)) (pc' := 148) rfl rfl cd_Mo_send rfl rfl rfl (vp_in_nI (by omega) (by decide)) ((congrArg (A 15) (nI_clamp (by omega))).trans et) ?_
      have hone := MT_one hM1 (pfx_get p1 hit) (Or.inl kth)
      refine m_aI (r := 1) (a := 2) (g := (A1 2)) (x := ((A1 2) it)) (pc' := 149) rfl rfl cd_Mo_send rfl rfl rfl (vp_in_nI (by omega) (by decide)) (congrArg (A1 2) (nI_clamp (by omega))) ?_
      refine m_pI (k := 36) (pc' := 152) cd_Mo_send rfl rfl rfl rfl (by simp [tm_okV, narrow, fits]) rfl rfl ?_
      refine m_ald (pc' := 153) cd_Mo_send rfl (Or.inr ⟨_, rfl, rfl, rfl⟩) l0 rfl rfl ?_
      refine m_k1 (v := 0) (pc' := 154) cd_Mo_send rfl (by decide) rfl ?_
      refine m_pI (k := 37) (pc' := 157) cd_Mo_send rfl rfl rfl rfl (by simp [tm_okV, narrow, fits]) rfl rfl ?_
      refine m_ald (pc' := 158) cd_Mo_send rfl (Or.inr ⟨_, rfl, rfl, rfl⟩) l0 rfl rfl ?_
      refine m_ild (pc' := 159) cd_Mo_send rfl (Or.inr ⟨_, rfl, rfl, rfl⟩) l1 rfl ?_
      refine m_ild (pc' := 160) cd_Mo_send rfl (Or.inr ⟨_, rfl, rfl, rfl⟩) l2 rfl ?_
      refine m_ald (pc' := 161) cd_Mo_send rfl (Or.inr ⟨_, rfl, rfl, rfl⟩) l0 rfl rfl ?_
      refine m_k1 (v := 4) (pc' := 162) cd_Mo_send rfl (by decide) rfl ?_
      refine m_k1 (v := 0) (pc' := 163) cd_Mo_send rfl (by decide) rfl ?_
      refine m_k1 (v := 0) (pc' := 164) cd_Mo_send rfl (by decide) rfl ?_
      refine m_k1 (v := 0) (pc' := 165) cd_Mo_send rfl (by decide) rfl ?_
      refine m_k1 (v := 0) (pc' := 166) cd_Mo_send rfl (by decide) rfl ?_
      refine m_ald (pc' := 167) cd_Mo_send rfl (Or.inr ⟨_, rfl, rfl, rfl⟩) l0 rfl rfl ?_
      refine m_fI (k := 32) (x := r1) (pc' := 170) cd_Mo_send rfl rfl rfl rfl rfl rfl ?_
      refine m_k1 (v := 0) (pc' := 171) cd_Mo_send rfl (by decide) rfl ?_
      refine m_ci (pc' := 174) cd_Mo_send rfl rfl rfl rfl rfl cd_Mo_rowOf rfl (Nat.le_of_ble_eq_true rfl) (m_rowOf (by exact MT_i hM1 rfl rfl rfl rfl rfl rfl rfl rfl rfl rfl) (by omega) (by show rc (A1 1) T1.length < 1000; omega) hr1 (MT_z hM1) (fun f2 A2 T2 r2 g2 hx2 hr2 => ?_))
      obtain ⟨p2, q2, s2, hM2⟩ := hx2
      have hM2 : MT f2 A2 T2 _ _ _ := MT_i hM2 rfl rfl rfl rfl rfl rfl rfl rfl rfl rfl
      have s2 : rc (A2 1) T2.length ≤ rc (A1 1) T1.length + 1 := s2
      show mg _ _ _ 174 _ [.int r2, .int (nI p), .int (nI s), .ref 1482] _ _
      refine m_cv (pc' := 177) cd_Mo_send rfl rfl rfl rfl rfl cd_Mo_sends rfl (Nat.le_of_ble_eq_true rfl) (m_sends (m := 0) (by exact MT_i hM2 rfl rfl rfl rfl rfl rfl rfl rfl rfl rfl) (by omega) (show rc (A2 1) T2.length + 1 < 1000 by omega) hp (by exact qSe_c (p1.trans p2) (fun _ _ => rfl) hSe0) kmi hr2 (fun e => nomatch e) (by exact h30) (by decide) (fun f3 A3 T3 r3 p3 q3 s3 hM3 e30 e26 hw3 hse3 he15 => ?_))
      have s3 : rc (A3 1) T3.length ≤ rc (A2 1) T2.length + 1 := s3
      have hM3 : MT f3 A3 T3 _ _ _ := MT_i hM3 rfl rfl rfl rfl rfl rfl rfl rfl rfl rfl
      have pT := (p1.trans p2).trans p3
      have hND : qDv (A3 15) T3 (id, K0, K1, on, lnu, fset se p (ss_sent ((th, ch, nx, le), ba, ro, mi, sd, n, b, br, bp, bo, false) :: lz), me) := by
        refine qDv_ses hp hD pT ⟨⟨?_, hSs.1.2⟩, fun k S hk => ?_⟩ (fun k k1 k2 => he15 k (by omega))
        · rw [he15 _ (by omega)]; exact hSs.1.1
        · rcases k with _ | k
          · cases hk; exact hse3
          · exact qSe_c pT (fun i hi => he15 _ (by have hk2 : k + 1 < 2 := Nat.lt_of_lt_of_le (List.getElem?_eq_some_iff.mp hk).1 hSs.1.2; omega)) (hSs.2 (k + 1) S hk)
      have hwz : (ss_wire ((th, ch, nx, le), ba, ro, mi, sd, n, b, br, bp, bo, false) (nI s) (nI p) (Trw 4 0 0 0 0 (Tsec (nI DL.length) (nI s) 0) tz tz tz)) ≠ tz := fun e => nomatch e
      show mg _ _ _ 177 _ [] _ _
      refine m_ald (pc' := 178) cd_Mo_send rfl (Or.inr ⟨_, rfl, rfl, rfl⟩) l0 rfl rfl ?_
      refine m_ild (pc' := 179) cd_Mo_send rfl (Or.inr ⟨_, rfl, rfl, rfl⟩) l1 rfl ?_
      refine m_ci (pc' := 182) cd_Mo_send rfl rfl rfl rfl rfl cd_Mo_commits rfl (Nat.le_of_ble_eq_true rfl) (m_commits1 (T := T3) (DL := (DL ++ [(nI s, 0)])) (dev := dev) (sto := sto) (ws := ws) (dir := dir) (reg := reg) (seen := seen) (ls := ls) (lo := (wl lo DL.length (([(nI (6 + s), false)] : List (Int32 × Bool)).map fun _ => -1))) (R := (wl dt DL.length (([(nI (6 + s), false)] : List (Int32 × Bool)).map fun _ => ck), wl db DL.length (([(nI (6 + s), false)] : List (Int32 × Bool)).map fun (e : Int32 × Bool) => e.1), wl rt DL.length (([(nI (6 + s), false)] : List (Int32 × Bool)).map fun (e : Int32 × Bool) => bz e.2), fl, ll, tl, tf, tg, tm, ck, fo, du)) (NW := []) (Y := (ss_wire ((th, ch, nx, le), ba, ro, mi, sd, n, b, br, bp, bo, false) (nI s) (nI p) (Trw 4 0 0 0 0 (Tsec (nI DL.length) (nI s) 0) tz tz tz))) (S := (Tsec (nI DL.length) (nI s) 0)) (m := DL.length) (oc := false) (mi := mi) (th := pt th 0) (by exact MT_i hM3 rfl rfl rfl rfl rfl rfl rfl rfl rfl rfl) (by exact RS_p (DL' := (DL ++ [(nI s, 0)])) (ck' := ck) (dir' := dir) (dt' := wl dt DL.length (([(nI (6 + s), false)] : List (Int32 × Bool)).map fun _ => ck)) (db' := wl db DL.length (([(nI (6 + s), false)] : List (Int32 × Bool)).map fun (e : Int32 × Bool) => e.1)) (rt' := wl rt DL.length (([(nI (6 + s), false)] : List (Int32 × Bool)).map fun (e : Int32 × Bool) => bz e.2)) (lo' := (wl lo DL.length (([(nI (6 + s), false)] : List (Int32 × Bool)).map fun _ => -1))) hS pT (by show nI (DL.length + 1) = nI (List.length (DL ++ [(nI s, 0)])); exact congrArg nI (by simp)) h21 ⟨rfl, rfl, rfl, rfl, rfl⟩ ⟨rfl, rfl, rfl, rfl, rfl, rfl, rfl, rfl, rfl, rfl, rfl, rfl, rfl, rfl, rfl, rfl, rfl, rfl, rfl, rfl, rfl, rfl, rfl, rfl, rfl, rfl, rfl⟩ (fun i hi => tv_mono pT (hS.2.1.2.1 i hi)) (by show upd (A 10) _ (f 21) = _; rw [hS.2.2.2.2.1.1, h21]; rfl) (by show upd (A 11) _ _ = _; rw [hS.2.2.2.2.1.2.1]; rfl) (by show upd (A 12) _ _ = _; rw [hS.2.2.2.2.1.2.2]; rfl) (by show upd (A 13) _ _ = _; rw [hS.2.2.1.2]; rfl)) hs eid (by exact hND) hz0 hz1 hen hst (by show f3 30 = _; exact e30) (by simp) (fun i X q => ?_) (fun X q => ?_) (by simp; omega) hls (by exact tv_mono (p2.trans p3) hr1) rfl rfl (by omega) rfl (by exact tv_mono pT a3) (by exact tv_mono (p2.trans p3) hone) (fun hc f4 A4 hM4 e16 hS4 => ?_) (fun hc f4 A4 hM4 e16 hS4 => ?_) (fun hc f4 A4 hM4 e16 hS4 => ?_))
      · skip
        rcases i with _ | i
        · cases q
          show tv T3 (A3 26 0) _
          rw [e26, upd_same]
          exact hw3
        · simp at q
      · skip
        rw [List.mem_singleton.mp q]
        exact hwz
      · skip
        show mg _ _ _ 182 _ [.int 0] _ _
        refine m_if1 (t := 194) (pc' := 185) cd_Mo_send rfl rfl rfl (fun c182 => ?_) (fun c182 => ?_)
        · have c182 : (0 : Int32) = 0 := c182
          refine m_k2 (v := (-4)) (pc' := 196) cd_Mo_send rfl (by decide) rfl ?_
          exact m_reti cd_Mo_send rfl ⟨_, rfl, (k0 hc _ _ _ pT (by omega) (show rc (A3 1) _ ≤ _ by omega) hM4 (Or.inr e16) hS4)⟩
        · exact absurd (show ¬ (0 : Int32) = 0 from c182) (by decide)
      · skip
        show mg _ _ _ 182 _ [.int 0] _ _
        refine m_if1 (t := 194) (pc' := 185) cd_Mo_send rfl rfl rfl (fun c182 => ?_) (fun c182 => ?_)
        · have c182 : (0 : Int32) = 0 := c182
          refine m_k2 (v := (-4)) (pc' := 196) cd_Mo_send rfl (by decide) rfl ?_
          exact m_reti cd_Mo_send rfl ⟨_, rfl, (k1 hc _ _ _ pT (by omega) (show rc (A3 1) _ ≤ _ by omega) hM4 (Or.inr e16) hS4)⟩
        · exact absurd (show ¬ (0 : Int32) = 0 from c182) (by decide)
      · skip
        have hM4 := MT_G hM4 (G' := fun y => G y ∨ y = (ss_wire ((th, ch, nx, le), ba, ro, mi, sd, n, b, br, bp, bo, false) (nI s) (nI p) (Trw 4 0 0 0 0 (Tsec (nI DL.length) (nI s) 0) tz tz tz))) (W' := Kw) (fun y => by rw [List.nil_append, List.mem_singleton]) (fun _ => Iff.rfl)
        rw [List.map_nil, List.append_nil] at hS4
        have hf40 := hS4.2.1.1.1.1
        rw [List.length_append] at hf40
        show mg _ _ _ 182 _ [.int 1] _ _
        refine m_if1 (t := 194) (pc' := 185) cd_Mo_send rfl rfl rfl (fun c182 => ?_) (fun c182 => ?_)
        · exact absurd (show (1 : Int32) = 0 from c182) (by decide)
        · have c182 : ¬ (1 : Int32) = 0 := c182
          refine m_ald (pc' := 186) cd_Mo_send rfl (Or.inr ⟨_, rfl, rfl, rfl⟩) l0 rfl rfl ?_
          refine m_fI (k := 40) (x := (nI (ws.length + 1))) (pc' := 189) cd_Mo_send rfl rfl rfl rfl rfl hf40 ?_
          refine m_k1 (v := 1) (pc' := 190) cd_Mo_send rfl (by decide) rfl ?_
          refine m_pure (pc' := 191) (st' := [.int ((nI (ws.length + 1)) - 1)]) cd_Mo_send rfl rfl (fun _ _ => rfl) ?_
          refine m_eq (show ((nI (ws.length + 1)) - 1 : Int32) = nI ws.length from pk_sub (a := ws.length + 1) (b := 1) (by omega)) ?_
          refine m_pure (pc' := 196) (st' := [.int (nI ws.length)]) cd_Mo_send rfl rfl (fun _ _ => rfl) ?_
          exact m_reti cd_Mo_send rfl ⟨_, rfl, (k2 hc _ _ _ pT (by omega) (show rc (A3 1) _ ≤ _ by omega) hM4 (e16.imp (fun z => z) (fun q => ⟨q.1, q.2 _ (by simp)⟩)) hS4)⟩
    · exact absurd (show ¬ (¬ (0 : Int32) = 1) from c110) (by decide)
