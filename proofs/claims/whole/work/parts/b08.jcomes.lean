/-! The joint contracts: deliver, inject -/
theorem fs_ne {se : Nat → List SS} {p r : Nat} {S : SS} {l : List SS} (h : (fset se p (S :: l) r).length = 0) : (se r).length = 0 := by
  by_cases c : r = p
  · rw [c, fset_same] at h; simp at h
  · rw [fset_ne c] at h; exact h
theorem ts_go_keep {id : Tm} {K0 K1 : PK} {on : List (Tm × Int32)} {lnu : Int32} {se : Nat → List SS} {me : Nat → MM} {p : Nat} {A : Tm} {k : Nat} {S : SS} : (ts_go (id, K0, K1, on, lnu, se, me) p A k S).2.1.1 = id ∧ ∀ r, (dse (ts_go (id, K0, K1, on, lnu, se, me) p A k S).2.1 r).length = 0 → (se r).length = 0 := by
  unfold ts_go
  dsimp only
  cases hk : ss_key S (pt A 1) with
  | none => exact ⟨rfl, fun _ h => h⟩
  | some r =>
    obtain ⟨K, S1⟩ := r
    dsimp only
    by_cases c : K = pt A 0
    · rw [cif_t c]
      split
      · exact ⟨rfl, fun r h => fs_ne h⟩
      · split
        · exact ⟨rfl, fun r h => fs_ne h⟩
        · exact ⟨rfl, fun _ h => h⟩
    · rw [cif_f c]; exact ⟨rfl, fun _ h => h⟩
theorem as_keep {id : Tm} {K0 K1 : PK} {on : List (Tm × Int32)} {lnu : Int32} {se : Nat → List SS} {me : Nat → MM} {p : Nat} {ids : Nat → Tm} {H : Tm} {D' : DV} (h : as_spec (id, K0, K1, on, lnu, se, me) ids p H = some D') : ∃ K0' K1' on' S, D' = (id, K0', K1', on', lnu, fset se p (S :: (se p).take 1), me) := by
  unfold as_spec at h
  dsimp only at h
  cases hb : pk_find K0 K1 (pt H 2) with
  | none => rw [hb] at h; cases h
  | some b =>
    rw [hb] at h
    dsimp only at h
    by_cases c3 : pt H 3 = tz
    · rw [cif_t c3] at h
      by_cases c4 : pt H 0 ∈ (pk_of K0 K1 b).2.2 ∨ 4 ≤ (pk_of K0 K1 b).2.2.length
      · rw [cif_t c4] at h; cases h
      · rw [cif_f c4] at h
        exact ⟨_, _, _, _, (Option.some.inj h).symm⟩
    · rw [cif_f c3] at h
      cases hi : on_find (pt H 3) on with
      | none => rw [hi] at h; cases h
      | some i =>
        rw [hi] at h
        exact ⟨_, _, _, _, (Option.some.inj h).symm⟩
theorem ar_keep (D : DV) (ids : Nat → Tm) (q : Nat) (A : Tm) : (ar_spec D ids q A).2.1.1 = D.1 ∧ ∀ r, (dse (ar_spec D ids q A).2.1 r).length = 0 → (dse D r).length = 0 := by
  obtain ⟨id, K0, K1, on, lnu, se, me⟩ := D
  unfold ar_spec
  dsimp only
  by_cases c3 : tm_form A = 3
  · rw [if_pos c3]
    dsimp only
    unfold ts_spec
    split
    · dsimp only
      cases hf : ss_find (se (nu (pt A 1) 0).toNatClampNeg) (pt (pt A 1) 0) with
      | some r =>
        obtain ⟨k, S⟩ := r
        exact ts_go_keep
      | none =>
        dsimp only
        cases ha : as_spec (id, K0, K1, on, lnu, se, me) ids (nu (pt A 1) 0).toNatClampNeg (pt A 1) with
        | none => exact ⟨rfl, fun _ h => h⟩
        | some D' =>
          obtain ⟨K0', K1', on', S, rfl⟩ := as_keep ha
          dsimp only
          rw [fset_same]
          dsimp only
          obtain ⟨r1, r2⟩ := ts_go_keep (id := id) (K0 := K0') (K1 := K1') (on := on') (lnu := lnu) (se := fset se (nu (pt A 1) 0).toNatClampNeg (S :: (se (nu (pt A 1) 0).toNatClampNeg).take 1)) (me := me) (p := (nu (pt A 1) 0).toNatClampNeg) (A := A) (k := 0) (S := S)
          exact ⟨r1, fun r h => fs_ne (r2 r h)⟩
    · exact ⟨rfl, fun _ h => h⟩
  · rw [if_neg c3]
    by_cases c6 : tm_form A = 6
    · rw [if_pos c6]
      by_cases ct : tl_ok A q (nu (pt A 1) 0).toNatClampNeg (ids (nu (pt A 1) 0).toNatClampNeg) (me (nu (pt A 1) 0).toNatClampNeg)
      · rw [cif_t ct]; exact ⟨rfl, fun _ h => h⟩
      · rw [cif_f ct]; exact ⟨rfl, fun _ h => h⟩
    · rw [if_neg c6]
      split
      · exact ⟨rfl, fun _ h => h⟩
      · exact ⟨rfl, fun _ h => h⟩
theorem MT_pt1 {f : Nat → Int32} {A : Nat → Nat → Int32} {T : List Tm} {DL : List (Int32 × Int32)} {G W : Tm → Prop} (hM : MT f A T DL G W) {X : Tm} (hX : X ∈ T) : pt X 1 ∈ T := by
  have hz : tz ∈ T := List.mem_of_getElem? hM.1.2.2.1.1
  by_cases c : X = tz
  · rw [c]; exact hz
  · obtain ⟨i, hi⟩ := List.getElem?_of_mem hX
    rcases MT_can hM (MT_pos hM hi c) hi with ⟨-, -, h⟩ | ⟨-, P, -, -, rfl⟩ | ⟨-, P, R, -, ⟨p, -, -, h⟩, -, -, rfl⟩ | ⟨-, n, P, R, -, ⟨p, -, -, h⟩, rfl⟩ | ⟨-, P, R, S, -, ⟨⟨p, -, -, h⟩, -⟩, -, rfl⟩ | ⟨-, P, R, -, ⟨⟨p, -, -, h⟩, -⟩, rfl⟩ | ⟨-, n, n0, n1, n2, n3, P0, P1, P2, P3, -, ⟨p, -, -, h⟩, -, -, rfl⟩
    · rw [h 1]; exact hz
    · exact hz
    · exact List.mem_of_getElem? h
    · exact List.mem_of_getElem? h
    · exact List.mem_of_getElem? h
    · exact List.mem_of_getElem? h
    · exact List.mem_of_getElem? h
theorem MT_kd2 {f : Nat → Int32} {A : Nat → Nat → Int32} {T : List Tm} {DL : List (Int32 × Int32)} {G W : Tm → Prop} (hM : MT f A T DL G W) {X : Tm} (hX : X ∈ T) (h : kd X = 2) : kd (pt X 0) = 1 := by
  obtain ⟨i, hi⟩ := List.getElem?_of_mem hX
  rcases MT_can hM (MT_pos hM hi (kd2_nz h)) hi with ⟨-, k, -⟩ | ⟨-, P, -, k, rfl⟩ | ⟨-, P, R, -, -, -, -, rfl⟩ | ⟨-, n, P, R, -, -, rfl⟩ | ⟨-, P, R, S, -, -, -, rfl⟩ | ⟨-, P, R, -, -, rfl⟩ | ⟨-, n, n0, n1, n2, n3, P0, P1, P2, P3, -, -, -, -, rfl⟩
  · exact absurd (k.symm.trans h) (by decide)
  · exact k
  · exact absurd h (show ¬ (3 : Int32) = 2 by decide)
  · exact absurd h (show ¬ (4 : Int32) = 2 by decide)
  · exact absurd h (show ¬ (5 : Int32) = 2 by decide)
  · exact absurd h (show ¬ (6 : Int32) = 2 by decide)
  · exact absurd h (show ¬ (7 : Int32) = 2 by decide)
theorem hl_mem {f : Nat → Int32} {A : Nat → Nat → Int32} {T : List Tm} {DL : List (Int32 × Int32)} {G W : Tm → Prop} {reg : Nat → Tm} {y : Int32} {X : Tm} (hM : MT f A T DL G W) (h : ∀ i, i < 32 → tv T (A 45 i) (reg i)) (e : hl reg y = X) : X ∈ T := by
  unfold hl at e
  split at e
  · rename_i c
    rw [← e]
    refine tv_memb (h _ ?_)
    unfold inR at c
    simp at c
    obtain ⟨j, hj, rfl⟩ := nI_of (Int32.not_lt.mpr c.1)
    rw [nI_clamp hj]
    exact (nI_ltI (b := 32) hj (by decide)).mp c.2
  · rw [← e]; exact List.mem_of_getElem? hM.1.2.2.1.1
theorem st_rt {f : Nat → Int32} {G Kw : Tm → Prop} {ls : List RL} {lo : Nat → Int32} {q : Nat} {g : Int32} {S : Tm} {oc : Bool} {ck : Int32} (h : f 16 = 0 → ∀ e, e ∈ ls → Kn G e.1 → Kw e.1) : f 16 = 0 → ∀ e, e ∈ rt_ls ls lo q g S oc ck → Kn G e.1 → Kw e.1 := by
  intro z e he
  unfold rt_ls at he
  cases hr : rt_e ls lo S with
  | none => rw [hr] at he; exact h z e he
  | some x =>
    rw [hr] at he
    dsimp only at he
    split at he
    · rcases List.mem_or_eq_of_mem_set he with q | q
      · exact h z e q
      · have hx : x ∈ ls := by
          unfold rt_e at hr
          split at hr
          · cases hr
          · exact List.mem_of_getElem? hr
        rw [q]
        obtain ⟨a1, a2, a3, a4, a5, a6, a7, a8, a9⟩ := x
        have r := h z (a1, a2, a3, a4, a5, a6, a7, a8, a9) hx
        exact r
    · exact h z e he
theorem lk_taken {L : List LT} {bd ll tc tl tf tg : Nat → Int32} {cf cg : Int32} {ct : Tm} {co : Bool} {li fo db : Int32} {p : Nat} {T : List Tm} {ln : Nat} (h : ∀ (i : Nat) (e : LT), L[i]? = some e → ∃ u, u < ln ∧ T[u]? = some e.1) : ∀ (i : Nat) (e : LT), (lg_taken (L, bd, ll, tc, tl, tf, tg, cf, cg, ct, co, li, fo, db) p).1[i]? = some e → ∃ u, u < ln ∧ T[u]? = some e.1 := by
  intro i e he
  unfold lg_taken at he
  dsimp only at he
  cases hg : lg_get L (lg_with bd ct) with
  | none => rw [hg] at he; exact h i e he
  | some x =>
    rw [hg] at he
    dsimp only at he
    have hx : x ∈ L := by
      unfold lg_get at hg
      split at hg
      · exact List.mem_of_getElem? hg
      · cases hg
    obtain ⟨j, hj⟩ := List.getElem?_of_mem hx
    rcases List.mem_or_eq_of_mem_set (List.mem_of_getElem? he) with q | q
    · obtain ⟨k, hk⟩ := List.getElem?_of_mem q
      exact h k e hk
    · rw [q]
      obtain ⟨a1, a2, a3, a4, a5, a6, a7, a8, a9, a10⟩ := x
      have r := h j (a1, a2, a3, a4, a5, a6, a7, a8, a9, a10) hj
      exact r
set_option maxRecDepth 100000 in
theorem P_deliver {sc : tm_X} {d N S n : Nat} {B : bm_H} {DL : List (Int32 × Int32)} {dev : Nat → DV} {sto : Nat → ST} {ws : List (Tm × Int32)} {dir reg : Nat → Tm} {seen : List Tm} {G : Tm → Prop} {ls : List RL} {lo dt db rt fl ll tl tf tg tm : Nat → Int32} {ck fo du : Int32} {Lc : List LT} {bdc llc tcc tlc tfc tgc : Nat → Int32} {cfc cgc : Int32} {ctc : Tm} {coc : Bool} {lic foc dbc : Int32} {id : Tm} {K0 K1 : PK} {on : List (Tm × Int32)} {lnu : Int32} {se : Nat → List SS} {me : Nat → MM} {p0 : Bool} {P : EN2} {c : Option Nat} {q : Nat} {X : Tm} {ids : Nat → Tm} {wi : Nat} {lw : Int32} {Q : Int32 → Int32 → bm_H → Prop} (hJ : J N S n B DL dev sto ws dir reg seen G (Lc, bdc, llc, tcc, tlc, tfc, tgc, cfc, cgc, ctc, coc, lic, foc, dbc) ls lo (dt, db, rt, fl, ll, tl, tf, tg, tm, ck, fo, du)) (hn : n < 64) (hdl : DL.length ≤ 2900) (hws : ws.length ≤ 692) (hq : q < 6) (eids : ids = fun q => (dev q).1) (kid : ∀ q, q < 6 → kd (ids q) = 1) (he : ws[wi]? = some (X, lw)) (hlo : ∀ m, m < DL.length → lo m = -1 ∨ ∃ i e, ls[i]? = some e ∧ lo m = nI i) (eD : dev q = (id, K0, K1, on, lnu, se, me)) (hst : sto q = (p0, P, [], c, false)) (hD : DVI q n (dev q)) (kN : (ar_spec (id, K0, K1, on, lnu, se, me) ids q X).1 < 0 → ∀ (xf xg : Int32) (xt : Tm) (xo : Bool) B2, J N S (n + 1) B2 DL dev sto ws dir reg seen G (Lc, bdc, llc, tcc, tlc, tfc, tgc, xf, xg, xt, xo, lic, foc, dbc) ls lo (dt, db, rt, fl, ll, tl, tf, tg, tm, ck + 1, fo, du) → Q (ar_spec (id, K0, K1, on, lnu, se, me) ids q X).1 (ar_spec (id, K0, K1, on, lnu, se, me) ids q X).1 B2) (k0 : 0 ≤ (ar_spec (id, K0, K1, on, lnu, se, me) ids q X).1 → (st_commit p0 P c (dv_en (ar_spec (id, K0, K1, on, lnu, se, me) ids q X).2.1)).1 = 0 → ∀ (xf xg : Int32) (xt : Tm) (xo : Bool) B2, J N S (n + 1) B2 DL dev (fset sto q (st_commit p0 P c (dv_en (ar_spec (id, K0, K1, on, lnu, se, me) ids q X).2.1)).2) ws dir reg seen G (Lc, bdc, llc, tcc, tlc, tfc, tgc, xf, xg, xt, xo, lic, foc, dbc) ls lo (dt, db, rt, fl, ll, tl, tf, tg, tm, ck + 1, fo, du) → Q (-4) (-4) B2) (k1 : 0 ≤ (ar_spec (id, K0, K1, on, lnu, se, me) ids q X).1 → (st_commit p0 P c (dv_en (ar_spec (id, K0, K1, on, lnu, se, me) ids q X).2.1)).1 = 1 → ∀ (xf xg : Int32) (xt : Tm) (xo : Bool) B2, J N S (n + 1) B2 DL (fset dev q (ar_spec (id, K0, K1, on, lnu, se, me) ids q X).2.1) (fset sto q (st_commit p0 P c (dv_en (ar_spec (id, K0, K1, on, lnu, se, me) ids q X).2.1)).2) ws dir reg seen G (Lc, bdc, llc, tcc, tlc, tfc, tgc, xf, xg, xt, xo, lic, foc, dbc) ls lo (dt, db, rt, fl, ll, tl, tf, tg, tm, ck + 1, fo, du) → Q (-4) (-4) B2) (k2 : 0 ≤ (ar_spec (id, K0, K1, on, lnu, se, me) ids q X).1 → (ar_spec (id, K0, K1, on, lnu, se, me) ids q X).1 ≠ 1 → (st_commit p0 P c (dv_en (ar_spec (id, K0, K1, on, lnu, se, me) ids q X).2.1)).1 = 2 → ∀ B2, J N S (n + 1) B2 DL (fset dev q (ar_spec (id, K0, K1, on, lnu, se, me) ids q X).2.1) (fset sto q (st_commit p0 P c (dv_en (ar_spec (id, K0, K1, on, lnu, se, me) ids q X).2.1)).2) ws dir reg seen G (Lc, bdc, llc, tcc, tlc, tfc, tgc, cfc, cgc, ctc, coc, lic, foc, dbc) ls lo (dt, db, rt, fl, ll, tl, tf, tg, tm, ck + 1, fo, du) → Q (ar_spec (id, K0, K1, on, lnu, se, me) ids q X).1 (ar_spec (id, K0, K1, on, lnu, se, me) ids q X).1 B2) (k3 : (ar_spec (id, K0, K1, on, lnu, se, me) ids q X).1 = 1 → (st_commit p0 P c (dv_en (ar_spec (id, K0, K1, on, lnu, se, me) ids q X).2.1)).1 = 2 → ∀ B2, J N S (n + 1) B2 DL (fset dev q (ar_spec (id, K0, K1, on, lnu, se, me) ids q X).2.1) (fset sto q (st_commit p0 P c (dv_en (ar_spec (id, K0, K1, on, lnu, se, me) ids q X).2.1)).2) ws dir reg seen G (lg_taken (Lc, bdc, llc, tcc, tlc, tfc, tgc, (ar_spec (id, K0, K1, on, lnu, se, me) ids q X).2.2.1, (ar_spec (id, K0, K1, on, lnu, se, me) ids q X).2.2.2.1, (ar_spec (id, K0, K1, on, lnu, se, me) ids q X).2.2.2.2.1, (ar_spec (id, K0, K1, on, lnu, se, me) ids q X).2.2.2.2.2, lic, foc, dbc) q) (rt_ls ls lo q (ar_spec (id, K0, K1, on, lnu, se, me) ids q X).2.2.2.1 (ar_spec (id, K0, K1, on, lnu, se, me) ids q X).2.2.2.2.1 (ar_spec (id, K0, K1, on, lnu, se, me) ids q X).2.2.2.2.2 (ck + 1)) lo (dt, db, rt, fl, ll, (upd tl q (rt_l lo (ar_spec (id, K0, K1, on, lnu, se, me) ids q X).2.2.2.2.1)), (upd tf q (ar_spec (id, K0, K1, on, lnu, se, me) ids q X).2.2.1), (upd tg q (ar_spec (id, K0, K1, on, lnu, se, me) ids q X).2.2.2.1), (upd tm q (tm q + 1)), ck + 1, (rt_fo ls lo fl q (ar_spec (id, K0, K1, on, lnu, se, me) ids q X).2.2.1 (ar_spec (id, K0, K1, on, lnu, se, me) ids q X).2.2.2.1 (ar_spec (id, K0, K1, on, lnu, se, me) ids q X).2.2.2.2.1 fo), (rt_du ls lo fl q (ar_spec (id, K0, K1, on, lnu, se, me) ids q X).2.2.1 (ar_spec (id, K0, K1, on, lnu, se, me) ids q X).2.2.2.2.1 du)) → Q (ar_spec (id, K0, K1, on, lnu, se, me) ids q X).1 1 B2) : PR sc (d + 12) 103 229 [.int (nI q), .int (nI wi)] B Q := by
  obtain ⟨f, A, T, T0, K, Kw, ca, rm, kc, kl, rk, M, ln, wt, π, w, dv, idc, ⟨hC, hH0, hdv, hid⟩, ⟨hMo, hs0, hM, hS⟩, ⟨hKG, hKs, h16, hlk⟩, hTl, hPh, hrc⟩ := hJ
  have hH := RH_ids (ids' := fun q => (dev q).1) hH0 (fun q hq => (hid q hq).symm)
  have hwi := (List.getElem?_eq_some_iff.mp he).1
  have hgA : (ws.getD wi (tz, 0)).1 = X := by rw [List.getD_eq_getElem?_getD, he]; rfl
  have hXT : X ∈ T0 := tv_memb (hS.2.1.1.2 wi _ he).1
  rw [← eids] at hH
  rw [eD] at hD
  have hid0 : (dev q).1 = id := by rw [eD]
  have hkeep := ar_keep (id, K0, K1, on, lnu, se, me) ids q X
  have hen : 0 ≤ (ar_spec (id, K0, K1, on, lnu, se, me) ids q X).1 → (dv_en (ar_spec (id, K0, K1, on, lnu, se, me) ids q X).2.1).length ≤ 536 := fun h => DVI_en hq (ar_spec_I (fun z => MT_kd2 hM (MT_pt1 hM (MT_pt1 hM hXT)) z) hD h)
  have hcu := cuts_set (sto := sto) (S := (st_commit p0 P c (dv_en (ar_spec (id, K0, K1, on, lnu, se, me) ids q X).2.1)).2) hq
  rw [cz1_commit] at hcu
  have hem := emp_set (dev := dev) (D := (ar_spec (id, K0, K1, on, lnu, se, me) ids q X).2.1) hq
  rw [eD] at hem
  have hem : emp (fset dev q (ar_spec (id, K0, K1, on, lnu, se, me) ids q X).2.1) + ec q se = emp dev + ec q (dse (ar_spec (id, K0, K1, on, lnu, se, me) ids q X).2.1) := hem
  have hecl : ec q (dse (ar_spec (id, K0, K1, on, lnu, se, me) ids q X).2.1) ≤ ec q se := ec_le (fun r _ h => hkeep.2 r h)
  have z0 := hD.2.1.1
  have z1 := hD.2.1.2
  have hdn : (sto q).2.2.2.2 = false := by rw [hst]
  refine t_deliver (F := mX) hC hH (by omega) hq ((hdv q hq).trans eD) (fun _ => hst) hD.1 kid (fun h => z0.2.2.1 (z0.2.1.mp h)) (fun h => z1.2.2.1 (z1.2.1.mp h)) hD.2.2.1.1 (fun p k S h => ⟨(SEI_at (DVI_sei hD) h).1.1, (SEI_at (DVI_sei hD) h).2.2⟩) (fun g p k S h => ((((DVI_mei hD).1 g).2.2.2 p).2 S (List.mem_of_getElem? h)).1.1) hwi hgA hen (fun h => absurd (hdn.symm.trans h) (by decide)) (fun B1 T1 M1 ca1 rm1 w1 D1 G1 pT qT hx0 hg hC1 hH1 hf1 => ?_) (fun B1 T1 M1 ca1 rm1 w1 D1 G1 pT qT hx0 hc1 hg hC1 hH1 hf1 => ?_) (fun B1 T1 M1 ca1 rm1 w1 G1 pT qT hx0 hc1 hg hC1 hH1 hf1 => ?_) (fun B1 T1 M1 ca1 rm1 w1 G1 pT qT hx0 hc1 hg1 hg2 hC1 hH1 hf1 => ?_)
  · obtain ⟨A1, hMo1, hs1, hM1, hS1, hr1, -⟩ := J_cls hf1 hMo hs0 hM hS
    obtain ⟨xf, xg, xt, xo, rfl⟩ := hg
    refine m_run hMo1 hs1 (mo_deliver hM1 hS1 (by omega) (by omega) hws hq he eids kid eD z0.1 z1.1 z0.2.1 z1.2.1 (fun h => z0.2.2.1 (z0.2.1.mp h)) (fun h => z1.2.2.1 (z1.2.1.mp h)) hD.2.2.1.1 (fun p k S h => ⟨(SEI_at (DVI_sei hD) h).2.2, (SEI_at (DVI_sei hD) h).1.2.1⟩) (fun g p k S h => by have z := (((DVI_mei hD).1 g).2.2.2 p).2 S (List.mem_of_getElem? h); exact ⟨z.2.1, z.1.2.1, z.2.2⟩) (fun g => ((DVI_mei hD).1 g).1) hlo hst hen (by omega) (fun hy0 f2 A2 hM2 g16 hS2 => ?_) (fun hy0 hc2 f2 A2 T2 pU qU sU hM2 g16 hS2 => ?_) (fun hy0 hc2 f2 A2 T2 pU qU sU hM2 g16 hS2 => ?_) (fun hy0 hy1 hc2 f2 A2 T2 pU qU sU hM2 g16 hS2 => ?_) (fun hy0 hc2 f2 A2 T2 pU qU sU hM2 g16 hS2 => ?_))
    · intro B2 hF2 hs2
      have e1 : rc (A2 1) T0.length = rc (A1 1) T0.length := rc_MT hM2 hM1
      exact kN hy0 xf xg xt xo B2 (J_mk hF2 hs2 hC1 hH1 (f6_dev hdv) (fun _ _ => by rw [eids]) hM2 hS2 hKG hKs (st_keep h16 (Or.inr g16)) (lk_mono hlk pT (Nat.le_refl _)) (by omega) (by omega) (by omega))
    · exact absurd hy0 (Int32.not_le.mpr hx0)
    · exact absurd hy0 (Int32.not_le.mpr hx0)
    · exact absurd hy0 (Int32.not_le.mpr hx0)
    · exact absurd (hy0 ▸ hx0 : (1 : Int32) < 0) (by decide)
  · obtain ⟨A1, hMo1, hs1, hM1, hS1, hr1, -⟩ := J_cls hf1 hMo hs0 hM hS
    obtain ⟨xf, xg, xt, xo, rfl⟩ := hg
    refine m_run hMo1 hs1 (mo_deliver hM1 hS1 (by omega) (by omega) hws hq he eids kid eD z0.1 z1.1 z0.2.1 z1.2.1 (fun h => z0.2.2.1 (z0.2.1.mp h)) (fun h => z1.2.2.1 (z1.2.1.mp h)) hD.2.2.1.1 (fun p k S h => ⟨(SEI_at (DVI_sei hD) h).2.2, (SEI_at (DVI_sei hD) h).1.2.1⟩) (fun g p k S h => by have z := (((DVI_mei hD).1 g).2.2.2 p).2 S (List.mem_of_getElem? h); exact ⟨z.2.1, z.1.2.1, z.2.2⟩) (fun g => ((DVI_mei hD).1 g).1) hlo hst hen (by omega) (fun hy0 f2 A2 hM2 g16 hS2 => ?_) (fun hy0 hc2 f2 A2 T2 pU qU sU hM2 g16 hS2 => ?_) (fun hy0 hc2 f2 A2 T2 pU qU sU hM2 g16 hS2 => ?_) (fun hy0 hy1 hc2 f2 A2 T2 pU qU sU hM2 g16 hS2 => ?_) (fun hy0 hc2 f2 A2 T2 pU qU sU hM2 g16 hS2 => ?_))
    · exact absurd hx0 (Int32.not_le.mpr hy0)
    · intro B2 hF2 hs2
      exact k0 hy0 hc2 xf xg xt xo B2 (J_mk hF2 hs2 hC1 hH1 (f6_dev hdv) (fun _ _ => by rw [eids]) hM2 hS2 hKG hKs (st_keep h16 (Or.inr g16)) (lk_mono hlk pT (Nat.le_refl _)) (by omega) (by omega) (by omega))
    · exact absurd (hc1.symm.trans hc2) (by decide)
    · exact absurd (hc1.symm.trans hc2) (by decide)
    · exact absurd (hc1.symm.trans hc2) (by decide)
  · obtain ⟨A1, hMo1, hs1, hM1, hS1, hr1, -⟩ := J_cls hf1 hMo hs0 hM hS
    obtain ⟨xf, xg, xt, xo, rfl⟩ := hg
    refine m_run hMo1 hs1 (mo_deliver hM1 hS1 (by omega) (by omega) hws hq he eids kid eD z0.1 z1.1 z0.2.1 z1.2.1 (fun h => z0.2.2.1 (z0.2.1.mp h)) (fun h => z1.2.2.1 (z1.2.1.mp h)) hD.2.2.1.1 (fun p k S h => ⟨(SEI_at (DVI_sei hD) h).2.2, (SEI_at (DVI_sei hD) h).1.2.1⟩) (fun g p k S h => by have z := (((DVI_mei hD).1 g).2.2.2 p).2 S (List.mem_of_getElem? h); exact ⟨z.2.1, z.1.2.1, z.2.2⟩) (fun g => ((DVI_mei hD).1 g).1) hlo hst hen (by omega) (fun hy0 f2 A2 hM2 g16 hS2 => ?_) (fun hy0 hc2 f2 A2 T2 pU qU sU hM2 g16 hS2 => ?_) (fun hy0 hc2 f2 A2 T2 pU qU sU hM2 g16 hS2 => ?_) (fun hy0 hy1 hc2 f2 A2 T2 pU qU sU hM2 g16 hS2 => ?_) (fun hy0 hc2 f2 A2 T2 pU qU sU hM2 g16 hS2 => ?_))
    · exact absurd hx0 (Int32.not_le.mpr hy0)
    · exact absurd (hc1.symm.trans hc2) (by decide)
    · intro B2 hF2 hs2
      exact k1 hy0 hc2 xf xg xt xo B2 (J_mk hF2 hs2 hC1 hH1 (sw6_dev hq hdv) (fun r hr => (congrFun eids r).trans (id_set (D := (ar_spec (id, K0, K1, on, lnu, se, me) ids q X).2.1) (hkeep.1.trans hid0.symm) r hr)) hM2 hS2 hKG hKs (st_keep h16 (Or.inr g16)) (lk_mono hlk pT (Nat.le_refl _)) (by omega) (by omega) (by omega))
    · exact absurd (hc1.symm.trans hc2) (by decide)
    · exact absurd (hc1.symm.trans hc2) (by decide)
  · obtain ⟨A1, hMo1, hs1, hM1, hS1, hr1, -⟩ := J_cls hf1 hMo hs0 hM hS
    refine m_run hMo1 hs1 (mo_deliver hM1 hS1 (by omega) (by omega) hws hq he eids kid eD z0.1 z1.1 z0.2.1 z1.2.1 (fun h => z0.2.2.1 (z0.2.1.mp h)) (fun h => z1.2.2.1 (z1.2.1.mp h)) hD.2.2.1.1 (fun p k S h => ⟨(SEI_at (DVI_sei hD) h).2.2, (SEI_at (DVI_sei hD) h).1.2.1⟩) (fun g p k S h => by have z := (((DVI_mei hD).1 g).2.2.2 p).2 S (List.mem_of_getElem? h); exact ⟨z.2.1, z.1.2.1, z.2.2⟩) (fun g => ((DVI_mei hD).1 g).1) hlo hst hen (by omega) (fun hy0 f2 A2 hM2 g16 hS2 => ?_) (fun hy0 hc2 f2 A2 T2 pU qU sU hM2 g16 hS2 => ?_) (fun hy0 hc2 f2 A2 T2 pU qU sU hM2 g16 hS2 => ?_) (fun hy0 hy1 hc2 f2 A2 T2 pU qU sU hM2 g16 hS2 => ?_) (fun hy0 hc2 f2 A2 T2 pU qU sU hM2 g16 hS2 => ?_))
    · exact absurd hx0 (Int32.not_le.mpr hy0)
    · exact absurd (hc1.symm.trans hc2) (by decide)
    · exact absurd (hc1.symm.trans hc2) (by decide)
    · intro B2 hF2 hs2
      have hG1 := hg2 hy1; subst hG1
      exact k2 hy0 hy1 hc2 B2 (J_mk hF2 hs2 hC1 hH1 (sw6_dev hq hdv) (fun r hr => (congrFun eids r).trans (id_set (D := (ar_spec (id, K0, K1, on, lnu, se, me) ids q X).2.1) (hkeep.1.trans hid0.symm) r hr)) hM2 hS2 hKG hKs (st_keep h16 g16) (lk_mono hlk pT (Nat.le_refl _)) (by omega) (by omega) (by omega))
    · intro B2 hF2 hs2
      have hG1 := hg1 hy0; subst hG1
      exact k3 hy0 hc2 B2 (J_mk hF2 hs2 hC1 hH1 (sw6_dev hq hdv) (fun r hr => (congrFun eids r).trans (id_set (D := (ar_spec (id, K0, K1, on, lnu, se, me) ids q X).2.1) (hkeep.1.trans hid0.symm) r hr)) hM2 hS2 hKG hKs (st_keep (st_rt h16) g16) (lk_taken (lk_mono hlk pT (Nat.le_refl _))) (by omega) (by omega) (by omega))
set_option maxRecDepth 100000 in
theorem P_inject {sc : tm_X} {d N S n : Nat} {B : bm_H} {DL : List (Int32 × Int32)} {dev : Nat → DV} {sto : Nat → ST} {ws : List (Tm × Int32)} {dir reg : Nat → Tm} {seen : List Tm} {G : Tm → Prop} {ls : List RL} {lo dt db rt fl ll tl tf tg tm : Nat → Int32} {ck fo du : Int32} {Lc : List LT} {bdc llc tcc tlc tfc tgc : Nat → Int32} {cfc cgc : Int32} {ctc : Tm} {coc : Bool} {lic foc dbc : Int32} {id : Tm} {K0 K1 : PK} {on : List (Tm × Int32)} {lnu : Int32} {se : Nat → List SS} {me : Nat → MM} {p0 : Bool} {P : EN2} {c : Option Nat} {q : Nat} {X : Tm} {ids : Nat → Tm} {y : Int32} {Q : Int32 → Int32 → bm_H → Prop} (hJ : J N S n B DL dev sto ws dir reg seen G (Lc, bdc, llc, tcc, tlc, tfc, tgc, cfc, cgc, ctc, coc, lic, foc, dbc) ls lo (dt, db, rt, fl, ll, tl, tf, tg, tm, ck, fo, du)) (hn : n < 64) (hdl : DL.length ≤ 2900) (hws : ws.length ≤ 692) (hq : q < 6) (eids : ids = fun q => (dev q).1) (kid : ∀ q, q < 6 → kd (ids q) = 1) (hRg : hl reg y = X) (hXz : X ≠ tz) (hlo : ∀ m, m < DL.length → lo m = -1 ∨ ∃ i e, ls[i]? = some e ∧ lo m = nI i) (eD : dev q = (id, K0, K1, on, lnu, se, me)) (hst : sto q = (p0, P, [], c, false)) (hD : DVI q n (dev q)) (kN : (ar_spec (id, K0, K1, on, lnu, se, me) ids q X).1 < 0 → ∀ (xf xg : Int32) (xt : Tm) (xo : Bool) B2, J N S (n + 1) B2 DL dev sto ws dir reg seen G (Lc, bdc, llc, tcc, tlc, tfc, tgc, xf, xg, xt, xo, lic, foc, dbc) ls lo (dt, db, rt, fl, ll, tl, tf, tg, tm, ck + 1, fo, du) → Q (ar_spec (id, K0, K1, on, lnu, se, me) ids q X).1 (ar_spec (id, K0, K1, on, lnu, se, me) ids q X).1 B2) (k0 : 0 ≤ (ar_spec (id, K0, K1, on, lnu, se, me) ids q X).1 → (st_commit p0 P c (dv_en (ar_spec (id, K0, K1, on, lnu, se, me) ids q X).2.1)).1 = 0 → ∀ (xf xg : Int32) (xt : Tm) (xo : Bool) B2, J N S (n + 1) B2 DL dev (fset sto q (st_commit p0 P c (dv_en (ar_spec (id, K0, K1, on, lnu, se, me) ids q X).2.1)).2) ws dir reg seen G (Lc, bdc, llc, tcc, tlc, tfc, tgc, xf, xg, xt, xo, lic, foc, dbc) ls lo (dt, db, rt, fl, ll, tl, tf, tg, tm, ck + 1, fo, du) → Q (-4) (-4) B2) (k1 : 0 ≤ (ar_spec (id, K0, K1, on, lnu, se, me) ids q X).1 → (st_commit p0 P c (dv_en (ar_spec (id, K0, K1, on, lnu, se, me) ids q X).2.1)).1 = 1 → ∀ (xf xg : Int32) (xt : Tm) (xo : Bool) B2, J N S (n + 1) B2 DL (fset dev q (ar_spec (id, K0, K1, on, lnu, se, me) ids q X).2.1) (fset sto q (st_commit p0 P c (dv_en (ar_spec (id, K0, K1, on, lnu, se, me) ids q X).2.1)).2) ws dir reg seen G (Lc, bdc, llc, tcc, tlc, tfc, tgc, xf, xg, xt, xo, lic, foc, dbc) ls lo (dt, db, rt, fl, ll, tl, tf, tg, tm, ck + 1, fo, du) → Q (-4) (-4) B2) (k2 : 0 ≤ (ar_spec (id, K0, K1, on, lnu, se, me) ids q X).1 → (ar_spec (id, K0, K1, on, lnu, se, me) ids q X).1 ≠ 1 → (st_commit p0 P c (dv_en (ar_spec (id, K0, K1, on, lnu, se, me) ids q X).2.1)).1 = 2 → ∀ B2, J N S (n + 1) B2 DL (fset dev q (ar_spec (id, K0, K1, on, lnu, se, me) ids q X).2.1) (fset sto q (st_commit p0 P c (dv_en (ar_spec (id, K0, K1, on, lnu, se, me) ids q X).2.1)).2) ws dir reg seen G (Lc, bdc, llc, tcc, tlc, tfc, tgc, cfc, cgc, ctc, coc, lic, foc, dbc) ls lo (dt, db, rt, fl, ll, tl, tf, tg, tm, ck + 1, fo, du) → Q (ar_spec (id, K0, K1, on, lnu, se, me) ids q X).1 (ar_spec (id, K0, K1, on, lnu, se, me) ids q X).1 B2) (k3 : (ar_spec (id, K0, K1, on, lnu, se, me) ids q X).1 = 1 → (st_commit p0 P c (dv_en (ar_spec (id, K0, K1, on, lnu, se, me) ids q X).2.1)).1 = 2 → ∀ B2, J N S (n + 1) B2 DL (fset dev q (ar_spec (id, K0, K1, on, lnu, se, me) ids q X).2.1) (fset sto q (st_commit p0 P c (dv_en (ar_spec (id, K0, K1, on, lnu, se, me) ids q X).2.1)).2) ws dir reg seen G (lg_taken (Lc, bdc, llc, tcc, tlc, tfc, tgc, (ar_spec (id, K0, K1, on, lnu, se, me) ids q X).2.2.1, (ar_spec (id, K0, K1, on, lnu, se, me) ids q X).2.2.2.1, (ar_spec (id, K0, K1, on, lnu, se, me) ids q X).2.2.2.2.1, (ar_spec (id, K0, K1, on, lnu, se, me) ids q X).2.2.2.2.2, lic, foc, dbc) q) (rt_ls ls lo q (ar_spec (id, K0, K1, on, lnu, se, me) ids q X).2.2.2.1 (ar_spec (id, K0, K1, on, lnu, se, me) ids q X).2.2.2.2.1 (ar_spec (id, K0, K1, on, lnu, se, me) ids q X).2.2.2.2.2 (ck + 1)) lo (dt, db, rt, fl, ll, (upd tl q (rt_l lo (ar_spec (id, K0, K1, on, lnu, se, me) ids q X).2.2.2.2.1)), (upd tf q (ar_spec (id, K0, K1, on, lnu, se, me) ids q X).2.2.1), (upd tg q (ar_spec (id, K0, K1, on, lnu, se, me) ids q X).2.2.2.1), (upd tm q (tm q + 1)), ck + 1, (rt_fo ls lo fl q (ar_spec (id, K0, K1, on, lnu, se, me) ids q X).2.2.1 (ar_spec (id, K0, K1, on, lnu, se, me) ids q X).2.2.2.1 (ar_spec (id, K0, K1, on, lnu, se, me) ids q X).2.2.2.2.1 fo), (rt_du ls lo fl q (ar_spec (id, K0, K1, on, lnu, se, me) ids q X).2.2.1 (ar_spec (id, K0, K1, on, lnu, se, me) ids q X).2.2.2.2.1 du)) → Q (ar_spec (id, K0, K1, on, lnu, se, me) ids q X).1 1 B2) : PR sc (d + 12) 130 248 [.int (nI q), .int y] B Q := by
  obtain ⟨f, A, T, T0, K, Kw, ca, rm, kc, kl, rk, M, ln, wt, π, w, dv, idc, ⟨hC, hH0, hdv, hid⟩, ⟨hMo, hs0, hM, hS⟩, ⟨hKG, hKs, h16, hlk⟩, hTl, hPh, hrc⟩ := hJ
  have hH := RH_ids (ids' := fun q => (dev q).1) hH0 (fun q hq => (hid q hq).symm)
  have hXT : X ∈ T0 := hl_mem hM hS.2.1.2.2.1 hRg
  rw [← eids] at hH
  rw [eD] at hD
  have hid0 : (dev q).1 = id := by rw [eD]
  have hkeep := ar_keep (id, K0, K1, on, lnu, se, me) ids q X
  have hen : 0 ≤ (ar_spec (id, K0, K1, on, lnu, se, me) ids q X).1 → (dv_en (ar_spec (id, K0, K1, on, lnu, se, me) ids q X).2.1).length ≤ 536 := fun h => DVI_en hq (ar_spec_I (fun z => MT_kd2 hM (MT_pt1 hM (MT_pt1 hM hXT)) z) hD h)
  have hcu := cuts_set (sto := sto) (S := (st_commit p0 P c (dv_en (ar_spec (id, K0, K1, on, lnu, se, me) ids q X).2.1)).2) hq
  rw [cz1_commit] at hcu
  have hem := emp_set (dev := dev) (D := (ar_spec (id, K0, K1, on, lnu, se, me) ids q X).2.1) hq
  rw [eD] at hem
  have hem : emp (fset dev q (ar_spec (id, K0, K1, on, lnu, se, me) ids q X).2.1) + ec q se = emp dev + ec q (dse (ar_spec (id, K0, K1, on, lnu, se, me) ids q X).2.1) := hem
  have hecl : ec q (dse (ar_spec (id, K0, K1, on, lnu, se, me) ids q X).2.1) ≤ ec q se := ec_le (fun r _ h => hkeep.2 r h)
  have z0 := hD.2.1.1
  have z1 := hD.2.1.2
  have hdn : (sto q).2.2.2.2 = false := by rw [hst]
  refine t_inject (F := mX) hC hH (by omega) hq ((hdv q hq).trans eD) (fun _ => hst) hD.1 kid (fun h => z0.2.2.1 (z0.2.1.mp h)) (fun h => z1.2.2.1 (z1.2.1.mp h)) hD.2.2.1.1 (fun p k S h => ⟨(SEI_at (DVI_sei hD) h).1.1, (SEI_at (DVI_sei hD) h).2.2⟩) (fun g p k S h => ((((DVI_mei hD).1 g).2.2.2 p).2 S (List.mem_of_getElem? h)).1.1) hRg hXz hen (fun h => absurd (hdn.symm.trans h) (by decide)) (fun B1 T1 M1 ca1 rm1 w1 D1 G1 pT qT hx0 hg hC1 hH1 hf1 => ?_) (fun B1 T1 M1 ca1 rm1 w1 D1 G1 pT qT hx0 hc1 hg hC1 hH1 hf1 => ?_) (fun B1 T1 M1 ca1 rm1 w1 G1 pT qT hx0 hc1 hg hC1 hH1 hf1 => ?_) (fun B1 T1 M1 ca1 rm1 w1 G1 pT qT hx0 hc1 hg1 hg2 hC1 hH1 hf1 => ?_)
  · obtain ⟨A1, hMo1, hs1, hM1, hS1, hr1, -⟩ := J_cls hf1 hMo hs0 hM hS
    obtain ⟨xf, xg, xt, xo, rfl⟩ := hg
    refine m_run hMo1 hs1 (mo_inject hM1 hS1 (by omega) (by omega) hws hq hRg hXz eids kid eD z0.1 z1.1 z0.2.1 z1.2.1 (fun h => z0.2.2.1 (z0.2.1.mp h)) (fun h => z1.2.2.1 (z1.2.1.mp h)) hD.2.2.1.1 (fun p k S h => ⟨(SEI_at (DVI_sei hD) h).2.2, (SEI_at (DVI_sei hD) h).1.2.1⟩) (fun g p k S h => by have z := (((DVI_mei hD).1 g).2.2.2 p).2 S (List.mem_of_getElem? h); exact ⟨z.2.1, z.1.2.1, z.2.2⟩) (fun g => ((DVI_mei hD).1 g).1) hlo hst hen (by omega) (fun hy0 f2 A2 hM2 g16 hS2 => ?_) (fun hy0 hc2 f2 A2 T2 pU qU sU hM2 g16 hS2 => ?_) (fun hy0 hc2 f2 A2 T2 pU qU sU hM2 g16 hS2 => ?_) (fun hy0 hy1 hc2 f2 A2 T2 pU qU sU hM2 g16 hS2 => ?_) (fun hy0 hc2 f2 A2 T2 pU qU sU hM2 g16 hS2 => ?_))
    · intro B2 hF2 hs2
      have e1 : rc (A2 1) T0.length = rc (A1 1) T0.length := rc_MT hM2 hM1
      exact kN hy0 xf xg xt xo B2 (J_mk hF2 hs2 hC1 hH1 (f6_dev hdv) (fun _ _ => by rw [eids]) hM2 hS2 hKG hKs (st_keep h16 (Or.inr g16)) (lk_mono hlk pT (Nat.le_refl _)) (by omega) (by omega) (by omega))
    · exact absurd hy0 (Int32.not_le.mpr hx0)
    · exact absurd hy0 (Int32.not_le.mpr hx0)
    · exact absurd hy0 (Int32.not_le.mpr hx0)
    · exact absurd (hy0 ▸ hx0 : (1 : Int32) < 0) (by decide)
  · obtain ⟨A1, hMo1, hs1, hM1, hS1, hr1, -⟩ := J_cls hf1 hMo hs0 hM hS
    obtain ⟨xf, xg, xt, xo, rfl⟩ := hg
    refine m_run hMo1 hs1 (mo_inject hM1 hS1 (by omega) (by omega) hws hq hRg hXz eids kid eD z0.1 z1.1 z0.2.1 z1.2.1 (fun h => z0.2.2.1 (z0.2.1.mp h)) (fun h => z1.2.2.1 (z1.2.1.mp h)) hD.2.2.1.1 (fun p k S h => ⟨(SEI_at (DVI_sei hD) h).2.2, (SEI_at (DVI_sei hD) h).1.2.1⟩) (fun g p k S h => by have z := (((DVI_mei hD).1 g).2.2.2 p).2 S (List.mem_of_getElem? h); exact ⟨z.2.1, z.1.2.1, z.2.2⟩) (fun g => ((DVI_mei hD).1 g).1) hlo hst hen (by omega) (fun hy0 f2 A2 hM2 g16 hS2 => ?_) (fun hy0 hc2 f2 A2 T2 pU qU sU hM2 g16 hS2 => ?_) (fun hy0 hc2 f2 A2 T2 pU qU sU hM2 g16 hS2 => ?_) (fun hy0 hy1 hc2 f2 A2 T2 pU qU sU hM2 g16 hS2 => ?_) (fun hy0 hc2 f2 A2 T2 pU qU sU hM2 g16 hS2 => ?_))
    · exact absurd hx0 (Int32.not_le.mpr hy0)
    · intro B2 hF2 hs2
      exact k0 hy0 hc2 xf xg xt xo B2 (J_mk hF2 hs2 hC1 hH1 (f6_dev hdv) (fun _ _ => by rw [eids]) hM2 hS2 hKG hKs (st_keep h16 (Or.inr g16)) (lk_mono hlk pT (Nat.le_refl _)) (by omega) (by omega) (by omega))
    · exact absurd (hc1.symm.trans hc2) (by decide)
    · exact absurd (hc1.symm.trans hc2) (by decide)
    · exact absurd (hc1.symm.trans hc2) (by decide)
  · obtain ⟨A1, hMo1, hs1, hM1, hS1, hr1, -⟩ := J_cls hf1 hMo hs0 hM hS
    obtain ⟨xf, xg, xt, xo, rfl⟩ := hg
    refine m_run hMo1 hs1 (mo_inject hM1 hS1 (by omega) (by omega) hws hq hRg hXz eids kid eD z0.1 z1.1 z0.2.1 z1.2.1 (fun h => z0.2.2.1 (z0.2.1.mp h)) (fun h => z1.2.2.1 (z1.2.1.mp h)) hD.2.2.1.1 (fun p k S h => ⟨(SEI_at (DVI_sei hD) h).2.2, (SEI_at (DVI_sei hD) h).1.2.1⟩) (fun g p k S h => by have z := (((DVI_mei hD).1 g).2.2.2 p).2 S (List.mem_of_getElem? h); exact ⟨z.2.1, z.1.2.1, z.2.2⟩) (fun g => ((DVI_mei hD).1 g).1) hlo hst hen (by omega) (fun hy0 f2 A2 hM2 g16 hS2 => ?_) (fun hy0 hc2 f2 A2 T2 pU qU sU hM2 g16 hS2 => ?_) (fun hy0 hc2 f2 A2 T2 pU qU sU hM2 g16 hS2 => ?_) (fun hy0 hy1 hc2 f2 A2 T2 pU qU sU hM2 g16 hS2 => ?_) (fun hy0 hc2 f2 A2 T2 pU qU sU hM2 g16 hS2 => ?_))
    · exact absurd hx0 (Int32.not_le.mpr hy0)
    · exact absurd (hc1.symm.trans hc2) (by decide)
    · intro B2 hF2 hs2
      exact k1 hy0 hc2 xf xg xt xo B2 (J_mk hF2 hs2 hC1 hH1 (sw6_dev hq hdv) (fun r hr => (congrFun eids r).trans (id_set (D := (ar_spec (id, K0, K1, on, lnu, se, me) ids q X).2.1) (hkeep.1.trans hid0.symm) r hr)) hM2 hS2 hKG hKs (st_keep h16 (Or.inr g16)) (lk_mono hlk pT (Nat.le_refl _)) (by omega) (by omega) (by omega))
    · exact absurd (hc1.symm.trans hc2) (by decide)
    · exact absurd (hc1.symm.trans hc2) (by decide)
  · obtain ⟨A1, hMo1, hs1, hM1, hS1, hr1, -⟩ := J_cls hf1 hMo hs0 hM hS
    refine m_run hMo1 hs1 (mo_inject hM1 hS1 (by omega) (by omega) hws hq hRg hXz eids kid eD z0.1 z1.1 z0.2.1 z1.2.1 (fun h => z0.2.2.1 (z0.2.1.mp h)) (fun h => z1.2.2.1 (z1.2.1.mp h)) hD.2.2.1.1 (fun p k S h => ⟨(SEI_at (DVI_sei hD) h).2.2, (SEI_at (DVI_sei hD) h).1.2.1⟩) (fun g p k S h => by have z := (((DVI_mei hD).1 g).2.2.2 p).2 S (List.mem_of_getElem? h); exact ⟨z.2.1, z.1.2.1, z.2.2⟩) (fun g => ((DVI_mei hD).1 g).1) hlo hst hen (by omega) (fun hy0 f2 A2 hM2 g16 hS2 => ?_) (fun hy0 hc2 f2 A2 T2 pU qU sU hM2 g16 hS2 => ?_) (fun hy0 hc2 f2 A2 T2 pU qU sU hM2 g16 hS2 => ?_) (fun hy0 hy1 hc2 f2 A2 T2 pU qU sU hM2 g16 hS2 => ?_) (fun hy0 hc2 f2 A2 T2 pU qU sU hM2 g16 hS2 => ?_))
    · exact absurd hx0 (Int32.not_le.mpr hy0)
    · exact absurd (hc1.symm.trans hc2) (by decide)
    · exact absurd (hc1.symm.trans hc2) (by decide)
    · intro B2 hF2 hs2
      have hG1 := hg2 hy1; subst hG1
      exact k2 hy0 hy1 hc2 B2 (J_mk hF2 hs2 hC1 hH1 (sw6_dev hq hdv) (fun r hr => (congrFun eids r).trans (id_set (D := (ar_spec (id, K0, K1, on, lnu, se, me) ids q X).2.1) (hkeep.1.trans hid0.symm) r hr)) hM2 hS2 hKG hKs (st_keep h16 g16) (lk_mono hlk pT (Nat.le_refl _)) (by omega) (by omega) (by omega))
    · intro B2 hF2 hs2
      have hG1 := hg1 hy0; subst hG1
      exact k3 hy0 hc2 B2 (J_mk hF2 hs2 hC1 hH1 (sw6_dev hq hdv) (fun r hr => (congrFun eids r).trans (id_set (D := (ar_spec (id, K0, K1, on, lnu, se, me) ids q X).2.1) (hkeep.1.trans hid0.symm) r hr)) hM2 hS2 hKG hKs (st_keep (st_rt h16) g16) (lk_taken (lk_mono hlk pT (Nat.le_refl _))) (by omega) (by omega) (by omega))
