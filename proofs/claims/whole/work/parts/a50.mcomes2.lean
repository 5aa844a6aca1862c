/-! The reference: comes -/
section
variable {id : Tm} {K0 K1 : PK} {on : List (Tm × Int32)} {lnu : Int32} {se : Nat → List SS} {me : Nat → MM} {ids : Nat → Tm} {q p g k : Nat} {A : Tm} {S : SS} {M : MM}
theorem ar_3 (h : tm_form A = 3) (ep : nu (pt A 1) 0 = nI p) (hp : p < 6) : ar_spec (id, K0, K1, on, lnu, se, me) ids q A = ((ts_spec (id, K0, K1, on, lnu, se, me) ids q p A).1, (ts_spec (id, K0, K1, on, lnu, se, me) ids q p A).2.1, nI p, -1, pt (pt A 2) 0, (ts_spec (id, K0, K1, on, lnu, se, me) ids q p A).2.2) := by
  unfold ar_spec
  dsimp only
  rw [if_pos h, ep, nI_clamp (by omega)]
theorem ar_6t (h : tm_form A = 6) (eg : nu (pt A 1) 0 = nI g) (hg : g < 4) (ht : tl_ok A q g (ids g) (me g)) : ar_spec (id, K0, K1, on, lnu, se, me) ids q A = (3, (id, K0, K1, on, lnu, se, fset me g (mm_adopt (me g) (nu (pt A 1) 1) (nu (pt A 1) 2))), 0, 0, tz, false) := by
  unfold ar_spec
  dsimp only
  rw [if_neg (by rw [h]; decide), if_pos h, eg, nI_clamp (by omega), cif_t ht]
theorem ar_6f (h : tm_form A = 6) (eg : nu (pt A 1) 0 = nI g) (hg : g < 4) (ht : ¬ tl_ok A q g (ids g) (me g)) : ar_spec (id, K0, K1, on, lnu, se, me) ids q A = (-16, (id, K0, K1, on, lnu, se, me), 0, 0, tz, false) := by
  unfold ar_spec
  dsimp only
  rw [if_neg (by rw [h]; decide), if_pos h, eg, nI_clamp (by omega), cif_f ht]
theorem ar_7 (h : tm_form A = 7) (eg : nu (pt (pt A 1) 1) 0 = nI g) (hg : g < 4) (ep : nu (pt (pt A 1) 1) 1 = nI p) (hp : p < 6) : ar_spec (id, K0, K1, on, lnu, se, me) ids q A = ((tp_spec A q p (me g)).1, (id, K0, K1, on, lnu, se, fset me g (tp_spec A q p (me g)).2), nI p, nI g, pt (pt (pt A 1) 2) 0, tp_one A p (me g)) := by
  unfold ar_spec
  dsimp only
  rw [if_neg (by rw [h]; decide), if_neg (by rw [h]; decide), if_pos h, eg, ep, nI_clamp (by omega), nI_clamp (by omega)]
theorem ar_0 (h : tm_form A = 0) : ar_spec (id, K0, K1, on, lnu, se, me) ids q A = (-10, (id, K0, K1, on, lnu, se, me), 0, 0, tz, false) := by
  unfold ar_spec
  dsimp only
  rw [if_neg (by rw [h]; decide), if_neg (by rw [h]; decide), if_neg (by rw [h]; decide)]
theorem tg_keep : (ts_go (id, K0, K1, on, lnu, se, me) p A k S).2.1.1 = id ∧ (ts_go (id, K0, K1, on, lnu, se, me) p A k S).2.1.2.1 = K0 ∧ (ts_go (id, K0, K1, on, lnu, se, me) p A k S).2.1.2.2.1 = K1 ∧ ((ts_go (id, K0, K1, on, lnu, se, me) p A k S).1 = 1 → Tgood 4 (pt A 2) = true) := by
  cases h : ss_key S (pt A 1) with
  | none => rw [tg_no h]; exact ⟨rfl, rfl, rfl, fun q => absurd (show (-13 : Int32) = 1 from q) (by decide)⟩
  | some r =>
    obtain ⟨K, S1⟩ := r
    rw [tg_key h]
    by_cases c : K = pt A 0
    · rw [cif_t c]
      by_cases c4 : Tgood 4 (pt A 2) = true
      · rw [if_pos c4]; exact ⟨rfl, rfl, rfl, fun _ => c4⟩
      · rw [if_neg c4]
        by_cases c5 : Tgood 5 (pt A 2) = true
        · rw [if_pos c5]; exact ⟨rfl, rfl, rfl, fun q => absurd (show (2 : Int32) = 1 from q) (by decide)⟩
        · rw [if_neg c5]; exact ⟨rfl, rfl, rfl, fun q => absurd (show (-15 : Int32) = 1 from q) (by decide)⟩
    · rw [cif_f c]; exact ⟨rfl, rfl, rfl, fun q => absurd (show (-14 : Int32) = 1 from q) (by decide)⟩
theorem au_keep {H : Tm} : (as_used K0 K1 on H).1.1 = K0.1 ∧ (as_used K0 K1 on H).1.2.1 = K0.2.1 ∧ (as_used K0 K1 on H).2.1.1 = K1.1 ∧ (as_used K0 K1 on H).2.1.2.1 = K1.2.1 := by
  unfold as_used
  cases h : pk_find K0 K1 (pt H 2) with
  | none => exact ⟨rfl, rfl, rfl, rfl⟩
  | some b =>
    dsimp only
    by_cases c : pt H 3 = tz
    · rw [cif_t c]
      cases b <;> exact ⟨rfl, rfl, rfl, rfl⟩
    · rw [cif_f c]
      cases on_find (pt H 3) on <;> exact ⟨rfl, rfl, rfl, rfl⟩
theorem ts_keep : (ts_spec (id, K0, K1, on, lnu, se, me) ids q p A).2.1.1 = id ∧ (ts_spec (id, K0, K1, on, lnu, se, me) ids q p A).2.1.2.1.1 = K0.1 ∧ (ts_spec (id, K0, K1, on, lnu, se, me) ids q p A).2.1.2.1.2.1 = K0.2.1 ∧ (ts_spec (id, K0, K1, on, lnu, se, me) ids q p A).2.1.2.2.1.1 = K1.1 ∧ (ts_spec (id, K0, K1, on, lnu, se, me) ids q p A).2.1.2.2.1.2.1 = K1.2.1 ∧ ((ts_spec (id, K0, K1, on, lnu, se, me) ids q p A).1 = 1 → Tgood 4 (pt A 2) = true) := by
  by_cases c : nu (pt A 1) 1 = nI q ∧ p ≠ q
  · cases hf : ss_find (se p) (pt (pt A 1) 0) with
    | some r =>
      obtain ⟨k, S⟩ := r
      rw [ts_old (D := (id, K0, K1, on, lnu, se, me)) c hf]
      obtain ⟨h1, h2, h3, h4⟩ := tg_keep (id := id) (K0 := K0) (K1 := K1) (on := on) (lnu := lnu) (se := se) (me := me) (p := p) (A := A) (k := k) (S := S)
      exact ⟨h1, by rw [h2], by rw [h2], by rw [h3], by rw [h3], h4⟩
    | none =>
      cases ha : as_ses id K0 K1 on (ids p) (pt A 1) with
      | none =>
        rw [ts_12 (D := (id, K0, K1, on, lnu, se, me)) c hf (by rw [as_spec_of, ha]; rfl)]
        exact ⟨rfl, rfl, rfl, rfl, rfl, fun q => absurd (show (-12 : Int32) = 1 from q) (by decide)⟩
      | some S =>
        rw [ts_new (lnu := lnu) (me := me) c hf ha]
        obtain ⟨h1, h2, h3, h4⟩ := tg_keep (id := id) (K0 := (as_used K0 K1 on (pt A 1)).1) (K1 := (as_used K0 K1 on (pt A 1)).2.1) (on := (as_used K0 K1 on (pt A 1)).2.2) (lnu := lnu) (se := fset se p (S :: (se p).take 1)) (me := me) (p := p) (A := A) (k := 0) (S := S)
        obtain ⟨u1, u2, u3, u4⟩ := au_keep (K0 := K0) (K1 := K1) (on := on) (H := pt A 1)
        exact ⟨h1, by rw [h2]; exact u1, by rw [h2]; exact u2, by rw [h3]; exact u3, by rw [h3]; exact u4, h4⟩
  · rw [ts_11 c]
    exact ⟨rfl, rfl, rfl, rfl, rfl, fun q => absurd (show (-11 : Int32) = 1 from q) (by decide)⟩
theorem tp_g4 (h : (tp_spec A q p M).1 = 1) : Tgood 4 (pt (pt A 1) 2) = true := by
  by_cases c : p = q
  · rw [tp_11 c] at h; exact absurd (show (-11 : Int32) = 1 from h) (by decide)
  · cases hf : gv_find (mgv M p) (nu (pt (pt A 1) 1) 2) with
    | none => rw [tp_17 c (Or.inl hf)] at h; exact absurd (show (-17 : Int32) = 1 from h) (by decide)
    | some r =>
      obtain ⟨k, G⟩ := r
      cases hb : hbit M.2.1 (nI p) with
      | false => rw [tp_17 c (Or.inr hb)] at h; exact absurd (show (-17 : Int32) = 1 from h) (by decide)
      | true =>
        rw [tp_go c hf hb] at h
        by_cases c2 : (if kd (pt A 0) = 1 then Tpub (pt A 0) else tz) = G.1.1
        · rw [cif_t c2] at h
          cases hk : gv_key G.1 (nu (pt (pt A 1) 1) 3) with
          | none => rw [hk] at h; exact absurd (show (-13 : Int32) = 1 from h) (by decide)
          | some r =>
            obtain ⟨K, I⟩ := r
            rw [hk] at h
            dsimp only at h
            by_cases c3 : K = pt (pt A 1) 0
            · rw [cif_t c3] at h
              by_cases c4 : Tgood 4 (pt (pt A 1) 2) = true
              · exact c4
              · rw [if_neg c4] at h; exact absurd (show (-15 : Int32) = 1 from h) (by decide)
            · rw [cif_f c3] at h; exact absurd (show (-14 : Int32) = 1 from h) (by decide)
        · rw [cif_f c2] at h; exact absurd (show (-14 : Int32) = 1 from h) (by decide)
end
theorem tp_neg {A : Tm} {q p : Nat} {M : MM} : (tp_spec A q p M).1 < 0 ∨ (tp_spec A q p M).1 = 1 := by
  by_cases h : 0 ≤ (tp_spec A q p M).1
  · exact Or.inr (tp_01 A q p M h)
  · exact Or.inl (Int32.not_le.mp h)
theorem good7_gp {A : Tm} (h : Tgood 7 A = true) : (∃ g, g < 4 ∧ nu A 0 = nI g) ∧ ∃ p, p < 6 ∧ nu A 1 = nI p := by
  have q := good_gn h
  unfold gn at q
  simp only [Bool.and_eq_true] at q
  exact ⟨grp_of q.1.1.1, dev_of q.1.1.2⟩
set_option maxRecDepth 100000 in
theorem mo_comes {sc : tm_X} {d : Nat} {f : Nat → Int32} {A : Nat → Nat → Int32} {T : List Tm} {DL : List (Int32 × Int32)} {G Kw : Tm → Prop} {dev : Nat → DV} {sto : Nat → ST} {ws : List (Tm × Int32)} {dir reg : Nat → Tm} {seen : List Tm} {ls : List RL} {lo dt db rt fl ll tl tf tg tm : Nat → Int32} {ck fo du : Int32} {id : Tm} {K0 K1 : PK} {on : List (Tm × Int32)} {lnu : Int32} {se : Nat → List SS} {me : Nat → MM} {p0 : Bool} {P O : EN2} {c : Option Nat} {ids : Nat → Tm} {q ti : Nat} {X : Tm} {Q : Int32 → MS → Prop} (hM : MT f A T DL G Kw) (hS : RS f A T DL dev sto ws dir reg seen ls lo (dt, db, rt, fl, ll, tl, tf, tg, tm, ck, fo, du)) (hl : T.length + 42 ≤ 4000) (hr : rc (A 1) T.length < 1000) (hws : ws.length ≤ 692) (hq : q < 6) (hX : T[ti]? = some X) (eids : ids = fun q => (dev q).1) (kid : ∀ q, q < 6 → kd (ids q) = 1) (eD : dev q = (id, K0, K1, on, lnu, se, me)) (hz0 : K0.1 = tz ↔ K0.2.1 = 0) (hz1 : K1.1 = tz ↔ K1.2.1 = 0) (z0 : 0 < K0.2.1 ↔ K0.1 ≠ tz) (z1 : 0 < K1.2.1 ↔ K1.1 ≠ tz) (d0 : 0 < K0.2.1 → kd K0.1 = 1) (d1 : 0 < K1.2.1 → kd K1.1 = 1) (dn : ∀ e, e ∈ on → kd e.1 = 1) (hse : ∀ (p k : Nat) (S : SS), (se p)[k]? = some S → kd S.2.2.2.1 = 1 ∧ ∃ nn, nn ≤ 10000 ∧ S.1.2.2.1 = nI nn) (hme : ∀ (g p k : Nat) (S : GV), (mgv (me g) p)[k]? = some S → S.1.1 ≠ tz ∧ (∃ nn, nn ≤ 10000 ∧ S.1.2.2.1 = nI nn) ∧ ∀ e, e ∈ S.1.2.2.2 → e.1 = S.1.1) (hv0 : ∀ g, (me g).1 = 0 → (me g).2.1 = 0) (hlo : ∀ m, m < DL.length → lo m = -1 ∨ ∃ i e, ls[i]? = some e ∧ lo m = nI i) (hst : sto q = (p0, P, O, c, false)) (hen : 0 ≤ (ar_spec (id, K0, K1, on, lnu, se, me) ids q X).1 → (dv_en (ar_spec (id, K0, K1, on, lnu, se, me) ids q X).2.1).length ≤ 536) (kN : (ar_spec (id, K0, K1, on, lnu, se, me) ids q X).1 < 0 → ∀ f1 A1, MT f1 A1 T DL G Kw → f1 16 = f 16 → RS f1 A1 T DL dev sto ws dir reg seen ls lo (dt, db, rt, fl, ll, tl, tf, tg, tm, ck, fo, du) → Q (ar_spec (id, K0, K1, on, lnu, se, me) ids q X).1 (f1, A1)) (k0 : 0 ≤ (ar_spec (id, K0, K1, on, lnu, se, me) ids q X).1 → (st_commit p0 P c (dv_en (ar_spec (id, K0, K1, on, lnu, se, me) ids q X).2.1)).1 = 0 → ∀ f1 A1 T1, T <+: T1 → T1.length ≤ T.length + 42 → rc (A1 1) T1.length ≤ rc (A 1) T.length →  MT f1 A1 T1 DL G Kw → f1 16 = f 16 → RS f1 A1 T1 DL dev (fset sto q (st_commit p0 P c (dv_en (ar_spec (id, K0, K1, on, lnu, se, me) ids q X).2.1)).2) ws dir reg seen ls lo (dt, db, rt, fl, ll, tl, tf, tg, tm, ck, fo, du) → Q (-4) (f1, A1)) (k1 : 0 ≤ (ar_spec (id, K0, K1, on, lnu, se, me) ids q X).1 → (st_commit p0 P c (dv_en (ar_spec (id, K0, K1, on, lnu, se, me) ids q X).2.1)).1 = 1 → ∀ f1 A1 T1, T <+: T1 → T1.length ≤ T.length + 42 → rc (A1 1) T1.length ≤ rc (A 1) T.length →  MT f1 A1 T1 DL G Kw → f1 16 = f 16 → RS f1 A1 T1 DL (fset dev q (ar_spec (id, K0, K1, on, lnu, se, me) ids q X).2.1) (fset sto q (st_commit p0 P c (dv_en (ar_spec (id, K0, K1, on, lnu, se, me) ids q X).2.1)).2) ws dir reg seen ls lo (dt, db, rt, fl, ll, tl, tf, tg, tm, ck, fo, du) → Q (-4) (f1, A1)) (k2 : 0 ≤ (ar_spec (id, K0, K1, on, lnu, se, me) ids q X).1 → (ar_spec (id, K0, K1, on, lnu, se, me) ids q X).1 ≠ 1 → (st_commit p0 P c (dv_en (ar_spec (id, K0, K1, on, lnu, se, me) ids q X).2.1)).1 = 2 → ∀ f1 A1 T1, T <+: T1 → T1.length ≤ T.length + 42 → rc (A1 1) T1.length ≤ rc (A 1) T.length →  MT f1 A1 T1 DL G Kw → (f1 16 = 1 ∨ f1 16 = f 16) → RS f1 A1 T1 DL (fset dev q (ar_spec (id, K0, K1, on, lnu, se, me) ids q X).2.1) (fset sto q (st_commit p0 P c (dv_en (ar_spec (id, K0, K1, on, lnu, se, me) ids q X).2.1)).2) ws dir reg seen ls lo (dt, db, rt, fl, ll, tl, tf, tg, tm, ck, fo, du) → Q (ar_spec (id, K0, K1, on, lnu, se, me) ids q X).1 (f1, A1)) (k3 : (ar_spec (id, K0, K1, on, lnu, se, me) ids q X).1 = 1 → (st_commit p0 P c (dv_en (ar_spec (id, K0, K1, on, lnu, se, me) ids q X).2.1)).1 = 2 → ∀ f1 A1 T1, T <+: T1 → T1.length ≤ T.length + 42 → rc (A1 1) T1.length ≤ rc (A 1) T.length →  MT f1 A1 T1 DL G Kw → (f1 16 = 1 ∨ f1 16 = f 16) → RS f1 A1 T1 DL (fset dev q (ar_spec (id, K0, K1, on, lnu, se, me) ids q X).2.1) (fset sto q (st_commit p0 P c (dv_en (ar_spec (id, K0, K1, on, lnu, se, me) ids q X).2.1)).2) ws dir reg seen (rt_ls ls lo q (ar_spec (id, K0, K1, on, lnu, se, me) ids q X).2.2.2.1 (ar_spec (id, K0, K1, on, lnu, se, me) ids q X).2.2.2.2.1 (ar_spec (id, K0, K1, on, lnu, se, me) ids q X).2.2.2.2.2 ck) lo (dt, db, rt, fl, ll, (upd tl q (rt_l lo (ar_spec (id, K0, K1, on, lnu, se, me) ids q X).2.2.2.2.1)), (upd tf q (ar_spec (id, K0, K1, on, lnu, se, me) ids q X).2.2.1), (upd tg q (ar_spec (id, K0, K1, on, lnu, se, me) ids q X).2.2.2.1), (upd tm q (tm q + 1)), ck, (rt_fo ls lo fl q (ar_spec (id, K0, K1, on, lnu, se, me) ids q X).2.2.1 (ar_spec (id, K0, K1, on, lnu, se, me) ids q X).2.2.2.1 (ar_spec (id, K0, K1, on, lnu, se, me) ids q X).2.2.2.2.1 fo), (rt_du ls lo fl q (ar_spec (id, K0, K1, on, lnu, se, me) ids q X).2.2.1 (ar_spec (id, K0, K1, on, lnu, se, me) ids q X).2.2.2.2.1 du)) → Q 1 (f1, A1)) : mGi sc (d + 8) 230 [.ref 1482, .int (nI q), .int (nI ti)] (f, A) Q := by
  have hTl := MT_len hM
  have hti := tv_lt hX
  have h00 := hM.1.1.1
  have hkd := MT_kd hM hX
  have h11 : f 11 = nI DL.length := hS.2.2.2.1.1
  have h21 : f 21 = ck := hS.2.2.2.1.2.1
  have hdv := hS.1.2.1 q hq
  rw [eD] at hdv
  have hids : ∀ q, q < 6 → tv T (A 16 q) (ids q) := fun q hq => by rw [eids]; exact hS.1.1 q hq
  have eI : id = ids q := by rw [eids]; show id = (dev q).1; rw [eD]
  rcases form_cases X with ⟨hF, kX, gH⟩ | ⟨hF, kX, gH⟩ | ⟨hF, kX, g6, kS, gH⟩ | ⟨hF, n5, n6⟩
  · obtain ⟨⟨p, hp, ep⟩, -⟩ := good3_n gH
    rw [ar_3 hF ep hp] at kN k0 k1 k2 k3 hen
    dsimp only at kN k0 k1 k2 k3 hen
    show mg sc (d + 8) 230 0 [(0, .ref 1482), (1, .int (nI q)), (2, .int (nI ti))] [] (f, A) _
    generalize elv : ([(0, .ref 1482), (1, .int (nI q)), (2, .int (nI ti))] : tm_L) = lv
    have l0 : lv.lookup 0 = some (.ref 1482) := by rw [← elv]; rfl
    have l1 : lv.lookup 1 = some (.int (nI q)) := by rw [← elv]; rfl
    have l2 : lv.lookup 2 = some (.int (nI ti)) := by rw [← elv]; rfl
    clear elv
    refine m_ald (pc' := 1) cd_Mo_comes rfl (Or.inr ⟨_, rfl, rfl, rfl⟩) l0 rfl rfl ?_
    refine m_ild (pc' := 2) cd_Mo_comes rfl (Or.inr ⟨_, rfl, rfl, rfl⟩) l1 rfl ?_
    refine m_cv (pc' := 5) cd_Mo_comes rfl rfl rfl rfl rfl cd_Mo_load rfl (Nat.le_of_ble_eq_true rfl) (m_load hq (fun gw hgw => ?_))
    have hDw : qDv gw T (id, K0, K1, on, lnu, se, me) := qDv_c (List.prefix_refl T) hgw hdv
    show mg _ _ _ 5 _ [] _ _
    refine m_ald (pc' := 6) cd_Mo_comes rfl (Or.inr ⟨_, rfl, rfl, rfl⟩) l0 rfl rfl ?_
    refine m_fI (k := 0) (x := (nI T.length)) (pc' := 9) cd_Mo_comes rfl rfl rfl rfl rfl h00 ?_
    refine m_ist (pc' := 10) cd_Mo_comes rfl (Or.inr ⟨_, rfl, rfl, rfl⟩) (by decide) rfl (fun lv el => ?_)
    have l0 := tm_lk el l0 rfl (by decide)
    have l1 := tm_lk el l1 rfl (by decide)
    have l2 := tm_lk el l2 rfl (by decide)
    have l3 : lv.lookup 3 = some (.int ((nI T.length))) := tm_lks el
    clear el
    refine m_ald (pc' := 11) cd_Mo_comes rfl (Or.inr ⟨_, rfl, rfl, rfl⟩) l0 rfl rfl ?_
    refine m_fR (r := 0) (a := 1) (ad := 1483) (pc' := 14) rfl rfl cd_Mo_comes rfl rfl rfl rfl rfl ?_
    refine m_ild (pc' := 15) cd_Mo_comes rfl (Or.inr ⟨_, rfl, rfl, rfl⟩) l2 rfl ?_
    refine m_aI (r := 0) (a := 1) (g := (A 1)) (x := (kd X)) (pc' := 16) rfl rfl cd_Mo_comes rfl rfl rfl (vp_in_nI (by omega) (by decide)) ((congrArg (A 1) (nI_clamp (by omega))).trans hkd) ?_
    refine m_k2 (v := 6) (pc' := 18) cd_Mo_comes rfl (by decide) rfl ?_
    refine m_if2 (t := 40) (pc' := 21) cd_Mo_comes rfl rfl rfl (fun c18 => ?_) (fun c18 => ?_)
    · have c18 : ¬ (kd X) = 6 := c18
      refine m_k1 (v := 0) (pc' := 41) cd_Mo_comes rfl (by decide) rfl ?_
      refine m_ist (pc' := 43) cd_Mo_comes rfl (Or.inl ⟨rfl, rfl⟩) (by decide) rfl (fun lv el => ?_)
      have l0 := tm_lk el l0 rfl (by decide)
      have l1 := tm_lk el l1 rfl (by decide)
      have l2 := tm_lk el l2 rfl (by decide)
      have l3 := tm_lk el l3 rfl (by decide)
      have l4 : lv.lookup 4 = some (.int 0) := tm_lks el
      clear el
      refine m_ald (pc' := 44) cd_Mo_comes rfl (Or.inr ⟨_, rfl, rfl, rfl⟩) l0 rfl rfl ?_
      refine m_ild (pc' := 45) cd_Mo_comes rfl (Or.inr ⟨_, rfl, rfl, rfl⟩) l2 rfl ?_
      refine m_k1 (v := 3) (pc' := 46) cd_Mo_comes rfl (by decide) rfl ?_
      refine m_ci (pc' := 49) cd_Mo_comes rfl rfl rfl rfl rfl cd_Mo_isSealed rfl (Nat.le_of_ble_eq_true rfl) (m_isSealed3 (by exact MT_i hM rfl rfl rfl rfl rfl rfl rfl rfl rfl rfl) hX ?_)
      show mg _ _ _ 49 _ [.int (bz (decide (kd X = 5) && Tgood 3 (pt X 1)))] _ _
      refine m_if1 (t := 61) (pc' := 52) cd_Mo_comes rfl rfl rfl (fun c49 => ?_) (fun c49 => ?_)
      · have c49 : (decide (kd X = 5) && Tgood 3 (pt X 1)) = false := bz_f c49
        exact absurd c49 (by rw [kX, gH]; decide)
      · have c49 : (decide (kd X = 5) && Tgood 3 (pt X 1)) = true := bz_t c49
        refine m_ald (pc' := 53) cd_Mo_comes rfl (Or.inr ⟨_, rfl, rfl, rfl⟩) l0 rfl rfl ?_
        refine m_ild (pc' := 54) cd_Mo_comes rfl (Or.inr ⟨_, rfl, rfl, rfl⟩) l1 rfl ?_
        refine m_ild (pc' := 55) cd_Mo_comes rfl (Or.inr ⟨_, rfl, rfl, rfl⟩) l2 rfl ?_
        refine m_ci (pc' := 58) cd_Mo_comes rfl rfl rfl rfl rfl cd_Mo_takeSealed rfl (Nat.le_of_ble_eq_true rfl) (m_takeSealed (ids := ids) (by exact MT_i hM rfl rfl rfl rfl rfl rfl rfl rfl rfl rfl) hl (by exact hr) hq hp hX kX gH ep (fun q hq => hids q hq) kid eI z0 z1 d0 d1 dn hse hDw (fun hneg f1 A1 T1 p1 q1 s1 hM1 => ?_) (fun hpos f1 A1 T1 p1 q1 s1 hM1 hD1 => ?_))
        · skip
          show mg _ _ _ 58 _ [.int ((ts_spec (id, K0, K1, on, lnu, se, me) ids q p X).1)] _ _
          refine m_pure (pc' := 112) (st' := [.int ((ts_spec (id, K0, K1, on, lnu, se, me) ids q p X).1)]) cd_Mo_comes rfl rfl (fun _ _ => rfl) ?_
          refine m_ist (pc' := 114) cd_Mo_comes rfl (Or.inl ⟨rfl, rfl⟩) (by decide) rfl (fun lv el => ?_)
          have l0 := tm_lk el l0 rfl (by decide)
          have l1 := tm_lk el l1 rfl (by decide)
          have l2 := tm_lk el l2 rfl (by decide)
          have l3 := tm_lk el l3 rfl (by decide)
          have l4 := tm_lk el l4 rfl (by decide)
          have l5 : lv.lookup 5 = some (.int ((ts_spec (id, K0, K1, on, lnu, se, me) ids q p X).1)) := tm_lks el
          clear el
          obtain ⟨E, rfl⟩ := p1
          refine l_mcoN (T := T) (E := E) (f := (mjKf f1 (fset (fset f 30 0) 32 0))) (A := (mjQA A1 (fset A 15 gw))) hM (by exact MT_i hM1 rfl rfl rfl rfl rfl rfl rfl rfl rfl rfl) hneg (fun f9 A9 hM9 => ?_) lv l0 l3 l5
          exact kN hneg _ _ (by exact MT_i hM9 rfl rfl rfl rfl rfl rfl rfl rfl rfl rfl) rfl (RS_p (f' := mjF f9 (mjKf f1 (fset (fset f 30 0) 32 0))) (A' := mjA A9 (mjQA A1 (fset A 15 gw))) hS (List.prefix_refl T) h11 h21 ⟨rfl, rfl, rfl, rfl, rfl⟩ ⟨rfl, rfl, rfl, rfl, rfl, rfl, rfl, rfl, rfl, rfl, rfl, rfl, rfl, rfl, rfl, rfl, rfl, rfl, rfl, rfl, rfl, rfl, rfl, rfl, rfl, rfl, rfl⟩ (fun i hi => tv_mono (List.prefix_refl T) (hS.2.1.2.1 i hi)) hS.2.2.2.2.1.1 hS.2.2.2.2.1.2.1 hS.2.2.2.2.1.2.2 hS.2.2.1.2)
        · skip
          show mg _ _ _ 58 _ [.int ((ts_spec (id, K0, K1, on, lnu, se, me) ids q p X).1)] _ _
          refine m_pure (pc' := 112) (st' := [.int ((ts_spec (id, K0, K1, on, lnu, se, me) ids q p X).1)]) cd_Mo_comes rfl rfl (fun _ _ => rfl) ?_
          refine m_ist (pc' := 114) cd_Mo_comes rfl (Or.inl ⟨rfl, rfl⟩) (by decide) rfl (fun lv el => ?_)
          have l0 := tm_lk el l0 rfl (by decide)
          have l1 := tm_lk el l1 rfl (by decide)
          have l2 := tm_lk el l2 rfl (by decide)
          have l3 := tm_lk el l3 rfl (by decide)
          have l4 := tm_lk el l4 rfl (by decide)
          have l5 : lv.lookup 5 = some (.int ((ts_spec (id, K0, K1, on, lnu, se, me) ids q p X).1)) := tm_lks el
          clear el
          have hkeep := ts_keep (id := id) (K0 := K0) (K1 := K1) (on := on) (lnu := lnu) (se := se) (me := me) (ids := ids) (q := q) (p := p) (A := X)
          have hz0n : (ts_spec (id, K0, K1, on, lnu, se, me) ids q p X).2.1.2.1.1 = tz ↔ (ts_spec (id, K0, K1, on, lnu, se, me) ids q p X).2.1.2.1.2.1 = 0 := by rw [hkeep.2.1, hkeep.2.2.1]; exact hz0
          have hz1n : (ts_spec (id, K0, K1, on, lnu, se, me) ids q p X).2.1.2.2.1.1 = tz ↔ (ts_spec (id, K0, K1, on, lnu, se, me) ids q p X).2.1.2.2.1.2.1 = 0 := by rw [hkeep.2.2.2.1, hkeep.2.2.2.2.1]; exact hz1
          refine l_mcoC (T := T1) (f := (mjKf f1 (fset (fset f 30 0) 32 0))) (A := (mjQA A1 (fset A 15 gw))) (x4 := 0) (v := (ts_spec (id, K0, K1, on, lnu, se, me) ids q p X).1) (c := c) (P := P) (p0 := p0) (by exact MT_i hM1 rfl rfl rfl rfl rfl rfl rfl rfl rfl rfl) (RS_p (f' := (mjKf f1 (fset (fset f 30 0) 32 0))) (A' := (mjQA A1 (fset A 15 gw))) hS p1 h11 h21 ⟨rfl, rfl, rfl, rfl, rfl⟩ ⟨rfl, rfl, rfl, rfl, rfl, rfl, rfl, rfl, rfl, rfl, rfl, rfl, rfl, rfl, rfl, rfl, rfl, rfl, rfl, rfl, rfl, rfl, rfl, rfl, rfl, rfl, rfl⟩ (fun i hi => tv_mono p1 (hS.2.1.2.1 i hi)) hS.2.2.2.2.1.1 hS.2.2.2.2.1.2.1 hS.2.2.2.2.1.2.2 hS.2.2.1.2) hws hq hpos rfl rfl (by rw [eD]; exact hkeep.1.symm) hD1 hz0n hz1n (hen hpos) hst (fun hc f5 A5 hM5 e1 e16 hS5 => ?_) (fun hc f5 A5 hM5 e1 e16 hS5 => ?_) (fun hc f5 A5 lv hM5 e1 e16 e44 e2_ e3_ hS5 l0 l1 l2 l4 l5 => ?_) lv l0 l1 l2 l4 l5
          · exact k0 hpos hc f5 A5 T1 p1 q1 (by rw [e1]; exact s1) hM5 e16 hS5
          · exact k1 hpos hc f5 A5 T1 p1 q1 (by rw [e1]; exact s1) hM5 e16 hS5
          · by_cases h1 : (ts_spec (id, K0, K1, on, lnu, se, me) ids q p X).1 = 1
            · have g4 := hkeep.2.2.2.2.2 h1
              rw [h1] at l5
              refine l_mcoTD (oc := (ts_spec (id, K0, K1, on, lnu, se, me) ids q p X).2.2) hM5 hS5 hq hp (pfx_get p1 hX) kX (good_k7 gH) (good_k7 g4) ep hlo (fun f6 A6 q6 r6 t6 => ?_) lv l0 l1 l2 l4 l5
              exact k3 h1 hc f6 A6 T1 p1 q1 (by rw [rc_MT q6 hM5, e1]; exact s1) q6 (by rw [r6]; exact e16) t6
            · refine l_mcoE h1 ?_ lv l0 l1 l2 l4 l5
              exact k2 hpos h1 hc f5 A5 T1 p1 q1 (by rw [e1]; exact s1) hM5 e16 hS5
    · have c18 : (kd X) = 6 := Classical.not_not.mp c18
      exact absurd (kX.symm.trans c18) (by decide)
  · obtain ⟨g, hg, eg⟩ := good6_g gH
    obtain ⟨t2, et2, ht2⟩ := MT_two hM hX (Or.inr (Or.inr kX))
    have ht2l := tv_lt ht2
    rcases hmg : me g with ⟨ve, ma, go, ge, ch, si, ix, ga, sl, gv⟩
    have hG0 := hdv.2.2.2 g hg
    rw [hmg] at hG0
    show mg sc (d + 8) 230 0 [(0, .ref 1482), (1, .int (nI q)), (2, .int (nI ti))] [] (f, A) _
    generalize elv : ([(0, .ref 1482), (1, .int (nI q)), (2, .int (nI ti))] : tm_L) = lv
    have l0 : lv.lookup 0 = some (.ref 1482) := by rw [← elv]; rfl
    have l1 : lv.lookup 1 = some (.int (nI q)) := by rw [← elv]; rfl
    have l2 : lv.lookup 2 = some (.int (nI ti)) := by rw [← elv]; rfl
    clear elv
    refine m_ald (pc' := 1) cd_Mo_comes rfl (Or.inr ⟨_, rfl, rfl, rfl⟩) l0 rfl rfl ?_
    refine m_ild (pc' := 2) cd_Mo_comes rfl (Or.inr ⟨_, rfl, rfl, rfl⟩) l1 rfl ?_
    refine m_cv (pc' := 5) cd_Mo_comes rfl rfl rfl rfl rfl cd_Mo_load rfl (Nat.le_of_ble_eq_true rfl) (m_load hq (fun gw hgw => ?_))
    have hDw : qDv gw T (id, K0, K1, on, lnu, se, me) := qDv_c (List.prefix_refl T) hgw hdv
    have hG := hDw.2.2.2 g hg
    rw [hmg] at hG
    show mg _ _ _ 5 _ [] _ _
    refine m_ald (pc' := 6) cd_Mo_comes rfl (Or.inr ⟨_, rfl, rfl, rfl⟩) l0 rfl rfl ?_
    refine m_fI (k := 0) (x := (nI T.length)) (pc' := 9) cd_Mo_comes rfl rfl rfl rfl rfl h00 ?_
    refine m_ist (pc' := 10) cd_Mo_comes rfl (Or.inr ⟨_, rfl, rfl, rfl⟩) (by decide) rfl (fun lv el => ?_)
    have l0 := tm_lk el l0 rfl (by decide)
    have l1 := tm_lk el l1 rfl (by decide)
    have l2 := tm_lk el l2 rfl (by decide)
    have l3 : lv.lookup 3 = some (.int ((nI T.length))) := tm_lks el
    clear el
    refine m_ald (pc' := 11) cd_Mo_comes rfl (Or.inr ⟨_, rfl, rfl, rfl⟩) l0 rfl rfl ?_
    refine m_fR (r := 0) (a := 1) (ad := 1483) (pc' := 14) rfl rfl cd_Mo_comes rfl rfl rfl rfl rfl ?_
    refine m_ild (pc' := 15) cd_Mo_comes rfl (Or.inr ⟨_, rfl, rfl, rfl⟩) l2 rfl ?_
    refine m_aI (r := 0) (a := 1) (g := (A 1)) (x := (kd X)) (pc' := 16) rfl rfl cd_Mo_comes rfl rfl rfl (vp_in_nI (by omega) (by decide)) ((congrArg (A 1) (nI_clamp (by omega))).trans hkd) ?_
    refine m_k2 (v := 6) (pc' := 18) cd_Mo_comes rfl (by decide) rfl ?_
    refine m_if2 (t := 40) (pc' := 21) cd_Mo_comes rfl rfl rfl (fun c18 => ?_) (fun c18 => ?_)
    · have c18 : ¬ (kd X) = 6 := c18
      exact absurd kX c18
    · have c18 : (kd X) = 6 := Classical.not_not.mp c18
      refine m_ald (pc' := 22) cd_Mo_comes rfl (Or.inr ⟨_, rfl, rfl, rfl⟩) l0 rfl rfl ?_
      refine m_ald (pc' := 23) cd_Mo_comes rfl (Or.inr ⟨_, rfl, rfl, rfl⟩) l0 rfl rfl ?_
      refine m_fR (r := 2) (a := 3) (ad := 1485) (pc' := 26) rfl rfl cd_Mo_comes rfl rfl rfl rfl rfl ?_
      refine m_ild (pc' := 27) cd_Mo_comes rfl (Or.inr ⟨_, rfl, rfl, rfl⟩) l2 rfl ?_
      refine m_aI (r := 2) (a := 3) (g := (A 3)) (x := nI t2) (pc' := 28) rfl rfl cd_Mo_comes rfl rfl rfl (vp_in_nI (by omega) (by decide)) ((congrArg (A 3) (nI_clamp (by omega))).trans et2) ?_
      refine m_k2 (v := 7) (pc' := 30) cd_Mo_comes rfl (by decide) rfl ?_
      refine m_ci (pc' := 33) cd_Mo_comes rfl rfl rfl rfl rfl cd_Mo_isSealed rfl (Nat.le_of_ble_eq_true rfl) (m_isSealed7 (by exact MT_i hM rfl rfl rfl rfl rfl rfl rfl rfl rfl rfl) ht2 ?_)
      show mg _ _ _ 33 _ [.int (bz (decide (kd (pt X 1) = 5) && Tgood 7 (pt (pt X 1) 1)))] _ _
      refine m_if1 (t := 40) (pc' := 36) cd_Mo_comes rfl rfl rfl (fun c33 => ?_) (fun c33 => ?_)
      · have c33 : (decide (kd (pt X 1) = 5) && Tgood 7 (pt (pt X 1) 1)) = false := bz_f c33
        refine m_k1 (v := 0) (pc' := 41) cd_Mo_comes rfl (by decide) rfl ?_
        refine m_ist (pc' := 43) cd_Mo_comes rfl (Or.inl ⟨rfl, rfl⟩) (by decide) rfl (fun lv el => ?_)
        have l0 := tm_lk el l0 rfl (by decide)
        have l1 := tm_lk el l1 rfl (by decide)
        have l2 := tm_lk el l2 rfl (by decide)
        have l3 := tm_lk el l3 rfl (by decide)
        have l4 : lv.lookup 4 = some (.int 0) := tm_lks el
        clear el
        refine m_ald (pc' := 44) cd_Mo_comes rfl (Or.inr ⟨_, rfl, rfl, rfl⟩) l0 rfl rfl ?_
        refine m_ild (pc' := 45) cd_Mo_comes rfl (Or.inr ⟨_, rfl, rfl, rfl⟩) l2 rfl ?_
        refine m_k1 (v := 3) (pc' := 46) cd_Mo_comes rfl (by decide) rfl ?_
        refine m_ci (pc' := 49) cd_Mo_comes rfl rfl rfl rfl rfl cd_Mo_isSealed rfl (Nat.le_of_ble_eq_true rfl) (m_isSealed3 (by exact MT_i hM rfl rfl rfl rfl rfl rfl rfl rfl rfl rfl) hX ?_)
        show mg _ _ _ 49 _ [.int (bz (decide (kd X = 5) && Tgood 3 (pt X 1)))] _ _
        refine m_if1 (t := 61) (pc' := 52) cd_Mo_comes rfl rfl rfl (fun c49 => ?_) (fun c49 => ?_)
        · have c49 : (decide (kd X = 5) && Tgood 3 (pt X 1)) = false := bz_f c49
          refine m_ald (pc' := 62) cd_Mo_comes rfl (Or.inr ⟨_, rfl, rfl, rfl⟩) l0 rfl rfl ?_
          refine m_fR (r := 0) (a := 1) (ad := 1483) (pc' := 65) rfl rfl cd_Mo_comes rfl rfl rfl rfl rfl ?_
          refine m_ild (pc' := 66) cd_Mo_comes rfl (Or.inr ⟨_, rfl, rfl, rfl⟩) l2 rfl ?_
          refine m_aI (r := 0) (a := 1) (g := (A 1)) (x := (kd X)) (pc' := 67) rfl rfl cd_Mo_comes rfl rfl rfl (vp_in_nI (by omega) (by decide)) ((congrArg (A 1) (nI_clamp (by omega))).trans hkd) ?_
          refine m_k2 (v := 6) (pc' := 69) cd_Mo_comes rfl (by decide) rfl ?_
          refine m_if2 (t := 96) (pc' := 72) cd_Mo_comes rfl rfl rfl (fun c69 => ?_) (fun c69 => ?_)
          · have c69 : ¬ (kd X) = 6 := c69
            exact absurd kX c69
          · have c69 : (kd X) = 6 := Classical.not_not.mp c69
            refine m_ald (pc' := 73) cd_Mo_comes rfl (Or.inr ⟨_, rfl, rfl, rfl⟩) l0 rfl rfl ?_
            refine m_ald (pc' := 74) cd_Mo_comes rfl (Or.inr ⟨_, rfl, rfl, rfl⟩) l0 rfl rfl ?_
            refine m_fR (r := 2) (a := 3) (ad := 1485) (pc' := 77) rfl rfl cd_Mo_comes rfl rfl rfl rfl rfl ?_
            refine m_ild (pc' := 78) cd_Mo_comes rfl (Or.inr ⟨_, rfl, rfl, rfl⟩) l2 rfl ?_
            refine m_aI (r := 2) (a := 3) (g := (A 3)) (x := nI t2) (pc' := 79) rfl rfl cd_Mo_comes rfl rfl rfl (vp_in_nI (by omega) (by decide)) ((congrArg (A 3) (nI_clamp (by omega))).trans et2) ?_
            refine m_k2 (v := 6) (pc' := 81) cd_Mo_comes rfl (by decide) rfl ?_
            refine m_ci (pc' := 84) cd_Mo_comes rfl rfl rfl rfl rfl cd_Mo_isGood rfl (Nat.le_of_ble_eq_true rfl) (m_isGood6 (by exact MT_i hM rfl rfl rfl rfl rfl rfl rfl rfl rfl rfl) ht2 ?_)
            show mg _ _ _ 84 _ [.int (bz (Tgood 6 (pt X 1)))] _ _
            refine m_if1 (t := 96) (pc' := 87) cd_Mo_comes rfl rfl rfl (fun c84 => ?_) (fun c84 => ?_)
            · have c84 : (Tgood 6 (pt X 1)) = false := bz_f c84
              exact absurd (c84.symm.trans gH) (by decide)
            · have c84 : (Tgood 6 (pt X 1)) = true := bz_t c84
              refine m_ald (pc' := 88) cd_Mo_comes rfl (Or.inr ⟨_, rfl, rfl, rfl⟩) l0 rfl rfl ?_
              refine m_ild (pc' := 89) cd_Mo_comes rfl (Or.inr ⟨_, rfl, rfl, rfl⟩) l1 rfl ?_
              refine m_ild (pc' := 90) cd_Mo_comes rfl (Or.inr ⟨_, rfl, rfl, rfl⟩) l2 rfl ?_
              refine m_ci (pc' := 93) cd_Mo_comes rfl rfl rfl rfl rfl cd_Mo_takeList rfl (Nat.le_of_ble_eq_true rfl) (m_takeList (ids := ids) (by exact MT_i hM rfl rfl rfl rfl rfl rfl rfl rfl rfl rfl) hq hg hX kX gH eg (fun q hq => hids q hq) hG (fun hno => ?_) (fun hok h hm hf => ?_))
              · skip
                show mg _ _ _ 93 _ [.int (-16)] _ _
                refine m_pure (pc' := 112) (st' := [.int (-16)]) cd_Mo_comes rfl rfl (fun _ _ => rfl) ?_
                refine m_ist (pc' := 114) cd_Mo_comes rfl (Or.inl ⟨rfl, rfl⟩) (by decide) rfl (fun lv el => ?_)
                have l0 := tm_lk el l0 rfl (by decide)
                have l1 := tm_lk el l1 rfl (by decide)
                have l2 := tm_lk el l2 rfl (by decide)
                have l3 := tm_lk el l3 rfl (by decide)
                have l4 := tm_lk el l4 rfl (by decide)
                have l5 : lv.lookup 5 = some (.int (-16)) := tm_lks el
                clear el
                rw [ar_6f hF eg hg (by rw [hmg]; exact hno)] at kN
                have hneg : (-16 : Int32) < 0 := by decide
                refine l_mcoN (T := T) (E := []) (f := (fset (fset f 30 0) 32 0)) (A := (fset A 15 gw)) hM (by rw [List.append_nil]; exact MT_i hM rfl rfl rfl rfl rfl rfl rfl rfl rfl rfl) hneg (fun f9 A9 hM9 => ?_) lv l0 l3 l5
                exact kN hneg _ _ (by exact MT_i hM9 rfl rfl rfl rfl rfl rfl rfl rfl rfl rfl) rfl (RS_p (f' := mjF f9 (fset (fset f 30 0) 32 0)) (A' := mjA A9 (fset A 15 gw)) hS (List.prefix_refl T) h11 h21 ⟨rfl, rfl, rfl, rfl, rfl⟩ ⟨rfl, rfl, rfl, rfl, rfl, rfl, rfl, rfl, rfl, rfl, rfl, rfl, rfl, rfl, rfl, rfl, rfl, rfl, rfl, rfl, rfl, rfl, rfl, rfl, rfl, rfl, rfl⟩ (fun i hi => tv_mono (List.prefix_refl T) (hS.2.1.2.1 i hi)) hS.2.2.2.2.1.1 hS.2.2.2.2.1.2.1 hS.2.2.2.2.1.2.2 hS.2.2.1.2)
              · skip
                show mg _ _ _ 93 _ [.int 3] _ _
                refine m_pure (pc' := 112) (st' := [.int 3]) cd_Mo_comes rfl rfl (fun _ _ => rfl) ?_
                refine m_ist (pc' := 114) cd_Mo_comes rfl (Or.inl ⟨rfl, rfl⟩) (by decide) rfl (fun lv el => ?_)
                have l0 := tm_lk el l0 rfl (by decide)
                have l1 := tm_lk el l1 rfl (by decide)
                have l2 := tm_lk el l2 rfl (by decide)
                have l3 := tm_lk el l3 rfl (by decide)
                have l4 := tm_lk el l4 rfl (by decide)
                have l5 : lv.lookup 5 = some (.int 3) := tm_lks el
                clear el
                have hD1 := qDv_grp hg hDw (List.prefix_refl T) hm hf
                rw [← hmg] at hD1
                have hpos : (0 : Int32) ≤ 3 := by decide
                rw [ar_6t hF eg hg (by rw [hmg]; exact hok)] at k0 k1 k2 hen
                dsimp only at k0 k1 k2 hen
                refine l_mcoC (T := T) (f := (fset (fset f 30 0) 32 0)) (A := (fset (fset A 15 gw) 15 h)) (x4 := 0) (v := 3) (c := c) (P := P) (p0 := p0) (by exact MT_i hM rfl rfl rfl rfl rfl rfl rfl rfl rfl rfl) (RS_p (f' := (fset (fset f 30 0) 32 0)) (A' := (fset (fset A 15 gw) 15 h)) hS (List.prefix_refl T) h11 h21 ⟨rfl, rfl, rfl, rfl, rfl⟩ ⟨rfl, rfl, rfl, rfl, rfl, rfl, rfl, rfl, rfl, rfl, rfl, rfl, rfl, rfl, rfl, rfl, rfl, rfl, rfl, rfl, rfl, rfl, rfl, rfl, rfl, rfl, rfl⟩ (fun i hi => tv_mono (List.prefix_refl T) (hS.2.1.2.1 i hi)) hS.2.2.2.2.1.1 hS.2.2.2.2.1.2.1 hS.2.2.2.2.1.2.2 hS.2.2.1.2) hws hq hpos rfl rfl (by rw [eD]) hD1 hz0 hz1 (hen hpos) hst (fun hc f5 A5 hM5 e1 e16 hS5 => ?_) (fun hc f5 A5 hM5 e1 e16 hS5 => ?_) (fun hc f5 A5 lv hM5 e1 e16 e44 e2_ e3_ hS5 l0 l1 l2 l4 l5 => ?_) lv l0 l1 l2 l4 l5
                · exact k0 hpos hc f5 A5 T (List.prefix_refl T) (by omega) (by rw [e1]; exact Nat.le_refl _) hM5 e16 hS5
                · exact k1 hpos hc f5 A5 T (List.prefix_refl T) (by omega) (by rw [e1]; exact Nat.le_refl _) hM5 e16 hS5
                · refine l_mcoE (by decide) ?_ lv l0 l1 l2 l4 l5
                  exact k2 (by decide) (by decide) hc f5 A5 T (List.prefix_refl T) (by omega) (by rw [e1]; exact Nat.le_refl _) hM5 e16 hS5
        · have c49 : (decide (kd X = 5) && Tgood 3 (pt X 1)) = true := bz_t c49
          exact absurd c49 (by rw [kX]; show ¬ false = true; decide)
      · have c33 : (decide (kd (pt X 1) = 5) && Tgood 7 (pt (pt X 1) 1)) = true := bz_t c33
        exact absurd c33 (by rw [good_k7 gH]; show ¬ false = true; decide)
  · obtain ⟨⟨g, hg, eg⟩, p, hp, ep⟩ := good7_gp gH
    obtain ⟨t2, et2, ht2⟩ := MT_two hM hX (Or.inr (Or.inr kX))
    have ht2l := tv_lt ht2
    rcases hmg : me g with ⟨ve, ma, go, ge, ch, si, ix, ga, sl, gv⟩
    have hv1 : ve = 0 → ma = 0 := by have q := hv0 g; rw [hmg] at q; exact q
    have hgv : ∀ (k : Nat) (S : GV), (gv p)[k]? = some S → S.1.1 ≠ tz ∧ (∃ nn, nn ≤ 10000 ∧ S.1.2.2.1 = nI nn) ∧ ∀ e, e ∈ S.1.2.2.2 → e.1 = S.1.1 := by have q := hme g p; rw [hmg] at q; exact q
    show mg sc (d + 8) 230 0 [(0, .ref 1482), (1, .int (nI q)), (2, .int (nI ti))] [] (f, A) _
    generalize elv : ([(0, .ref 1482), (1, .int (nI q)), (2, .int (nI ti))] : tm_L) = lv
    have l0 : lv.lookup 0 = some (.ref 1482) := by rw [← elv]; rfl
    have l1 : lv.lookup 1 = some (.int (nI q)) := by rw [← elv]; rfl
    have l2 : lv.lookup 2 = some (.int (nI ti)) := by rw [← elv]; rfl
    clear elv
    refine m_ald (pc' := 1) cd_Mo_comes rfl (Or.inr ⟨_, rfl, rfl, rfl⟩) l0 rfl rfl ?_
    refine m_ild (pc' := 2) cd_Mo_comes rfl (Or.inr ⟨_, rfl, rfl, rfl⟩) l1 rfl ?_
    refine m_cv (pc' := 5) cd_Mo_comes rfl rfl rfl rfl rfl cd_Mo_load rfl (Nat.le_of_ble_eq_true rfl) (m_load hq (fun gw hgw => ?_))
    have hDw : qDv gw T (id, K0, K1, on, lnu, se, me) := qDv_c (List.prefix_refl T) hgw hdv
    have hG := hDw.2.2.2 g hg
    rw [hmg] at hG
    show mg _ _ _ 5 _ [] _ _
    refine m_ald (pc' := 6) cd_Mo_comes rfl (Or.inr ⟨_, rfl, rfl, rfl⟩) l0 rfl rfl ?_
    refine m_fI (k := 0) (x := (nI T.length)) (pc' := 9) cd_Mo_comes rfl rfl rfl rfl rfl h00 ?_
    refine m_ist (pc' := 10) cd_Mo_comes rfl (Or.inr ⟨_, rfl, rfl, rfl⟩) (by decide) rfl (fun lv el => ?_)
    have l0 := tm_lk el l0 rfl (by decide)
    have l1 := tm_lk el l1 rfl (by decide)
    have l2 := tm_lk el l2 rfl (by decide)
    have l3 : lv.lookup 3 = some (.int ((nI T.length))) := tm_lks el
    clear el
    refine m_ald (pc' := 11) cd_Mo_comes rfl (Or.inr ⟨_, rfl, rfl, rfl⟩) l0 rfl rfl ?_
    refine m_fR (r := 0) (a := 1) (ad := 1483) (pc' := 14) rfl rfl cd_Mo_comes rfl rfl rfl rfl rfl ?_
    refine m_ild (pc' := 15) cd_Mo_comes rfl (Or.inr ⟨_, rfl, rfl, rfl⟩) l2 rfl ?_
    refine m_aI (r := 0) (a := 1) (g := (A 1)) (x := (kd X)) (pc' := 16) rfl rfl cd_Mo_comes rfl rfl rfl (vp_in_nI (by omega) (by decide)) ((congrArg (A 1) (nI_clamp (by omega))).trans hkd) ?_
    refine m_k2 (v := 6) (pc' := 18) cd_Mo_comes rfl (by decide) rfl ?_
    refine m_if2 (t := 40) (pc' := 21) cd_Mo_comes rfl rfl rfl (fun c18 => ?_) (fun c18 => ?_)
    · have c18 : ¬ (kd X) = 6 := c18
      exact absurd kX c18
    · have c18 : (kd X) = 6 := Classical.not_not.mp c18
      refine m_ald (pc' := 22) cd_Mo_comes rfl (Or.inr ⟨_, rfl, rfl, rfl⟩) l0 rfl rfl ?_
      refine m_ald (pc' := 23) cd_Mo_comes rfl (Or.inr ⟨_, rfl, rfl, rfl⟩) l0 rfl rfl ?_
      refine m_fR (r := 2) (a := 3) (ad := 1485) (pc' := 26) rfl rfl cd_Mo_comes rfl rfl rfl rfl rfl ?_
      refine m_ild (pc' := 27) cd_Mo_comes rfl (Or.inr ⟨_, rfl, rfl, rfl⟩) l2 rfl ?_
      refine m_aI (r := 2) (a := 3) (g := (A 3)) (x := nI t2) (pc' := 28) rfl rfl cd_Mo_comes rfl rfl rfl (vp_in_nI (by omega) (by decide)) ((congrArg (A 3) (nI_clamp (by omega))).trans et2) ?_
      refine m_k2 (v := 7) (pc' := 30) cd_Mo_comes rfl (by decide) rfl ?_
      refine m_ci (pc' := 33) cd_Mo_comes rfl rfl rfl rfl rfl cd_Mo_isSealed rfl (Nat.le_of_ble_eq_true rfl) (m_isSealed7 (by exact MT_i hM rfl rfl rfl rfl rfl rfl rfl rfl rfl rfl) ht2 ?_)
      show mg _ _ _ 33 _ [.int (bz (decide (kd (pt X 1) = 5) && Tgood 7 (pt (pt X 1) 1)))] _ _
      refine m_if1 (t := 40) (pc' := 36) cd_Mo_comes rfl rfl rfl (fun c33 => ?_) (fun c33 => ?_)
      · have c33 : (decide (kd (pt X 1) = 5) && Tgood 7 (pt (pt X 1) 1)) = false := bz_f c33
        exact absurd c33 (by rw [kS, gH]; decide)
      · have c33 : (decide (kd (pt X 1) = 5) && Tgood 7 (pt (pt X 1) 1)) = true := bz_t c33
        refine m_k1 (v := 1) (pc' := 37) cd_Mo_comes rfl (by decide) rfl ?_
        refine m_pure (pc' := 41) (st' := [.int 1]) cd_Mo_comes rfl rfl (fun _ _ => rfl) ?_
        refine m_ist (pc' := 43) cd_Mo_comes rfl (Or.inl ⟨rfl, rfl⟩) (by decide) rfl (fun lv el => ?_)
        have l0 := tm_lk el l0 rfl (by decide)
        have l1 := tm_lk el l1 rfl (by decide)
        have l2 := tm_lk el l2 rfl (by decide)
        have l3 := tm_lk el l3 rfl (by decide)
        have l4 : lv.lookup 4 = some (.int 1) := tm_lks el
        clear el
        refine m_ald (pc' := 44) cd_Mo_comes rfl (Or.inr ⟨_, rfl, rfl, rfl⟩) l0 rfl rfl ?_
        refine m_ild (pc' := 45) cd_Mo_comes rfl (Or.inr ⟨_, rfl, rfl, rfl⟩) l2 rfl ?_
        refine m_k1 (v := 3) (pc' := 46) cd_Mo_comes rfl (by decide) rfl ?_
        refine m_ci (pc' := 49) cd_Mo_comes rfl rfl rfl rfl rfl cd_Mo_isSealed rfl (Nat.le_of_ble_eq_true rfl) (m_isSealed3 (by exact MT_i hM rfl rfl rfl rfl rfl rfl rfl rfl rfl rfl) hX ?_)
        show mg _ _ _ 49 _ [.int (bz (decide (kd X = 5) && Tgood 3 (pt X 1)))] _ _
        refine m_if1 (t := 61) (pc' := 52) cd_Mo_comes rfl rfl rfl (fun c49 => ?_) (fun c49 => ?_)
        · have c49 : (decide (kd X = 5) && Tgood 3 (pt X 1)) = false := bz_f c49
          refine m_ald (pc' := 62) cd_Mo_comes rfl (Or.inr ⟨_, rfl, rfl, rfl⟩) l0 rfl rfl ?_
          refine m_fR (r := 0) (a := 1) (ad := 1483) (pc' := 65) rfl rfl cd_Mo_comes rfl rfl rfl rfl rfl ?_
          refine m_ild (pc' := 66) cd_Mo_comes rfl (Or.inr ⟨_, rfl, rfl, rfl⟩) l2 rfl ?_
          refine m_aI (r := 0) (a := 1) (g := (A 1)) (x := (kd X)) (pc' := 67) rfl rfl cd_Mo_comes rfl rfl rfl (vp_in_nI (by omega) (by decide)) ((congrArg (A 1) (nI_clamp (by omega))).trans hkd) ?_
          refine m_k2 (v := 6) (pc' := 69) cd_Mo_comes rfl (by decide) rfl ?_
          refine m_if2 (t := 96) (pc' := 72) cd_Mo_comes rfl rfl rfl (fun c69 => ?_) (fun c69 => ?_)
          · have c69 : ¬ (kd X) = 6 := c69
            exact absurd kX c69
          · have c69 : (kd X) = 6 := Classical.not_not.mp c69
            refine m_ald (pc' := 73) cd_Mo_comes rfl (Or.inr ⟨_, rfl, rfl, rfl⟩) l0 rfl rfl ?_
            refine m_ald (pc' := 74) cd_Mo_comes rfl (Or.inr ⟨_, rfl, rfl, rfl⟩) l0 rfl rfl ?_
            refine m_fR (r := 2) (a := 3) (ad := 1485) (pc' := 77) rfl rfl cd_Mo_comes rfl rfl rfl rfl rfl ?_
            refine m_ild (pc' := 78) cd_Mo_comes rfl (Or.inr ⟨_, rfl, rfl, rfl⟩) l2 rfl ?_
            refine m_aI (r := 2) (a := 3) (g := (A 3)) (x := nI t2) (pc' := 79) rfl rfl cd_Mo_comes rfl rfl rfl (vp_in_nI (by omega) (by decide)) ((congrArg (A 3) (nI_clamp (by omega))).trans et2) ?_
            refine m_k2 (v := 6) (pc' := 81) cd_Mo_comes rfl (by decide) rfl ?_
            refine m_ci (pc' := 84) cd_Mo_comes rfl rfl rfl rfl rfl cd_Mo_isGood rfl (Nat.le_of_ble_eq_true rfl) (m_isGood6 (by exact MT_i hM rfl rfl rfl rfl rfl rfl rfl rfl rfl rfl) ht2 ?_)
            show mg _ _ _ 84 _ [.int (bz (Tgood 6 (pt X 1)))] _ _
            refine m_if1 (t := 96) (pc' := 87) cd_Mo_comes rfl rfl rfl (fun c84 => ?_) (fun c84 => ?_)
            · have c84 : (Tgood 6 (pt X 1)) = false := bz_f c84
              refine m_ild (pc' := 98) cd_Mo_comes rfl (Or.inl ⟨rfl, rfl⟩) l4 rfl ?_
              refine m_if1 (t := 110) (pc' := 101) cd_Mo_comes rfl rfl rfl (fun c98 => ?_) (fun c98 => ?_)
              · exact absurd (show (1 : Int32) = 0 from c98) (by decide)
              · have c98 : ¬ (1 : Int32) = 0 := c98
                refine m_ald (pc' := 102) cd_Mo_comes rfl (Or.inr ⟨_, rfl, rfl, rfl⟩) l0 rfl rfl ?_
                refine m_ild (pc' := 103) cd_Mo_comes rfl (Or.inr ⟨_, rfl, rfl, rfl⟩) l1 rfl ?_
                refine m_ild (pc' := 104) cd_Mo_comes rfl (Or.inr ⟨_, rfl, rfl, rfl⟩) l2 rfl ?_
                refine m_ci (pc' := 107) cd_Mo_comes rfl rfl rfl rfl rfl cd_Mo_takePost rfl (Nat.le_of_ble_eq_true rfl) (m_takePost (by exact MT_i hM rfl rfl rfl rfl rfl rfl rfl rfl rfl rfl) (by omega) (by exact hr) hq hp hg hX kX kS gH eg ep hG hv1 hgv (fun hneg f1 A1 T1 p1 q1 s1 hM1 => ?_) (fun hpos f1 A1 T1 p1 q1 s1 hM1 hm hf h21m => ?_))
                · skip
                  show mg _ _ _ 107 _ [.int ((tp_spec X q p (ve, ma, go, ge, ch, si, ix, ga, sl, gv)).1)] _ _
                  refine m_pure (pc' := 112) (st' := [.int ((tp_spec X q p (ve, ma, go, ge, ch, si, ix, ga, sl, gv)).1)]) cd_Mo_comes rfl rfl (fun _ _ => rfl) ?_
                  refine m_ist (pc' := 114) cd_Mo_comes rfl (Or.inl ⟨rfl, rfl⟩) (by decide) rfl (fun lv el => ?_)
                  have l0 := tm_lk el l0 rfl (by decide)
                  have l1 := tm_lk el l1 rfl (by decide)
                  have l2 := tm_lk el l2 rfl (by decide)
                  have l3 := tm_lk el l3 rfl (by decide)
                  have l4 := tm_lk el l4 rfl (by decide)
                  have l5 : lv.lookup 5 = some (.int ((tp_spec X q p (ve, ma, go, ge, ch, si, ix, ga, sl, gv)).1)) := tm_lks el
                  clear el
                  rw [ar_7 hF eg hg ep hp, hmg] at kN
                  dsimp only at kN
                  obtain ⟨E, rfl⟩ := p1
                  refine l_mcoN (T := T) (E := E) (f := (mjKf f1 (fset (fset f 30 0) 32 0))) (A := (mjQA A1 (fset A 15 gw))) hM (by exact MT_i hM1 rfl rfl rfl rfl rfl rfl rfl rfl rfl rfl) hneg (fun f9 A9 hM9 => ?_) lv l0 l3 l5
                  exact kN hneg _ _ (by exact MT_i hM9 rfl rfl rfl rfl rfl rfl rfl rfl rfl rfl) rfl (RS_p (f' := mjF f9 (mjKf f1 (fset (fset f 30 0) 32 0))) (A' := mjA A9 (mjQA A1 (fset A 15 gw))) hS (List.prefix_refl T) h11 h21 ⟨rfl, rfl, rfl, rfl, rfl⟩ ⟨rfl, rfl, rfl, rfl, rfl, rfl, rfl, rfl, rfl, rfl, rfl, rfl, rfl, rfl, rfl, rfl, rfl, rfl, rfl, rfl, rfl, rfl, rfl, rfl, rfl, rfl, rfl⟩ (fun i hi => tv_mono (List.prefix_refl T) (hS.2.1.2.1 i hi)) hS.2.2.2.2.1.1 hS.2.2.2.2.1.2.1 hS.2.2.2.2.1.2.2 hS.2.2.1.2)
                · skip
                  show mg _ _ _ 107 _ [.int 1] _ _
                  refine m_pure (pc' := 112) (st' := [.int 1]) cd_Mo_comes rfl rfl (fun _ _ => rfl) ?_
                  refine m_ist (pc' := 114) cd_Mo_comes rfl (Or.inl ⟨rfl, rfl⟩) (by decide) rfl (fun lv el => ?_)
                  have l0 := tm_lk el l0 rfl (by decide)
                  have l1 := tm_lk el l1 rfl (by decide)
                  have l2 := tm_lk el l2 rfl (by decide)
                  have l3 := tm_lk el l3 rfl (by decide)
                  have l4 := tm_lk el l4 rfl (by decide)
                  have l5 : lv.lookup 5 = some (.int 1) := tm_lks el
                  clear el
                  have hpos2 : (tp_spec X q p (me g)).1 = 1 := by rw [hmg]; exact hpos
                  have hD1 := qDv_grp (M := (tp_spec X q p (me g)).2) hg hDw p1 (by rw [hmg]; exact hm) hf
                  have hposi : (0 : Int32) ≤ 1 := by decide
                  have hr7 := ar_7 (id := id) (K0 := K0) (K1 := K1) (on := on) (lnu := lnu) (se := se) (me := me) (ids := ids) (q := q) hF eg hg ep hp
                  rw [hpos2] at hr7
                  rw [hr7] at k0 k1 k3 hen
                  dsimp only at k0 k1 k3 hen
                  refine l_mcoC (T := T1) (f := (mjKf f1 (fset (fset f 30 0) 32 0))) (A := (mjQA A1 (fset A 15 gw))) (x4 := 1) (v := 1) (c := c) (P := P) (p0 := p0) (by exact MT_i hM1 rfl rfl rfl rfl rfl rfl rfl rfl rfl rfl) (RS_p (f' := (mjKf f1 (fset (fset f 30 0) 32 0))) (A' := (mjQA A1 (fset A 15 gw))) hS p1 h11 h21 ⟨rfl, rfl, rfl, rfl, rfl⟩ ⟨rfl, rfl, rfl, rfl, rfl, rfl, rfl, rfl, rfl, rfl, rfl, rfl, rfl, rfl, rfl, rfl, rfl, rfl, rfl, rfl, rfl, rfl, rfl, rfl, rfl, rfl, rfl⟩ (fun i hi => tv_mono p1 (hS.2.1.2.1 i hi)) hS.2.2.2.2.1.1 hS.2.2.2.2.1.2.1 hS.2.2.2.2.1.2.2 hS.2.2.1.2) hws hq hposi rfl rfl (by rw [eD]) hD1 hz0 hz1 (hen hposi) hst (fun hc f5 A5 hM5 e1 e16 hS5 => ?_) (fun hc f5 A5 hM5 e1 e16 hS5 => ?_) (fun hc f5 A5 lv hM5 e1 e16 e44 e2_ e3_ hS5 l0 l1 l2 l4 l5 => ?_) lv l0 l1 l2 l4 l5
                  · exact k0 hposi hc f5 A5 T1 p1 (by omega) (by rw [e1]; exact s1) hM5 e16 hS5
                  · exact k1 hposi hc f5 A5 T1 p1 (by omega) (by rw [e1]; exact s1) hM5 e16 hS5
                  · have g4 := tp_g4 hpos
                    refine l_mcoTP (oc := tp_one X p (me g)) hM5 hS5 hq hp (pfx_get p1 hX) kX kS (good_k7 gH) (good_k7 g4) ep (by rw [eg]; exact nI_nm1 (by omega)) (by rw [e44, hmg]; exact h21m) hlo (fun f6 A6 q6 r6 t6 => ?_) lv l0 l1 l2 l4 l5
                    rw [eg] at t6
                    exact k3 rfl hc f6 A6 T1 p1 (by omega) (by rw [rc_MT q6 hM5, e1]; exact s1) q6 (by rw [r6]; exact e16) t6
            · have c84 : (Tgood 6 (pt X 1)) = true := bz_t c84
              exact absurd (c84.symm.trans g6) (by decide)
        · have c49 : (decide (kd X = 5) && Tgood 3 (pt X 1)) = true := bz_t c49
          exact absurd c49 (by rw [kX]; show ¬ false = true; decide)
  · skip
    show mg sc (d + 8) 230 0 [(0, .ref 1482), (1, .int (nI q)), (2, .int (nI ti))] [] (f, A) _
    generalize elv : ([(0, .ref 1482), (1, .int (nI q)), (2, .int (nI ti))] : tm_L) = lv
    have l0 : lv.lookup 0 = some (.ref 1482) := by rw [← elv]; rfl
    have l1 : lv.lookup 1 = some (.int (nI q)) := by rw [← elv]; rfl
    have l2 : lv.lookup 2 = some (.int (nI ti)) := by rw [← elv]; rfl
    clear elv
    refine m_ald (pc' := 1) cd_Mo_comes rfl (Or.inr ⟨_, rfl, rfl, rfl⟩) l0 rfl rfl ?_
    refine m_ild (pc' := 2) cd_Mo_comes rfl (Or.inr ⟨_, rfl, rfl, rfl⟩) l1 rfl ?_
    refine m_cv (pc' := 5) cd_Mo_comes rfl rfl rfl rfl rfl cd_Mo_load rfl (Nat.le_of_ble_eq_true rfl) (m_load hq (fun gw hgw => ?_))
    have hDw : qDv gw T (id, K0, K1, on, lnu, se, me) := qDv_c (List.prefix_refl T) hgw hdv
    show mg _ _ _ 5 _ [] _ _
    refine m_ald (pc' := 6) cd_Mo_comes rfl (Or.inr ⟨_, rfl, rfl, rfl⟩) l0 rfl rfl ?_
    refine m_fI (k := 0) (x := (nI T.length)) (pc' := 9) cd_Mo_comes rfl rfl rfl rfl rfl h00 ?_
    refine m_ist (pc' := 10) cd_Mo_comes rfl (Or.inr ⟨_, rfl, rfl, rfl⟩) (by decide) rfl (fun lv el => ?_)
    have l0 := tm_lk el l0 rfl (by decide)
    have l1 := tm_lk el l1 rfl (by decide)
    have l2 := tm_lk el l2 rfl (by decide)
    have l3 : lv.lookup 3 = some (.int ((nI T.length))) := tm_lks el
    clear el
    refine m_ald (pc' := 11) cd_Mo_comes rfl (Or.inr ⟨_, rfl, rfl, rfl⟩) l0 rfl rfl ?_
    refine m_fR (r := 0) (a := 1) (ad := 1483) (pc' := 14) rfl rfl cd_Mo_comes rfl rfl rfl rfl rfl ?_
    refine m_ild (pc' := 15) cd_Mo_comes rfl (Or.inr ⟨_, rfl, rfl, rfl⟩) l2 rfl ?_
    refine m_aI (r := 0) (a := 1) (g := (A 1)) (x := (kd X)) (pc' := 16) rfl rfl cd_Mo_comes rfl rfl rfl (vp_in_nI (by omega) (by decide)) ((congrArg (A 1) (nI_clamp (by omega))).trans hkd) ?_
    refine m_k2 (v := 6) (pc' := 18) cd_Mo_comes rfl (by decide) rfl ?_
    refine m_if2 (t := 40) (pc' := 21) cd_Mo_comes rfl rfl rfl (fun c18 => ?_) (fun c18 => ?_)
    · have c18 : ¬ (kd X) = 6 := c18
      refine m_k1 (v := 0) (pc' := 41) cd_Mo_comes rfl (by decide) rfl ?_
      refine m_ist (pc' := 43) cd_Mo_comes rfl (Or.inl ⟨rfl, rfl⟩) (by decide) rfl (fun lv el => ?_)
      have l0 := tm_lk el l0 rfl (by decide)
      have l1 := tm_lk el l1 rfl (by decide)
      have l2 := tm_lk el l2 rfl (by decide)
      have l3 := tm_lk el l3 rfl (by decide)
      have l4 : lv.lookup 4 = some (.int 0) := tm_lks el
      clear el
      refine m_ald (pc' := 44) cd_Mo_comes rfl (Or.inr ⟨_, rfl, rfl, rfl⟩) l0 rfl rfl ?_
      refine m_ild (pc' := 45) cd_Mo_comes rfl (Or.inr ⟨_, rfl, rfl, rfl⟩) l2 rfl ?_
      refine m_k1 (v := 3) (pc' := 46) cd_Mo_comes rfl (by decide) rfl ?_
      refine m_ci (pc' := 49) cd_Mo_comes rfl rfl rfl rfl rfl cd_Mo_isSealed rfl (Nat.le_of_ble_eq_true rfl) (m_isSealed3 (by exact MT_i hM rfl rfl rfl rfl rfl rfl rfl rfl rfl rfl) hX ?_)
      show mg _ _ _ 49 _ [.int (bz (decide (kd X = 5) && Tgood 3 (pt X 1)))] _ _
      refine m_if1 (t := 61) (pc' := 52) cd_Mo_comes rfl rfl rfl (fun c49 => ?_) (fun c49 => ?_)
      · have c49 : (decide (kd X = 5) && Tgood 3 (pt X 1)) = false := bz_f c49
        refine m_ald (pc' := 62) cd_Mo_comes rfl (Or.inr ⟨_, rfl, rfl, rfl⟩) l0 rfl rfl ?_
        refine m_fR (r := 0) (a := 1) (ad := 1483) (pc' := 65) rfl rfl cd_Mo_comes rfl rfl rfl rfl rfl ?_
        refine m_ild (pc' := 66) cd_Mo_comes rfl (Or.inr ⟨_, rfl, rfl, rfl⟩) l2 rfl ?_
        refine m_aI (r := 0) (a := 1) (g := (A 1)) (x := (kd X)) (pc' := 67) rfl rfl cd_Mo_comes rfl rfl rfl (vp_in_nI (by omega) (by decide)) ((congrArg (A 1) (nI_clamp (by omega))).trans hkd) ?_
        refine m_k2 (v := 6) (pc' := 69) cd_Mo_comes rfl (by decide) rfl ?_
        refine m_if2 (t := 96) (pc' := 72) cd_Mo_comes rfl rfl rfl (fun c69 => ?_) (fun c69 => ?_)
        · have c69 : ¬ (kd X) = 6 := c69
          refine m_ild (pc' := 98) cd_Mo_comes rfl (Or.inl ⟨rfl, rfl⟩) l4 rfl ?_
          refine m_if1 (t := 110) (pc' := 101) cd_Mo_comes rfl rfl rfl (fun c98 => ?_) (fun c98 => ?_)
          · have c98 : (0 : Int32) = 0 := c98
            refine m_k2 (v := (-10)) (pc' := 112) cd_Mo_comes rfl (by decide) rfl ?_
            refine m_ist (pc' := 114) cd_Mo_comes rfl (Or.inl ⟨rfl, rfl⟩) (by decide) rfl (fun lv el => ?_)
            have l0 := tm_lk el l0 rfl (by decide)
            have l1 := tm_lk el l1 rfl (by decide)
            have l2 := tm_lk el l2 rfl (by decide)
            have l3 := tm_lk el l3 rfl (by decide)
            have l4 := tm_lk el l4 rfl (by decide)
            have l5 : lv.lookup 5 = some (.int (-10)) := tm_lks el
            clear el
            rw [ar_0 hF] at kN
            have hneg : (-10 : Int32) < 0 := by decide
            refine l_mcoN (T := T) (E := []) (f := (fset (fset f 30 0) 32 0)) (A := (fset A 15 gw)) hM (by rw [List.append_nil]; exact MT_i hM rfl rfl rfl rfl rfl rfl rfl rfl rfl rfl) hneg (fun f9 A9 hM9 => ?_) lv l0 l3 l5
            exact kN hneg _ _ (by exact MT_i hM9 rfl rfl rfl rfl rfl rfl rfl rfl rfl rfl) rfl (RS_p (f' := mjF f9 (fset (fset f 30 0) 32 0)) (A' := mjA A9 (fset A 15 gw)) hS (List.prefix_refl T) h11 h21 ⟨rfl, rfl, rfl, rfl, rfl⟩ ⟨rfl, rfl, rfl, rfl, rfl, rfl, rfl, rfl, rfl, rfl, rfl, rfl, rfl, rfl, rfl, rfl, rfl, rfl, rfl, rfl, rfl, rfl, rfl, rfl, rfl, rfl, rfl⟩ (fun i hi => tv_mono (List.prefix_refl T) (hS.2.1.2.1 i hi)) hS.2.2.2.2.1.1 hS.2.2.2.2.1.2.1 hS.2.2.2.2.1.2.2 hS.2.2.1.2)
          · exact absurd (show ¬ (0 : Int32) = 0 from c98) (by decide)
        · have c69 : (kd X) = 6 := Classical.not_not.mp c69
          exact absurd c69 c18
      · have c49 : (decide (kd X = 5) && Tgood 3 (pt X 1)) = true := bz_t c49
        exact absurd c49 (by by_cases q5 : kd X = 5; rw [n5 q5, Bool.and_false]; decide; rw [decide_eq_false q5]; show ¬ false = true; decide)
    · have c18 : (kd X) = 6 := Classical.not_not.mp c18
      obtain ⟨t2, et2, ht2⟩ := MT_two hM hX (Or.inr (Or.inr c18))
      have ht2l := tv_lt ht2
      refine m_ald (pc' := 22) cd_Mo_comes rfl (Or.inr ⟨_, rfl, rfl, rfl⟩) l0 rfl rfl ?_
      refine m_ald (pc' := 23) cd_Mo_comes rfl (Or.inr ⟨_, rfl, rfl, rfl⟩) l0 rfl rfl ?_
      refine m_fR (r := 2) (a := 3) (ad := 1485) (pc' := 26) rfl rfl cd_Mo_comes rfl rfl rfl rfl rfl ?_
      refine m_ild (pc' := 27) cd_Mo_comes rfl (Or.inr ⟨_, rfl, rfl, rfl⟩) l2 rfl ?_
      refine m_aI (r := 2) (a := 3) (g := (A 3)) (x := nI t2) (pc' := 28) rfl rfl cd_Mo_comes rfl rfl rfl (vp_in_nI (by omega) (by decide)) ((congrArg (A 3) (nI_clamp (by omega))).trans et2) ?_
      refine m_k2 (v := 7) (pc' := 30) cd_Mo_comes rfl (by decide) rfl ?_
      refine m_ci (pc' := 33) cd_Mo_comes rfl rfl rfl rfl rfl cd_Mo_isSealed rfl (Nat.le_of_ble_eq_true rfl) (m_isSealed7 (by exact MT_i hM rfl rfl rfl rfl rfl rfl rfl rfl rfl rfl) ht2 ?_)
      show mg _ _ _ 33 _ [.int (bz (decide (kd (pt X 1) = 5) && Tgood 7 (pt (pt X 1) 1)))] _ _
      refine m_if1 (t := 40) (pc' := 36) cd_Mo_comes rfl rfl rfl (fun c33 => ?_) (fun c33 => ?_)
      · have c33 : (decide (kd (pt X 1) = 5) && Tgood 7 (pt (pt X 1) 1)) = false := bz_f c33
        refine m_k1 (v := 0) (pc' := 41) cd_Mo_comes rfl (by decide) rfl ?_
        refine m_ist (pc' := 43) cd_Mo_comes rfl (Or.inl ⟨rfl, rfl⟩) (by decide) rfl (fun lv el => ?_)
        have l0 := tm_lk el l0 rfl (by decide)
        have l1 := tm_lk el l1 rfl (by decide)
        have l2 := tm_lk el l2 rfl (by decide)
        have l3 := tm_lk el l3 rfl (by decide)
        have l4 : lv.lookup 4 = some (.int 0) := tm_lks el
        clear el
        refine m_ald (pc' := 44) cd_Mo_comes rfl (Or.inr ⟨_, rfl, rfl, rfl⟩) l0 rfl rfl ?_
        refine m_ild (pc' := 45) cd_Mo_comes rfl (Or.inr ⟨_, rfl, rfl, rfl⟩) l2 rfl ?_
        refine m_k1 (v := 3) (pc' := 46) cd_Mo_comes rfl (by decide) rfl ?_
        refine m_ci (pc' := 49) cd_Mo_comes rfl rfl rfl rfl rfl cd_Mo_isSealed rfl (Nat.le_of_ble_eq_true rfl) (m_isSealed3 (by exact MT_i hM rfl rfl rfl rfl rfl rfl rfl rfl rfl rfl) hX ?_)
        show mg _ _ _ 49 _ [.int (bz (decide (kd X = 5) && Tgood 3 (pt X 1)))] _ _
        refine m_if1 (t := 61) (pc' := 52) cd_Mo_comes rfl rfl rfl (fun c49 => ?_) (fun c49 => ?_)
        · have c49 : (decide (kd X = 5) && Tgood 3 (pt X 1)) = false := bz_f c49
          refine m_ald (pc' := 62) cd_Mo_comes rfl (Or.inr ⟨_, rfl, rfl, rfl⟩) l0 rfl rfl ?_
          refine m_fR (r := 0) (a := 1) (ad := 1483) (pc' := 65) rfl rfl cd_Mo_comes rfl rfl rfl rfl rfl ?_
          refine m_ild (pc' := 66) cd_Mo_comes rfl (Or.inr ⟨_, rfl, rfl, rfl⟩) l2 rfl ?_
          refine m_aI (r := 0) (a := 1) (g := (A 1)) (x := (kd X)) (pc' := 67) rfl rfl cd_Mo_comes rfl rfl rfl (vp_in_nI (by omega) (by decide)) ((congrArg (A 1) (nI_clamp (by omega))).trans hkd) ?_
          refine m_k2 (v := 6) (pc' := 69) cd_Mo_comes rfl (by decide) rfl ?_
          refine m_if2 (t := 96) (pc' := 72) cd_Mo_comes rfl rfl rfl (fun c69 => ?_) (fun c69 => ?_)
          · have c69 : ¬ (kd X) = 6 := c69
            refine m_ild (pc' := 98) cd_Mo_comes rfl (Or.inl ⟨rfl, rfl⟩) l4 rfl ?_
            refine m_if1 (t := 110) (pc' := 101) cd_Mo_comes rfl rfl rfl (fun c98 => ?_) (fun c98 => ?_)
            · have c98 : (0 : Int32) = 0 := c98
              refine m_k2 (v := (-10)) (pc' := 112) cd_Mo_comes rfl (by decide) rfl ?_
              refine m_ist (pc' := 114) cd_Mo_comes rfl (Or.inl ⟨rfl, rfl⟩) (by decide) rfl (fun lv el => ?_)
              have l0 := tm_lk el l0 rfl (by decide)
              have l1 := tm_lk el l1 rfl (by decide)
              have l2 := tm_lk el l2 rfl (by decide)
              have l3 := tm_lk el l3 rfl (by decide)
              have l4 := tm_lk el l4 rfl (by decide)
              have l5 : lv.lookup 5 = some (.int (-10)) := tm_lks el
              clear el
              rw [ar_0 hF] at kN
              have hneg : (-10 : Int32) < 0 := by decide
              refine l_mcoN (T := T) (E := []) (f := (fset (fset f 30 0) 32 0)) (A := (fset A 15 gw)) hM (by rw [List.append_nil]; exact MT_i hM rfl rfl rfl rfl rfl rfl rfl rfl rfl rfl) hneg (fun f9 A9 hM9 => ?_) lv l0 l3 l5
              exact kN hneg _ _ (by exact MT_i hM9 rfl rfl rfl rfl rfl rfl rfl rfl rfl rfl) rfl (RS_p (f' := mjF f9 (fset (fset f 30 0) 32 0)) (A' := mjA A9 (fset A 15 gw)) hS (List.prefix_refl T) h11 h21 ⟨rfl, rfl, rfl, rfl, rfl⟩ ⟨rfl, rfl, rfl, rfl, rfl, rfl, rfl, rfl, rfl, rfl, rfl, rfl, rfl, rfl, rfl, rfl, rfl, rfl, rfl, rfl, rfl, rfl, rfl, rfl, rfl, rfl, rfl⟩ (fun i hi => tv_mono (List.prefix_refl T) (hS.2.1.2.1 i hi)) hS.2.2.2.2.1.1 hS.2.2.2.2.1.2.1 hS.2.2.2.2.1.2.2 hS.2.2.1.2)
            · exact absurd (show ¬ (0 : Int32) = 0 from c98) (by decide)
          · have c69 : (kd X) = 6 := Classical.not_not.mp c69
            refine m_ald (pc' := 73) cd_Mo_comes rfl (Or.inr ⟨_, rfl, rfl, rfl⟩) l0 rfl rfl ?_
            refine m_ald (pc' := 74) cd_Mo_comes rfl (Or.inr ⟨_, rfl, rfl, rfl⟩) l0 rfl rfl ?_
            refine m_fR (r := 2) (a := 3) (ad := 1485) (pc' := 77) rfl rfl cd_Mo_comes rfl rfl rfl rfl rfl ?_
            refine m_ild (pc' := 78) cd_Mo_comes rfl (Or.inr ⟨_, rfl, rfl, rfl⟩) l2 rfl ?_
            refine m_aI (r := 2) (a := 3) (g := (A 3)) (x := nI t2) (pc' := 79) rfl rfl cd_Mo_comes rfl rfl rfl (vp_in_nI (by omega) (by decide)) ((congrArg (A 3) (nI_clamp (by omega))).trans et2) ?_
            refine m_k2 (v := 6) (pc' := 81) cd_Mo_comes rfl (by decide) rfl ?_
            refine m_ci (pc' := 84) cd_Mo_comes rfl rfl rfl rfl rfl cd_Mo_isGood rfl (Nat.le_of_ble_eq_true rfl) (m_isGood6 (by exact MT_i hM rfl rfl rfl rfl rfl rfl rfl rfl rfl rfl) ht2 ?_)
            show mg _ _ _ 84 _ [.int (bz (Tgood 6 (pt X 1)))] _ _
            refine m_if1 (t := 96) (pc' := 87) cd_Mo_comes rfl rfl rfl (fun c84 => ?_) (fun c84 => ?_)
            · have c84 : (Tgood 6 (pt X 1)) = false := bz_f c84
              refine m_ild (pc' := 98) cd_Mo_comes rfl (Or.inl ⟨rfl, rfl⟩) l4 rfl ?_
              refine m_if1 (t := 110) (pc' := 101) cd_Mo_comes rfl rfl rfl (fun c98 => ?_) (fun c98 => ?_)
              · have c98 : (0 : Int32) = 0 := c98
                refine m_k2 (v := (-10)) (pc' := 112) cd_Mo_comes rfl (by decide) rfl ?_
                refine m_ist (pc' := 114) cd_Mo_comes rfl (Or.inl ⟨rfl, rfl⟩) (by decide) rfl (fun lv el => ?_)
                have l0 := tm_lk el l0 rfl (by decide)
                have l1 := tm_lk el l1 rfl (by decide)
                have l2 := tm_lk el l2 rfl (by decide)
                have l3 := tm_lk el l3 rfl (by decide)
                have l4 := tm_lk el l4 rfl (by decide)
                have l5 : lv.lookup 5 = some (.int (-10)) := tm_lks el
                clear el
                rw [ar_0 hF] at kN
                have hneg : (-10 : Int32) < 0 := by decide
                refine l_mcoN (T := T) (E := []) (f := (fset (fset f 30 0) 32 0)) (A := (fset A 15 gw)) hM (by rw [List.append_nil]; exact MT_i hM rfl rfl rfl rfl rfl rfl rfl rfl rfl rfl) hneg (fun f9 A9 hM9 => ?_) lv l0 l3 l5
                exact kN hneg _ _ (by exact MT_i hM9 rfl rfl rfl rfl rfl rfl rfl rfl rfl rfl) rfl (RS_p (f' := mjF f9 (fset (fset f 30 0) 32 0)) (A' := mjA A9 (fset A 15 gw)) hS (List.prefix_refl T) h11 h21 ⟨rfl, rfl, rfl, rfl, rfl⟩ ⟨rfl, rfl, rfl, rfl, rfl, rfl, rfl, rfl, rfl, rfl, rfl, rfl, rfl, rfl, rfl, rfl, rfl, rfl, rfl, rfl, rfl, rfl, rfl, rfl, rfl, rfl, rfl⟩ (fun i hi => tv_mono (List.prefix_refl T) (hS.2.1.2.1 i hi)) hS.2.2.2.2.1.1 hS.2.2.2.2.1.2.1 hS.2.2.2.2.1.2.2 hS.2.2.1.2)
              · exact absurd (show ¬ (0 : Int32) = 0 from c98) (by decide)
            · have c84 : (Tgood 6 (pt X 1)) = true := bz_t c84
              exact absurd (c84.symm.trans (n6 c69).1) (by decide)
        · have c49 : (decide (kd X = 5) && Tgood 3 (pt X 1)) = true := bz_t c49
          exact absurd c49 (by by_cases q5 : kd X = 5; rw [n5 q5, Bool.and_false]; decide; rw [decide_eq_false q5]; show ¬ false = true; decide)
      · have c33 : (decide (kd (pt X 1) = 5) && Tgood 7 (pt (pt X 1) 1)) = true := bz_t c33
        exact absurd (by simpa using c33) (n6 c18).2
