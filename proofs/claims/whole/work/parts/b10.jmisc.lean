/-! The joint contracts: draw, plant, look, crash, up -/
theorem RS_sto {f f' : Nat → Int32} {A A' : Nat → Nat → Int32} {T : List Tm} {DL : List (Int32 × Int32)} {dev : Nat → DV} {sto sto' : Nat → ST} {ws : List (Tm × Int32)} {dir reg : Nat → Tm} {seen : List Tm} {ls : List RL} {lo dt db rt fl ll tl tf tg tm : Nat → Int32} {ck ck' fo du : Int32} (hS : RS f A T DL dev sto ws dir reg seen ls lo (dt, db, rt, fl, ll, tl, tf, tg, tm, ck, fo, du)) (ef : ∀ k, k ≠ 16 → k ≠ 21 → f' k = f k) (e21 : f' 21 = ck') (eA : ∀ j, ¬ (18 ≤ j ∧ j ≤ 23) → A' j = A j) (hq : ∀ q, q < 6 → qSt A' T q (sto' q)) : RS f' A' T DL dev sto' ws dir reg seen ls lo (dt, db, rt, fl, ll, tl, tf, tg, tm, ck', fo, du) := by
  obtain ⟨⟨q1, q2, q3⟩, ⟨q4, q5, q6, q7, q8, q9⟩, ⟨q10, q12⟩, ⟨q13, q14, q15, q16⟩, ⟨q17, q17b, q17c⟩, ⟨q18, q19⟩, q20, q21, q22, q23⟩ := hS
  have E : ∀ {j : Nat}, ¬ (18 ≤ j ∧ j ≤ 23) → A' j = A j := fun {j} a => eA j a
  exact ⟨⟨fun p hp => by rw [E (j := 16) (by decide)]; exact q1 p hp, fun p hp => by rw [E (j := 14) (by decide)]; exact q2 p hp, hq⟩, ⟨qWi_m (List.prefix_refl T) (ef 40 (by decide) (by decide)) (E (by decide)) (E (by decide)) q4, fun i hi => by rw [E (j := 17) (by decide)]; exact q5 i hi, fun i hi => by rw [E (j := 45) (by decide)]; exact q6 i hi, (ef 63 (by decide) (by decide)).trans q7, q8, fun i X hX => by rw [E (j := 46) (by decide)]; exact q9 i X hX⟩, ⟨qLs_m (List.prefix_refl T) (ef 43 (by decide) (by decide)) (fun j j1 j2 => E (by omega)) q10, (E (by decide)).trans q12⟩, ⟨(ef 11 (by decide) (by decide)).trans q13, e21, (ef 53 (by decide) (by decide)).trans q15, (ef 54 (by decide) (by decide)).trans q16⟩, ⟨(E (by decide)).trans q17, (E (by decide)).trans q17b, (E (by decide)).trans q17c⟩, ⟨(E (by decide)).trans q18, (E (by decide)).trans q19⟩, (E (by decide)).trans q20, (E (by decide)).trans q21, (E (by decide)).trans q22, (E (by decide)).trans q23⟩
theorem RS_dir2 {f : Nat → Int32} {A : Nat → Nat → Int32} {T : List Tm} {DL : List (Int32 × Int32)} {dev : Nat → DV} {sto : Nat → ST} {ws : List (Tm × Int32)} {dir dir' reg : Nat → Tm} {seen : List Tm} {ls : List RL} {lo : Nat → Int32} {R : RR} {v : Int32} {g g5 : Nat → Int32} (hS : RS f A T DL dev sto ws dir reg seen ls lo R) (h : ∀ i, i < 30 → tv T (g i) (dir' i)) : RS (fset f 16 v) (fset (fset A 17 g) 5 g5) T DL dev sto ws dir' reg seen ls lo R := by
  obtain ⟨dt, db, rt, fl, ll, tl, tf, tg, tm, ck, fo, du⟩ := R
  obtain ⟨⟨q1, q2, q3⟩, ⟨q4, q5, q6, q7, q8, q9⟩, ⟨q10, q12⟩, q13⟩ := hS
  exact ⟨⟨q1, q2, fun p hp => qSt_c (List.prefix_refl T) rfl rfl rfl (fun _ _ => rfl) (fun _ _ _ _ => rfl) (fun _ _ _ _ => rfl) (q3 p hp)⟩, ⟨q4, h, q6, q7, q8, q9⟩, ⟨q10, q12⟩, q13⟩
theorem qSt_cut {A : Nat → Nat → Int32} {T : List Tm} {p k : Nat} {b dn : Bool} {P O : EN2} {c : Option Nat} (hk : k ≤ 200) (h : qSt A T p (b, P, O, c, dn)) : qSt (fset A 23 (upd (A 23) p (nI k))) T p (b, P, O, some k, dn) := by
  obtain ⟨⟨h1, h2, h3, h4⟩, h5, h6⟩ := h
  exact ⟨⟨h1, upd_same, h3, fun k' e => by cases e; exact hk⟩, h5, h6⟩
theorem qSt_cut' {A : Nat → Nat → Int32} {T : List Tm} {p q : Nat} {v : Int32} {S : ST} (hq : q ≠ p) (h : qSt A T q S) : qSt (fset A 23 (upd (A 23) p v)) T q S := qSt_c (A := A) (List.prefix_refl T) rfl rfl (upd_ne hq) (fun _ _ => rfl) (fun _ _ _ _ => rfl) (fun _ _ _ _ => rfl) h
theorem qSt_O {A : Nat → Nat → Int32} {T : List Tm} {p : Nat} {b : Bool} {P O : EN2} {c : Option Nat} (h : qSt A T p (b, P, O, c, false)) : O = [] := by
  obtain ⟨-, -, L, lo, hi, -, h7, h8⟩ := h
  rw [h7, (h8 rfl).1]
  simp
theorem qSt_up {A A1 : Nat → Nat → Int32} {T : List Tm} {p : Nat} {b dn : Bool} {P O : EN2} {c : Option Nat} (hp : p < 6) (h : qSt A T p (b, P, O, c, dn)) (e19 : A1 19 = thW (A 19) (2 * p + (1 - sh b)) 75 0) (e20 : A1 20 = upd (A 20) (2 * p + (1 - sh b)) 0) (e22 : A1 22 = upd (A 22) p 0) (eA : ∀ j, j ≠ 19 → j ≠ 20 → j ≠ 22 → A1 j = A j) : qSt A1 T p (b, P, [], c, false) := by
  obtain ⟨⟨h1, h2, h3, h4⟩, h5, L, lo, hi, h6, h7, h8⟩ := h
  have hb := sh_lt b
  have hn : sh (!b) = 1 - sh b := sh_not b
  refine ⟨⟨by rw [eA 21 (by decide) (by decide) (by decide)]; exact h1, by rw [eA 23 (by decide) (by decide) (by decide)]; exact h2, by rw [e22, upd_same]; rfl, h4⟩, qHf_c (List.prefix_refl T) (by rw [e20, upd_ne (by omega)]) (fun x hx => by rw [e19, thW_at hx (by omega), if_neg (by omega)]) (fun x hx => by rw [eA 18 (by decide) (by decide) (by decide)]) h5, [], 0, 0, ⟨⟨by rw [e20, hn, upd_same]; rfl, by simp, Nat.zero_le _⟩, fun x hx => by rw [e19, hn, thW_at hx (by omega), if_pos ⟨rfl, hx⟩]; simp [bz], fun i e he => by simp at he⟩, rfl, fun _ => ⟨rfl, rfl⟩⟩
theorem qSt_up' {A A1 : Nat → Nat → Int32} {T : List Tm} {p q : Nat} {o : Nat} {S : ST} (ho : o < 2) (hq : q ≠ p) (h : qSt A T q S) (e19 : A1 19 = thW (A 19) (2 * p + o) 75 0) (e20 : A1 20 = upd (A 20) (2 * p + o) 0) (e22 : A1 22 = upd (A 22) p 0) (eA : ∀ j, j ≠ 19 → j ≠ 20 → j ≠ 22 → A1 j = A j) : qSt A1 T q S := qSt_c (List.prefix_refl T) (by rw [eA 21 (by decide) (by decide) (by decide)]) (by rw [e22, upd_ne hq]) (by rw [eA 23 (by decide) (by decide) (by decide)]) (fun x hx => by rw [e20, upd_ne (by omega)]) (fun x y hx hy => by rw [e19, thW_at hy (by omega), if_neg (by omega)]) (fun x y hx hy => by rw [eA 18 (by decide) (by decide) (by decide)]) h
theorem KG_add0 {K G S : Tm → Prop} (h : KG K G) (hs : ∀ y, S y → Kn G y) : KG K (fun y => G y ∨ S y) := fun X => ⟨fun q => Kn_mono (fun y hy => Or.inl hy) ((h X).mp q), fun q => (h X).mpr (Kn_of (fun y hy => hy.elim Kn_G (hs y)) q)⟩
theorem mjW_all {A A1 : Nat → Nat → Int32} (eA : ∀ j, j ≠ 19 → j ≠ 20 → j ≠ 22 → A1 j = A j) : mjW A1 A = A1 := mjW_of (fun j q => eA j (by omega) (by omega) (by omega))
set_option maxRecDepth 100000 in
theorem P_draw {sc : tm_X} {d N S n : Nat} {B : bm_H} {DL : List (Int32 × Int32)} {dev : Nat → DV} {sto : Nat → ST} {ws : List (Tm × Int32)} {dir reg : Nat → Tm} {seen : List Tm} {G : Tm → Prop} {ls : List RL} {lo dt db rt fl ll tl tf tg tm : Nat → Int32} {ck fo du : Int32} {L : LG} {r : Nat} {Q : Int32 → Int32 → bm_H → Prop} (hJ : J N S n B DL dev sto ws dir reg seen G L ls lo (dt, db, rt, fl, ll, tl, tf, tg, tm, ck, fo, du)) (hn : n < 64) (hdl : DL.length ≤ 2900) (hws : ws.length ≤ 692) (hr : r < 32) (kk : ∀ B2, J N S (n + 1) B2 (DL ++ [(6, 0)]) dev sto ws dir (fset reg r (Tsec (nI DL.length) 6 0)) seen (fun y => G y ∨ (y = (Tsec (nI DL.length) 6 0) ∧ (Tsec (nI DL.length) 6 0) ≠ tz)) L ls (upd lo DL.length (-1)) (upd dt DL.length (ck + 1), upd db DL.length 12, upd rt DL.length 0, fl, ll, tl, tf, tg, tm, ck + 1, fo, du) → Q 1 1 B2) : PR sc (d + 12) 136 254 [.int (nI r)] B Q := by
  obtain ⟨f, A, T, T0, K, Kw, ca, rm, kc, kl, rk, M, ln, wt, π, w, dv, idc, ⟨hC, hH0, hdv, hid⟩, ⟨hMo, hs0, hM, hS⟩, ⟨hKG, hKs, h16, hlk⟩, hTl, hPh, hrc⟩ := hJ
  have hH := RH_ids (ids' := fun q => (dev q).1) hH0 (fun q hq => (hid q hq).symm)
  have hlen : (DL ++ [((6 : Int32), (0 : Int32))]).length = DL.length + 1 := by simp
  refine t_draw (F := mX) hC hH (by omega) hws (by omega) hr (fun B1 M1 ca1 rm1 kc1 kl1 rk1 T1 pT qT hC1 hH1 hf1 => ?_)
  obtain ⟨A1, hMo1, hs1, hM1, hS1, hr1, -⟩ := J_cls hf1 hMo hs0 hM hS
  refine m_run hMo1 hs1 (mo_draw hM1 hS1 (by omega) (by omega) (by omega) hws hr (fun f2 A2 T2 pU qU sU hM2 g16 hS2 => ?_))
  intro B2 hF2 hs2
  rw [← hlen] at hC1
  exact kk B2 (J_mk hF2 hs2 hC1 hH1 hdv (fun _ _ => rfl) hM2 hS2 (KG_add hKG (fun y q => Or.inr ⟨q, fun e => nomatch e⟩) (fun y q => q.1)) (fun y q => Kn_mono (fun z hz => Or.inl hz) (hKs y q)) (st_give h16 (g16.imp_right (fun z => ⟨z.1, fun y hy => hy.elim Kn_G (fun hy => z.2.elim (fun q => absurd q hy.2) (fun q => Kn_G (hy.1 ▸ q)))⟩))) (lk_all hH1) (by omega) (by omega) (by omega))
set_option maxRecDepth 100000 in
theorem P_plant {sc : tm_X} {d N S n : Nat} {B : bm_H} {DL : List (Int32 × Int32)} {dev : Nat → DV} {sto : Nat → ST} {ws : List (Tm × Int32)} {dir reg : Nat → Tm} {seen : List Tm} {G : Tm → Prop} {ls : List RL} {lo dt db rt fl ll tl tf tg tm : Nat → Int32} {ck fo du : Int32} {L : LG} {p a r : Int32} {Q : Int32 → Int32 → bm_H → Prop} (hJ : J N S n B DL dev sto ws dir reg seen G L ls lo (dt, db, rt, fl, ll, tl, tf, tg, tm, ck, fo, du)) (hn : n < 64) (hdl : DL.length ≤ 2900) (hws : ws.length ≤ 692) (hreg : Kn G (hl reg r)) (kN : pl_spec reg dir p a r = (-1, dir) → ∀ B2, J N S (n + 1) B2 DL dev sto ws dir reg seen G L ls lo (dt, db, rt, fl, ll, tl, tf, tg, tm, ck, fo, du) → Q (-1) (-1) B2) (kk : (pl_spec reg dir p a r).1 = 1 → ∀ B2, J N S (n + 1) B2 DL dev sto ws ((pl_spec reg dir p a r).2) reg seen (fun y => G y ∨ (y = hl reg r ∧ hl reg r ≠ tz)) L ls lo (dt, db, rt, fl, ll, tl, tf, tg, tm, ck, fo, du) → Q 1 1 B2) : PR sc (d + 12) 151 264 [.int p, .int a, .int r] B Q := by
  obtain ⟨f, A, T, T0, K, Kw, ca, rm, kc, kl, rk, M, ln, wt, π, w, dv, idc, ⟨hC, hH0, hdv, hid⟩, ⟨hMo, hs0, hM, hS⟩, ⟨hKG, hKs, h16, hlk⟩, hTl, hPh, hrc⟩ := hJ
  have hH := RH_ids (ids' := fun q => (dev q).1) hH0 (fun q hq => (hid q hq).symm)
  refine t_plant (F := mX) hC hH (fun B1 hC1 hH1 hf1 => ?_)
  obtain ⟨A1, hMo1, hs1, hM1, hS1, hr1, -⟩ := J_cls hf1 hMo hs0 hM hS
  refine m_run hMo1 hs1 (mo_plant hM1 hS1.2.1.2.2.1 hS1.2.1.2.1 (fun hN => ?_) (fun h1 v g g5 hg hv hM2 => ?_))
  · intro B2 hF2 hs2
    rw [hN] at hH1 ⊢
    exact kN hN B2 (J_mk hF2 hs2 hC1 hH1 hdv (fun _ _ => rfl) hM1 hS1 hKG hKs h16 hlk (by omega) (by omega) (by omega))
  · intro B2 hF2 hs2
    rw [h1]
    exact kk h1 B2 (J_mk hF2 hs2 hC1 hH1 hdv (fun _ _ => rfl) hM2 (RS_dir2 hS1 hg) (KG_add0 hKG (fun y q => q.1 ▸ hreg)) (fun y q => Kn_mono (fun z hz => Or.inl hz) (hKs y q)) (st_give (f1 := fset f 16 v) h16 (hv.imp_right (fun z => ⟨z.1, fun y hy => hy.elim Kn_G (fun hy => hy.1 ▸ hreg)⟩))) hlk (by omega) (by omega) (show rc (A1 1) _ ≤ _ by omega))
set_option maxRecDepth 100000 in
theorem P_look {sc : tm_X} {d N S n : Nat} {B : bm_H} {DL : List (Int32 × Int32)} {dev : Nat → DV} {sto : Nat → ST} {ws : List (Tm × Int32)} {dir reg : Nat → Tm} {seen : List Tm} {G : Tm → Prop} {ls : List RL} {lo dt db rt fl ll tl tf tg tm : Nat → Int32} {ck fo du : Int32} {Lc : List LT} {bdc llc tcc tlc tfc tgc : Nat → Int32} {cfc cgc : Int32} {ctc : Tm} {coc : Bool} {lic foc dbc : Int32} {p : Nat} {Q : Int32 → Int32 → bm_H → Prop} (hJ : J N S n B DL dev sto ws dir reg seen G (Lc, bdc, llc, tcc, tlc, tfc, tgc, cfc, cgc, ctc, coc, lic, foc, dbc) ls lo (dt, db, rt, fl, ll, tl, tf, tg, tm, ck, fo, du)) (hn : n < 64) (hdl : DL.length ≤ 2900) (hws : ws.length ≤ 692) (hp : p < 6) (kk : ∀ B2, J N S (n + 1) B2 DL dev sto ws dir reg (st_terms (sto p)) (fun y => G y ∨ y ∈ st_terms (sto p)) (Lc, bdc, upd llc p (nI DL.length), tcc, tlc, tfc, tgc, cfc, cgc, ctc, coc, lic ||| (1 <<< (nI p &&& 31)), foc, dbc) ls lo (dt, db, rt, (if fl p = 2147483647 then upd fl p (ck + 1) else fl), upd ll p (ck + 1), tl, tf, tg, tm, ck + 1, fo, du) → Q (nI (st_terms (sto p)).length) (nI (st_terms (sto p)).length) B2) : PR sc (d + 12) 152 265 [.int (nI p)] B Q := by
  obtain ⟨f, A, T, T0, K, Kw, ca, rm, kc, kl, rk, M, ln, wt, π, w, dv, idc, ⟨hC, hH0, hdv, hid⟩, ⟨hMo, hs0, hM, hS⟩, ⟨hKG, hKs, h16, hlk⟩, hTl, hPh, hrc⟩ := hJ
  have hH := RH_ids (ids' := fun q => (dev q).1) hH0 (fun q hq => (hid q hq).symm)
  refine t_look (F := mX) hC hH hp (st_tl (hS.1.2.2 p hp)) (fun B1 ln1 kc1 kl1 rk1 qln hC1 hH1 hf1 => ?_)
  obtain ⟨A1, hMo1, hs1, hM1, hS1, hr1, -⟩ := J_cls hf1 hMo hs0 hM hS
  refine m_run hMo1 hs1 (mo_look hM1 hS1 hp (fun f2 A2 hM2 g16 hS2 => ?_))
  intro B2 hF2 hs2
  have e1 : rc (A2 1) T0.length = rc (A1 1) T0.length := rc_MT hM2 hM1
  exact kk B2 (J_mk hF2 hs2 hC1 hH1 hdv (fun _ _ => rfl) hM2 hS2 (KG_add hKG (fun y q => Or.inr q) (fun y q => q)) (fun y q => Kn_mono (fun z hz => Or.inl hz) (hKs y q)) (st_give h16 (g16.imp_right (fun z => ⟨z.1, fun y hy => hy.elim Kn_G (fun hy => Kn_G (z.2 y hy))⟩))) (lk_mono hlk (List.prefix_refl T) qln) (by omega) (by omega) (by omega))
set_option maxRecDepth 100000 in
theorem P_crash {sc : tm_X} {d N S n : Nat} {B : bm_H} {DL : List (Int32 × Int32)} {dev : Nat → DV} {sto : Nat → ST} {ws : List (Tm × Int32)} {dir reg : Nat → Tm} {seen : List Tm} {G : Tm → Prop} {ls : List RL} {lo dt db rt fl ll tl tf tg tm : Nat → Int32} {ck fo du : Int32} {L : LG} {p0 : Bool} {P O : EN2} {c : Option Nat} {p j : Nat} {Q : Int32 → Int32 → bm_H → Prop} (hJ : J N S n B DL dev sto ws dir reg seen G L ls lo (dt, db, rt, fl, ll, tl, tf, tg, tm, ck, fo, du)) (hn : n < 64) (hdl : DL.length ≤ 2900) (hws : ws.length ≤ 692) (hp : p < 6) (hj : j ≤ 200) (hst : sto p = (p0, P, O, c, false)) (kk : ∀ B2, J N S (n + 1) B2 DL dev (fset sto p (p0, P, O, some j, false)) ws dir reg seen G L ls lo (dt, db, rt, fl, ll, tl, tf, tg, tm, ck + 1, fo, du) → Q 1 1 B2) : PR sc (d + 12) 133 251 [.int (nI p), .int (nI j)] B Q := by
  obtain ⟨f, A, T, T0, K, Kw, ca, rm, kc, kl, rk, M, ln, wt, π, w, dv, idc, ⟨hC, hH0, hdv, hid⟩, ⟨hMo, hs0, hM, hS⟩, ⟨hKG, hKs, h16, hlk⟩, hTl, hPh, hrc⟩ := hJ
  have hH := RH_ids (ids' := fun q => (dev q).1) hH0 (fun q hq => (hid q hq).symm)
  have hcu := cuts_set (sto := sto) (S := (p0, P, O, some j, false)) hp
  have hcz := cz1_le (p0, P, O, some j, false)
  refine t_crash (F := mX) hC hH hp hj hst (fun h => nomatch h) (fun B1 hd hC1 hH1 hf1 => ?_)
  obtain ⟨A1, hMo1, hs1, hM1, hS1, hr1, -⟩ := J_cls hf1 hMo hs0 hM hS
  have hq0 := hS1.1.2.2 p hp
  rw [hst] at hq0
  refine m_run hMo1 hs1 (mo_crash (n := DL.length) (m := ws.length) hS1.2.2.2.1.1 (by omega) hS1.2.1.1.1.1 hws hp hq0.1.2.2.1 hj ?_)
  intro B2 hF2 hs2
  have hqa : ∀ q, q < 6 → qSt (fset A1 23 (upd (A1 23) p (nI j))) T0 q (fset sto p (p0, P, O, some j, false) q) := fun q hq => by
    by_cases z : q = p
    · rw [z, fset_same]; exact qSt_cut hj hq0
    · rw [fset_ne z]; exact qSt_cut' z (hS1.1.2.2 q hq)
  exact kk B2 (J_mk hF2 hs2 hC1 hH1 hdv (fun _ _ => rfl) (by exact MT_i hM1 rfl rfl rfl rfl rfl rfl rfl rfl rfl rfl) (RS_sto (A' := fset A1 23 (upd (A1 23) p (nI j))) (f' := fset f 21 (f 21 + 1)) hS1 (fun k _ k2 => fset_ne k2) ((fset_same _ _ _).trans (by rw [hS1.2.2.2.1.2.1])) (fun j hj => fset_ne (by omega)) hqa) hKG hKs h16 hlk (by omega) (by omega) (show rc (A1 1) _ ≤ _ by omega))
set_option maxRecDepth 100000 in
theorem P_up {sc : tm_X} {d N S n : Nat} {B : bm_H} {DL : List (Int32 × Int32)} {dev : Nat → DV} {sto : Nat → ST} {ws : List (Tm × Int32)} {dir reg : Nat → Tm} {seen : List Tm} {G : Tm → Prop} {ls : List RL} {lo dt db rt fl ll tl tf tg tm : Nat → Int32} {ck fo du : Int32} {L : LG} {p0 : Bool} {P O : EN2} {c : Option Nat} {dn : Bool} {p : Nat} {Q : Int32 → Int32 → bm_H → Prop} (hJ : J N S n B DL dev sto ws dir reg seen G L ls lo (dt, db, rt, fl, ll, tl, tf, tg, tm, ck, fo, du)) (hn : n < 64) (hdl : DL.length ≤ 2900) (hws : ws.length ≤ 692) (hp : p < 6) (hst : sto p = (p0, P, O, c, dn)) (kk : ∀ B2, J N S (n + 1) B2 DL dev (fset sto p (p0, P, [], c, false)) ws dir reg seen G L ls lo (dt, db, rt, fl, ll, tl, tf, tg, tm, ck, fo, du) → Q (bz dn) (bz dn) B2) : PR sc (d + 12) 134 252 [.int (nI p)] B Q := by
  obtain ⟨f, A, T, T0, K, Kw, ca, rm, kc, kl, rk, M, ln, wt, π, w, dv, idc, ⟨hC, hH0, hdv, hid⟩, ⟨hMo, hs0, hM, hS⟩, ⟨hKG, hKs, h16, hlk⟩, hTl, hPh, hrc⟩ := hJ
  have hH := RH_ids (ids' := fun q => (dev q).1) hH0 (fun q hq => (hid q hq).symm)
  have hcu := cuts_set (sto := sto) (S := (p0, P, [], c, false)) hp
  rw [hst] at hcu
  have hcz : cz1 (p0, P, O, c, dn) = cz1 (p0, P, [], c, false) := rfl
  refine t_up (F := mX) hC hH hp hst (fun B1 hC1 hH1 hf1 => ?_)
  obtain ⟨A1, hMo1, hs1, hM1, hS1, hr1, -⟩ := J_cls hf1 hMo hs0 hM hS
  have hq0 := hS1.1.2.2 p hp
  rw [hst] at hq0
  refine m_run hMo1 hs1 (mo_up hp hq0 (fun hd => ?_) (fun hd A2 e19 e20 e22 eA => ?_))
  · intro B2 hF2 hs2
    subst hd
    have hO := qSt_O hq0
    subst hO
    have hfs : fset sto p (p0, P, [], c, false) = sto := by rw [← hst]; exact fset_id sto p
    rw [hfs] at kk hH1 hcu
    exact kk B2 (J_mk hF2 hs2 hC1 hH1 hdv (fun _ _ => rfl) hM1 hS1 hKG hKs h16 hlk (by omega) (by omega) (by omega))
  · intro B2 hF2 hs2
    subst hd
    rw [mjW_all eA] at hs2
    have hb := sh_lt p0
    have hqa : ∀ q, q < 6 → qSt A2 T0 q (fset sto p (p0, P, [], c, false) q) := fun q hq => by
      by_cases z : q = p
      · rw [z, fset_same]; exact qSt_up hp hq0 e19 e20 e22 eA
      · rw [fset_ne z]; exact qSt_up' (by omega) z (hS1.1.2.2 q hq) e19 e20 e22 eA
    have eM : ∀ j, 1 ≤ j → j ≤ 8 → A2 j = A1 j := fun j a b => eA j (by omega) (by omega) (by omega)
    exact kk B2 (J_mk hF2 hs2 hC1 hH1 hdv (fun _ _ => rfl) (MT_i hM1 rfl rfl (eM 1 (by decide) (by decide)) (eM 2 (by decide) (by decide)) (eM 3 (by decide) (by decide)) (eM 4 (by decide) (by decide)) (eM 5 (by decide) (by decide)) (eM 6 (by decide) (by decide)) (eM 7 (by decide) (by decide)) (eM 8 (by decide) (by decide))) (RS_sto hS1 (fun _ _ _ => rfl) hS1.2.2.2.1.2.1 (fun j hj => eA j (by omega) (by omega) (by omega)) hqa) hKG hKs h16 hlk (by omega) (by omega) (by rw [eM 1 (by decide) (by decide)]; omega))
