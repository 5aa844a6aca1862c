/-! The joint contracts: refusals, and what only reads -/
theorem cif_iff {P P' : Prop} (h : P ↔ P') (a b : Int32) : cif P a b = cif P' a b := by rw [propext h]
theorem lk_iff {K G : Tm → Prop} (h : KG K G) {ll : Nat → Int32} {li : Int32} : ∀ (l : List LT), lk_count K ll li l = lk_count G ll li l
  | [] => rfl
  | e :: l => by rw [lk_cons, lk_cons, lk_iff h l, show (Kn K e.1 ∧ lt_safe e ll li = true) = (Kn G e.1 ∧ lt_safe e ll li = true) from by rw [propext (h e.1)]]
theorem se_nil (k x : Int32) : se_spec [] k x = -1 := by
  unfold se_spec
  split
  · simp
  · rfl
set_option maxRecDepth 100000 in
theorem P_publishB {sc : tm_X} {d N S n : Nat} {B : bm_H} {DL : List (Int32 × Int32)} {dev : Nat → DV} {sto : Nat → ST} {ws : List (Tm × Int32)} {dir reg : Nat → Tm} {seen : List Tm} {G : Tm → Prop} {ls : List RL} {lo dt db rt fl ll tl tf tg tm : Nat → Int32} {ck fo du : Int32} {Lc : List LT} {bdc llc tcc tlc tfc tgc : Nat → Int32} {cfc cgc : Int32} {ctc : Tm} {coc : Bool} {lic foc dbc : Int32} {Q : Int32 → Int32 → bm_H → Prop} {x : Int32} (hJ : J N S n B DL dev sto ws dir reg seen G (Lc, bdc, llc, tcc, tlc, tfc, tgc, cfc, cgc, ctc, coc, lic, foc, dbc) ls lo (dt, db, rt, fl, ll, tl, tf, tg, tm, ck, fo, du)) (hn : n < 64) (hB : inR x 6 = false) (kk : ∀ B2, J N S (n + 1) B2 DL dev sto ws dir reg seen G (Lc, bdc, llc, tcc, tlc, tfc, tgc, cfc, cgc, ctc, coc, lic, foc, dbc) ls lo (dt, db, rt, fl, ll, tl, tf, tg, tm, ck + 1, fo, du) → Q (-1) (-1) B2) : PR sc (d + 12) 30 199 [.int x] B Q := by
  obtain ⟨f, A, T, T0, K, Kw, ca, rm, kc, kl, rk, M, ln, wt, π, w, dv, idc, ⟨hC, hH0, hdv, hid⟩, ⟨hMo, hs0, hM, hS⟩, ⟨hKG, hKs, h16, hlk⟩, hTl, hPh, hrc⟩ := hJ
  refine tb_publish (F := mX) hC hH0 hB ?_
  refine m_run hMo hs0 (mo_publishB hB ?_)
  intro B2 hF2 hs2
  exact kk B2 (J_mk hF2 hs2 hC hH0 hdv hid (by exact MT_i hM rfl rfl rfl rfl rfl rfl rfl rfl rfl rfl) (RS_ck hS) hKG hKs h16 hlk (by omega) (by omega) (show rc (A 1) _ ≤ _ by omega))
set_option maxRecDepth 100000 in
theorem P_beginB {sc : tm_X} {d N S n : Nat} {B : bm_H} {DL : List (Int32 × Int32)} {dev : Nat → DV} {sto : Nat → ST} {ws : List (Tm × Int32)} {dir reg : Nat → Tm} {seen : List Tm} {G : Tm → Prop} {ls : List RL} {lo dt db rt fl ll tl tf tg tm : Nat → Int32} {ck fo du : Int32} {Lc : List LT} {bdc llc tcc tlc tfc tgc : Nat → Int32} {cfc cgc : Int32} {ctc : Tm} {coc : Bool} {lic foc dbc : Int32} {Q : Int32 → Int32 → bm_H → Prop} {x y : Int32} (hJ : J N S n B DL dev sto ws dir reg seen G (Lc, bdc, llc, tcc, tlc, tfc, tgc, cfc, cgc, ctc, coc, lic, foc, dbc) ls lo (dt, db, rt, fl, ll, tl, tf, tg, tm, ck, fo, du)) (hn : n < 64) (hB : inR x 6 = false ∨ inR y 6 = false ∨ x = y) (kk : ∀ B2, J N S (n + 1) B2 DL dev sto ws dir reg seen G (Lc, bdc, llc, tcc, tlc, tfc, tgc, cfc, cgc, ctc, coc, lic, foc, dbc) ls lo (dt, db, rt, fl, ll, tl, tf, tg, tm, ck + 1, fo, du) → Q (-1) (-1) B2) : PR sc (d + 12) 64 210 [.int x, .int y] B Q := by
  obtain ⟨f, A, T, T0, K, Kw, ca, rm, kc, kl, rk, M, ln, wt, π, w, dv, idc, ⟨hC, hH0, hdv, hid⟩, ⟨hMo, hs0, hM, hS⟩, ⟨hKG, hKs, h16, hlk⟩, hTl, hPh, hrc⟩ := hJ
  refine tb_begin (F := mX) hC hH0 hB ?_
  refine m_run hMo hs0 (mo_beginB hB ?_)
  intro B2 hF2 hs2
  exact kk B2 (J_mk hF2 hs2 hC hH0 hdv hid (by exact MT_i hM rfl rfl rfl rfl rfl rfl rfl rfl rfl rfl) (RS_ck hS) hKG hKs h16 hlk (by omega) (by omega) (show rc (A 1) _ ≤ _ by omega))
set_option maxRecDepth 100000 in
theorem P_sendX {sc : tm_X} {d N S n : Nat} {B : bm_H} {DL : List (Int32 × Int32)} {dev : Nat → DV} {sto : Nat → ST} {ws : List (Tm × Int32)} {dir reg : Nat → Tm} {seen : List Tm} {G : Tm → Prop} {ls : List RL} {lo dt db rt fl ll tl tf tg tm : Nat → Int32} {ck fo du : Int32} {Lc : List LT} {bdc llc tcc tlc tfc tgc : Nat → Int32} {cfc cgc : Int32} {ctc : Tm} {coc : Bool} {lic foc dbc : Int32} {Q : Int32 → Int32 → bm_H → Prop} {x y : Int32} (hJ : J N S n B DL dev sto ws dir reg seen G (Lc, bdc, llc, tcc, tlc, tfc, tgc, cfc, cgc, ctc, coc, lic, foc, dbc) ls lo (dt, db, rt, fl, ll, tl, tf, tg, tm, ck, fo, du)) (hn : n < 64) (hB : inR x 6 = false ∨ inR y 6 = false ∨ x = y) (kk : ∀ B2, J N S (n + 1) B2 DL dev sto ws dir reg seen G (Lc, bdc, llc, tcc, tlc, tfc, tgc, cfc, cgc, ctc, coc, lic, foc, dbc) ls lo (dt, db, rt, fl, ll, tl, tf, tg, tm, ck + 1, fo, du) → Q (-1) (-1) B2) : PR sc (d + 12) 84 223 [.int x, .int y] B Q := by
  obtain ⟨f, A, T, T0, K, Kw, ca, rm, kc, kl, rk, M, ln, wt, π, w, dv, idc, ⟨hC, hH0, hdv, hid⟩, ⟨hMo, hs0, hM, hS⟩, ⟨hKG, hKs, h16, hlk⟩, hTl, hPh, hrc⟩ := hJ
  refine tb_send (F := mX) hC hH0 hB ?_
  refine m_run hMo hs0 (mo_sendB hB ?_)
  intro B2 hF2 hs2
  exact kk B2 (J_mk hF2 hs2 hC hH0 hdv hid (by exact MT_i hM rfl rfl rfl rfl rfl rfl rfl rfl rfl rfl) (RS_ck hS) hKG hKs h16 hlk (by omega) (by omega) (show rc (A 1) _ ≤ _ by omega))
set_option maxRecDepth 100000 in
theorem P_listB {sc : tm_X} {d N S n : Nat} {B : bm_H} {DL : List (Int32 × Int32)} {dev : Nat → DV} {sto : Nat → ST} {ws : List (Tm × Int32)} {dir reg : Nat → Tm} {seen : List Tm} {G : Tm → Prop} {ls : List RL} {lo dt db rt fl ll tl tf tg tm : Nat → Int32} {ck fo du : Int32} {Lc : List LT} {bdc llc tcc tlc tfc tgc : Nat → Int32} {cfc cgc : Int32} {ctc : Tm} {coc : Bool} {lic foc dbc : Int32} {Q : Int32 → Int32 → bm_H → Prop} {x y : Int32} (hJ : J N S n B DL dev sto ws dir reg seen G (Lc, bdc, llc, tcc, tlc, tfc, tgc, cfc, cgc, ctc, coc, lic, foc, dbc) ls lo (dt, db, rt, fl, ll, tl, tf, tg, tm, ck, fo, du)) (hn : n < 64) (hB : inR x 4 = false ∨ y < 0 ∨ 64 ≤ y) (kk : ∀ B2, J N S (n + 1) B2 DL dev sto ws dir reg seen G (Lc, bdc, llc, tcc, tlc, tfc, tgc, cfc, cgc, ctc, coc, lic, foc, dbc) ls lo (dt, db, rt, fl, ll, tl, tf, tg, tm, ck + 1, fo, du) → Q (-1) (-1) B2) : PR sc (d + 12) 94 226 [.int x, .int y] B Q := by
  obtain ⟨f, A, T, T0, K, Kw, ca, rm, kc, kl, rk, M, ln, wt, π, w, dv, idc, ⟨hC, hH0, hdv, hid⟩, ⟨hMo, hs0, hM, hS⟩, ⟨hKG, hKs, h16, hlk⟩, hTl, hPh, hrc⟩ := hJ
  refine tb_list (F := mX) hC hH0 hB ?_
  refine m_run hMo hs0 (mo_list2B (hB.imp id (fun h => h.elim inR_lo inR_hi)) ?_)
  intro B2 hF2 hs2
  exact kk B2 (J_mk hF2 hs2 hC hH0 hdv hid (by exact MT_i hM rfl rfl rfl rfl rfl rfl rfl rfl rfl rfl) (RS_ck hS) hKG hKs h16 hlk (by omega) (by omega) (show rc (A 1) _ ≤ _ by omega))
set_option maxRecDepth 100000 in
theorem P_postB {sc : tm_X} {d N S n : Nat} {B : bm_H} {DL : List (Int32 × Int32)} {dev : Nat → DV} {sto : Nat → ST} {ws : List (Tm × Int32)} {dir reg : Nat → Tm} {seen : List Tm} {G : Tm → Prop} {ls : List RL} {lo dt db rt fl ll tl tf tg tm : Nat → Int32} {ck fo du : Int32} {Lc : List LT} {bdc llc tcc tlc tfc tgc : Nat → Int32} {cfc cgc : Int32} {ctc : Tm} {coc : Bool} {lic foc dbc : Int32} {Q : Int32 → Int32 → bm_H → Prop} {x y : Int32} (hJ : J N S n B DL dev sto ws dir reg seen G (Lc, bdc, llc, tcc, tlc, tfc, tgc, cfc, cgc, ctc, coc, lic, foc, dbc) ls lo (dt, db, rt, fl, ll, tl, tf, tg, tm, ck, fo, du)) (hn : n < 64) (hB : inR x 6 = false ∨ inR y 4 = false) (kk : ∀ B2, J N S (n + 1) B2 DL dev sto ws dir reg seen G (Lc, bdc, llc, tcc, tlc, tfc, tgc, cfc, cgc, ctc, coc, lic, foc, dbc) ls lo (dt, db, rt, fl, ll, tl, tf, tg, tm, ck + 1, fo, du) → Q (-1) (-1) B2) : PR sc (d + 12) 97 228 [.int x, .int y] B Q := by
  obtain ⟨f, A, T, T0, K, Kw, ca, rm, kc, kl, rk, M, ln, wt, π, w, dv, idc, ⟨hC, hH0, hdv, hid⟩, ⟨hMo, hs0, hM, hS⟩, ⟨hKG, hKs, h16, hlk⟩, hTl, hPh, hrc⟩ := hJ
  refine tb_post (F := mX) hC hH0 hB ?_
  refine m_run hMo hs0 (mo_postB hB ?_)
  intro B2 hF2 hs2
  exact kk B2 (J_mk hF2 hs2 hC hH0 hdv hid (by exact MT_i hM rfl rfl rfl rfl rfl rfl rfl rfl rfl rfl) (RS_ck hS) hKG hKs h16 hlk (by omega) (by omega) (show rc (A 1) _ ≤ _ by omega))
set_option maxRecDepth 100000 in
theorem P_crashB {sc : tm_X} {d N S n : Nat} {B : bm_H} {DL : List (Int32 × Int32)} {dev : Nat → DV} {sto : Nat → ST} {ws : List (Tm × Int32)} {dir reg : Nat → Tm} {seen : List Tm} {G : Tm → Prop} {ls : List RL} {lo dt db rt fl ll tl tf tg tm : Nat → Int32} {ck fo du : Int32} {Lc : List LT} {bdc llc tcc tlc tfc tgc : Nat → Int32} {cfc cgc : Int32} {ctc : Tm} {coc : Bool} {lic foc dbc : Int32} {Q : Int32 → Int32 → bm_H → Prop} {x y : Int32} (hJ : J N S n B DL dev sto ws dir reg seen G (Lc, bdc, llc, tcc, tlc, tfc, tgc, cfc, cgc, ctc, coc, lic, foc, dbc) ls lo (dt, db, rt, fl, ll, tl, tf, tg, tm, ck, fo, du)) (hn : n < 64) (hB : inR x 6 = false ∨ inR y 201 = false) (kk : ∀ B2, J N S (n + 1) B2 DL dev sto ws dir reg seen G (Lc, bdc, llc, tcc, tlc, tfc, tgc, cfc, cgc, ctc, coc, lic, foc, dbc) ls lo (dt, db, rt, fl, ll, tl, tf, tg, tm, ck + 1, fo, du) → Q (-1) (-1) B2) : PR sc (d + 12) 133 251 [.int x, .int y] B Q := by
  obtain ⟨f, A, T, T0, K, Kw, ca, rm, kc, kl, rk, M, ln, wt, π, w, dv, idc, ⟨hC, hH0, hdv, hid⟩, ⟨hMo, hs0, hM, hS⟩, ⟨hKG, hKs, h16, hlk⟩, hTl, hPh, hrc⟩ := hJ
  refine t_crash0 (F := mX) hC hH0 hB ?_
  refine m_run hMo hs0 (mo_crashB hB ?_)
  intro B2 hF2 hs2
  exact kk B2 (J_mk hF2 hs2 hC hH0 hdv hid (by exact MT_i hM rfl rfl rfl rfl rfl rfl rfl rfl rfl rfl) (RS_ck hS) hKG hKs h16 hlk (by omega) (by omega) (show rc (A 1) _ ≤ _ by omega))
set_option maxRecDepth 100000 in
theorem P_deliverB {sc : tm_X} {d N S n : Nat} {B : bm_H} {DL : List (Int32 × Int32)} {dev : Nat → DV} {sto : Nat → ST} {ws : List (Tm × Int32)} {dir reg : Nat → Tm} {seen : List Tm} {G : Tm → Prop} {ls : List RL} {lo dt db rt fl ll tl tf tg tm : Nat → Int32} {ck fo du : Int32} {Lc : List LT} {bdc llc tcc tlc tfc tgc : Nat → Int32} {cfc cgc : Int32} {ctc : Tm} {coc : Bool} {lic foc dbc : Int32} {Q : Int32 → Int32 → bm_H → Prop} {x y : Int32} (hJ : J N S n B DL dev sto ws dir reg seen G (Lc, bdc, llc, tcc, tlc, tfc, tgc, cfc, cgc, ctc, coc, lic, foc, dbc) ls lo (dt, db, rt, fl, ll, tl, tf, tg, tm, ck, fo, du)) (hn : n < 64) (hB : inR x 6 = false ∨ inR y (nI ws.length) = false) (kk : ∀ B2, J N S (n + 1) B2 DL dev sto ws dir reg seen G (Lc, bdc, llc, tcc, tlc, tfc, tgc, cfc, cgc, ctc, coc, lic, foc, dbc) ls lo (dt, db, rt, fl, ll, tl, tf, tg, tm, ck + 1, fo, du) → Q (-1) (-1) B2) : PR sc (d + 12) 103 229 [.int x, .int y] B Q := by
  obtain ⟨f, A, T, T0, K, Kw, ca, rm, kc, kl, rk, M, ln, wt, π, w, dv, idc, ⟨hC, hH0, hdv, hid⟩, ⟨hMo, hs0, hM, hS⟩, ⟨hKG, hKs, h16, hlk⟩, hTl, hPh, hrc⟩ := hJ
  refine t_deliver0 (F := mX) hC hH0 hB ?_
  refine m_run hMo hs0 (mo_deliverB hS.2.1.1.1.1 hB ?_)
  intro B2 hF2 hs2
  exact kk B2 (J_mk hF2 hs2 hC hH0 hdv hid (by exact MT_i hM rfl rfl rfl rfl rfl rfl rfl rfl rfl rfl) (RS_ck hS) hKG hKs h16 hlk (by omega) (by omega) (show rc (A 1) _ ≤ _ by omega))
set_option maxRecDepth 100000 in
theorem P_injectB {sc : tm_X} {d N S n : Nat} {B : bm_H} {DL : List (Int32 × Int32)} {dev : Nat → DV} {sto : Nat → ST} {ws : List (Tm × Int32)} {dir reg : Nat → Tm} {seen : List Tm} {G : Tm → Prop} {ls : List RL} {lo dt db rt fl ll tl tf tg tm : Nat → Int32} {ck fo du : Int32} {Lc : List LT} {bdc llc tcc tlc tfc tgc : Nat → Int32} {cfc cgc : Int32} {ctc : Tm} {coc : Bool} {lic foc dbc : Int32} {Q : Int32 → Int32 → bm_H → Prop} {x y : Int32} (hJ : J N S n B DL dev sto ws dir reg seen G (Lc, bdc, llc, tcc, tlc, tfc, tgc, cfc, cgc, ctc, coc, lic, foc, dbc) ls lo (dt, db, rt, fl, ll, tl, tf, tg, tm, ck, fo, du)) (hn : n < 64) (hB : inR x 6 = false ∨ hl reg y = tz) (kk : ∀ B2, J N S (n + 1) B2 DL dev sto ws dir reg seen G (Lc, bdc, llc, tcc, tlc, tfc, tgc, cfc, cgc, ctc, coc, lic, foc, dbc) ls lo (dt, db, rt, fl, ll, tl, tf, tg, tm, ck + 1, fo, du) → Q (-1) (-1) B2) : PR sc (d + 12) 130 248 [.int x, .int y] B Q := by
  obtain ⟨f, A, T, T0, K, Kw, ca, rm, kc, kl, rk, M, ln, wt, π, w, dv, idc, ⟨hC, hH0, hdv, hid⟩, ⟨hMo, hs0, hM, hS⟩, ⟨hKG, hKs, h16, hlk⟩, hTl, hPh, hrc⟩ := hJ
  refine t_inject0 (F := mX) hC hH0 hB ?_
  refine m_run hMo hs0 (mo_injectB hM hS.2.1.2.2.1 hB ?_)
  intro B2 hF2 hs2
  exact kk B2 (J_mk hF2 hs2 hC hH0 hdv hid (by exact MT_i hM rfl rfl rfl rfl rfl rfl rfl rfl rfl rfl) (RS_ck hS) hKG hKs h16 hlk (by omega) (by omega) (show rc (A 1) _ ≤ _ by omega))
set_option maxRecDepth 100000 in
theorem P_lookB {sc : tm_X} {d N S n : Nat} {B : bm_H} {DL : List (Int32 × Int32)} {dev : Nat → DV} {sto : Nat → ST} {ws : List (Tm × Int32)} {dir reg : Nat → Tm} {seen : List Tm} {G : Tm → Prop} {ls : List RL} {lo dt db rt fl ll tl tf tg tm : Nat → Int32} {ck fo du : Int32} {Lc : List LT} {bdc llc tcc tlc tfc tgc : Nat → Int32} {cfc cgc : Int32} {ctc : Tm} {coc : Bool} {lic foc dbc : Int32} {Q : Int32 → Int32 → bm_H → Prop} {x : Int32} (hJ : J N S n B DL dev sto ws dir reg seen G (Lc, bdc, llc, tcc, tlc, tfc, tgc, cfc, cgc, ctc, coc, lic, foc, dbc) ls lo (dt, db, rt, fl, ll, tl, tf, tg, tm, ck, fo, du)) (hn : n < 64) (hB : inR x 6 = false) (kk : ∀ B2, J N S (n + 1) B2 DL dev sto ws dir reg seen G (Lc, bdc, llc, tcc, tlc, tfc, tgc, cfc, cgc, ctc, coc, lic, foc, dbc) ls lo (dt, db, rt, fl, ll, tl, tf, tg, tm, ck, fo, du) → Q (-1) (-1) B2) : PR sc (d + 12) 152 265 [.int x] B Q := by
  obtain ⟨f, A, T, T0, K, Kw, ca, rm, kc, kl, rk, M, ln, wt, π, w, dv, idc, ⟨hC, hH0, hdv, hid⟩, ⟨hMo, hs0, hM, hS⟩, ⟨hKG, hKs, h16, hlk⟩, hTl, hPh, hrc⟩ := hJ
  refine t_look0 (F := mX) hC hH0 hB ?_
  refine m_run hMo hs0 (mo_lookB hB ?_)
  intro B2 hF2 hs2
  exact kk B2 (J_mk hF2 hs2 hC hH0 hdv hid hM hS hKG hKs h16 hlk (by omega) (by omega) (by omega))
set_option maxRecDepth 100000 in
theorem P_upB {sc : tm_X} {d N S n : Nat} {B : bm_H} {DL : List (Int32 × Int32)} {dev : Nat → DV} {sto : Nat → ST} {ws : List (Tm × Int32)} {dir reg : Nat → Tm} {seen : List Tm} {G : Tm → Prop} {ls : List RL} {lo dt db rt fl ll tl tf tg tm : Nat → Int32} {ck fo du : Int32} {Lc : List LT} {bdc llc tcc tlc tfc tgc : Nat → Int32} {cfc cgc : Int32} {ctc : Tm} {coc : Bool} {lic foc dbc : Int32} {Q : Int32 → Int32 → bm_H → Prop} {x : Int32} (hJ : J N S n B DL dev sto ws dir reg seen G (Lc, bdc, llc, tcc, tlc, tfc, tgc, cfc, cgc, ctc, coc, lic, foc, dbc) ls lo (dt, db, rt, fl, ll, tl, tf, tg, tm, ck, fo, du)) (hn : n < 64) (hB : inR x 6 = false) (kk : ∀ B2, J N S (n + 1) B2 DL dev sto ws dir reg seen G (Lc, bdc, llc, tcc, tlc, tfc, tgc, cfc, cgc, ctc, coc, lic, foc, dbc) ls lo (dt, db, rt, fl, ll, tl, tf, tg, tm, ck, fo, du) → Q (-1) (-1) B2) : PR sc (d + 12) 134 252 [.int x] B Q := by
  obtain ⟨f, A, T, T0, K, Kw, ca, rm, kc, kl, rk, M, ln, wt, π, w, dv, idc, ⟨hC, hH0, hdv, hid⟩, ⟨hMo, hs0, hM, hS⟩, ⟨hKG, hKs, h16, hlk⟩, hTl, hPh, hrc⟩ := hJ
  refine t_up0 (F := mX) hC hH0 hB ?_
  refine m_run hMo hs0 (mo_upB hB ?_)
  intro B2 hF2 hs2
  exact kk B2 (J_mk hF2 hs2 hC hH0 hdv hid hM hS hKG hKs h16 hlk (by omega) (by omega) (by omega))
set_option maxRecDepth 100000 in
theorem P_drawB {sc : tm_X} {d N S n : Nat} {B : bm_H} {DL : List (Int32 × Int32)} {dev : Nat → DV} {sto : Nat → ST} {ws : List (Tm × Int32)} {dir reg : Nat → Tm} {seen : List Tm} {G : Tm → Prop} {ls : List RL} {lo dt db rt fl ll tl tf tg tm : Nat → Int32} {ck fo du : Int32} {Lc : List LT} {bdc llc tcc tlc tfc tgc : Nat → Int32} {cfc cgc : Int32} {ctc : Tm} {coc : Bool} {lic foc dbc : Int32} {Q : Int32 → Int32 → bm_H → Prop} {x : Int32} (hJ : J N S n B DL dev sto ws dir reg seen G (Lc, bdc, llc, tcc, tlc, tfc, tgc, cfc, cgc, ctc, coc, lic, foc, dbc) ls lo (dt, db, rt, fl, ll, tl, tf, tg, tm, ck, fo, du)) (hn : n < 64) (hB : inR x 32 = false) (kk : ∀ B2, J N S (n + 1) B2 DL dev sto ws dir reg seen G (Lc, bdc, llc, tcc, tlc, tfc, tgc, cfc, cgc, ctc, coc, lic, foc, dbc) ls lo (dt, db, rt, fl, ll, tl, tf, tg, tm, ck, fo, du) → Q (-1) (-1) B2) : PR sc (d + 12) 136 254 [.int x] B Q := by
  obtain ⟨f, A, T, T0, K, Kw, ca, rm, kc, kl, rk, M, ln, wt, π, w, dv, idc, ⟨hC, hH0, hdv, hid⟩, ⟨hMo, hs0, hM, hS⟩, ⟨hKG, hKs, h16, hlk⟩, hTl, hPh, hrc⟩ := hJ
  refine t_draw0 (F := mX) hC hH0 hB ?_
  refine m_run hMo hs0 (mo_drawB hB ?_)
  intro B2 hF2 hs2
  exact kk B2 (J_mk hF2 hs2 hC hH0 hdv hid hM hS hKG hKs h16 hlk (by omega) (by omega) (by omega))
set_option maxRecDepth 100000 in
theorem P_takenB {sc : tm_X} {d N S n : Nat} {B : bm_H} {DL : List (Int32 × Int32)} {dev : Nat → DV} {sto : Nat → ST} {ws : List (Tm × Int32)} {dir reg : Nat → Tm} {seen : List Tm} {G : Tm → Prop} {ls : List RL} {lo dt db rt fl ll tl tf tg tm : Nat → Int32} {ck fo du : Int32} {Lc : List LT} {bdc llc tcc tlc tfc tgc : Nat → Int32} {cfc cgc : Int32} {ctc : Tm} {coc : Bool} {lic foc dbc : Int32} {Q : Int32 → Int32 → bm_H → Prop} {x y : Int32} (hJ : J N S n B DL dev sto ws dir reg seen G (Lc, bdc, llc, tcc, tlc, tfc, tgc, cfc, cgc, ctc, coc, lic, foc, dbc) ls lo (dt, db, rt, fl, ll, tl, tf, tg, tm, ck, fo, du)) (hn : n < 64) (hB : inR x 6 = false) (kk : ∀ B2, J N S (n + 1) B2 DL dev sto ws dir reg seen G (Lc, bdc, llc, tcc, tlc, tfc, tgc, cfc, cgc, ctc, coc, lic, foc, dbc) ls lo (dt, db, rt, fl, ll, tl, tf, tg, tm, ck, fo, du) → Q (-1) (-1) B2) : PR sc (d + 12) 160 278 [.int x, .int y] B Q := by
  obtain ⟨f, A, T, T0, K, Kw, ca, rm, kc, kl, rk, M, ln, wt, π, w, dv, idc, ⟨hC, hH0, hdv, hid⟩, ⟨hMo, hs0, hM, hS⟩, ⟨hKG, hKs, h16, hlk⟩, hTl, hPh, hrc⟩ := hJ
  refine t_taken0 (F := mX) hC hH0 hB ?_
  refine m_run hMo hs0 (mo_takenB hB ?_)
  intro B2 hF2 hs2
  exact kk B2 (J_mk hF2 hs2 hC hH0 hdv hid hM hS hKG hKs h16 hlk (by omega) (by omega) (by omega))
set_option maxRecDepth 100000 in
theorem P_deviceB {sc : tm_X} {d N S n : Nat} {B : bm_H} {DL : List (Int32 × Int32)} {dev : Nat → DV} {sto : Nat → ST} {ws : List (Tm × Int32)} {dir reg : Nat → Tm} {seen : List Tm} {G : Tm → Prop} {ls : List RL} {lo dt db rt fl ll tl tf tg tm : Nat → Int32} {ck fo du : Int32} {Lc : List LT} {bdc llc tcc tlc tfc tgc : Nat → Int32} {cfc cgc : Int32} {ctc : Tm} {coc : Bool} {lic foc dbc : Int32} {Q : Int32 → Int32 → bm_H → Prop} {x y : Int32} (hJ : J N S n B DL dev sto ws dir reg seen G (Lc, bdc, llc, tcc, tlc, tfc, tgc, cfc, cgc, ctc, coc, lic, foc, dbc) ls lo (dt, db, rt, fl, ll, tl, tf, tg, tm, ck, fo, du)) (hn : n < 64) (hB : inR x 6 = false) (kk : ∀ B2, J N S (n + 1) B2 DL dev sto ws dir reg seen G (Lc, bdc, llc, tcc, tlc, tfc, tgc, cfc, cgc, ctc, coc, lic, foc, dbc) ls lo (dt, db, rt, fl, ll, tl, tf, tg, tm, ck, fo, du) → Q (-1) (-1) B2) : PR sc (d + 12) 162 279 [.int x, .int y] B Q := by
  obtain ⟨f, A, T, T0, K, Kw, ca, rm, kc, kl, rk, M, ln, wt, π, w, dv, idc, ⟨hC, hH0, hdv, hid⟩, ⟨hMo, hs0, hM, hS⟩, ⟨hKG, hKs, h16, hlk⟩, hTl, hPh, hrc⟩ := hJ
  refine t_device0 (F := mX) hC hH0 hB ?_
  refine m_run hMo hs0 (mo_deviceB hB ?_)
  intro B2 hF2 hs2
  exact kk B2 (J_mk hF2 hs2 hC hH0 hdv hid hM hS hKG hKs h16 hlk (by omega) (by omega) (by omega))
set_option maxRecDepth 100000 in
theorem P_sessionB {sc : tm_X} {d N S n : Nat} {B : bm_H} {DL : List (Int32 × Int32)} {dev : Nat → DV} {sto : Nat → ST} {ws : List (Tm × Int32)} {dir reg : Nat → Tm} {seen : List Tm} {G : Tm → Prop} {ls : List RL} {lo dt db rt fl ll tl tf tg tm : Nat → Int32} {ck fo du : Int32} {Lc : List LT} {bdc llc tcc tlc tfc tgc : Nat → Int32} {cfc cgc : Int32} {ctc : Tm} {coc : Bool} {lic foc dbc : Int32} {Q : Int32 → Int32 → bm_H → Prop} {x y k z : Int32} (hJ : J N S n B DL dev sto ws dir reg seen G (Lc, bdc, llc, tcc, tlc, tfc, tgc, cfc, cgc, ctc, coc, lic, foc, dbc) ls lo (dt, db, rt, fl, ll, tl, tf, tg, tm, ck, fo, du)) (hn : n < 64) (hB : inR x 6 = false ∨ inR y 6 = false) (kk : ∀ B2, J N S (n + 1) B2 DL dev sto ws dir reg seen G (Lc, bdc, llc, tcc, tlc, tfc, tgc, cfc, cgc, ctc, coc, lic, foc, dbc) ls lo (dt, db, rt, fl, ll, tl, tf, tg, tm, ck, fo, du) → Q (-1) (-1) B2) : PR sc (d + 12) 165 280 [.int x, .int y, .int k, .int z] B Q := by
  obtain ⟨f, A, T, T0, K, Kw, ca, rm, kc, kl, rk, M, ln, wt, π, w, dv, idc, ⟨hC, hH0, hdv, hid⟩, ⟨hMo, hs0, hM, hS⟩, ⟨hKG, hKs, h16, hlk⟩, hTl, hPh, hrc⟩ := hJ
  refine t_session0 (F := mX) hC hH0 (hB.imp id Or.inl) ?_
  refine m_run hMo hs0 (mo_sessionB hB ?_)
  intro B2 hF2 hs2
  exact kk B2 (J_mk hF2 hs2 hC hH0 hdv hid hM hS hKG hKs h16 hlk (by omega) (by omega) (by omega))
set_option maxRecDepth 100000 in
theorem P_groupB {sc : tm_X} {d N S n : Nat} {B : bm_H} {DL : List (Int32 × Int32)} {dev : Nat → DV} {sto : Nat → ST} {ws : List (Tm × Int32)} {dir reg : Nat → Tm} {seen : List Tm} {G : Tm → Prop} {ls : List RL} {lo dt db rt fl ll tl tf tg tm : Nat → Int32} {ck fo du : Int32} {Lc : List LT} {bdc llc tcc tlc tfc tgc : Nat → Int32} {cfc cgc : Int32} {ctc : Tm} {coc : Bool} {lic foc dbc : Int32} {Q : Int32 → Int32 → bm_H → Prop} {x y z : Int32} (hJ : J N S n B DL dev sto ws dir reg seen G (Lc, bdc, llc, tcc, tlc, tfc, tgc, cfc, cgc, ctc, coc, lic, foc, dbc) ls lo (dt, db, rt, fl, ll, tl, tf, tg, tm, ck, fo, du)) (hn : n < 64) (hB : inR x 6 = false ∨ inR y 4 = false) (kk : ∀ B2, J N S (n + 1) B2 DL dev sto ws dir reg seen G (Lc, bdc, llc, tcc, tlc, tfc, tgc, cfc, cgc, ctc, coc, lic, foc, dbc) ls lo (dt, db, rt, fl, ll, tl, tf, tg, tm, ck, fo, du) → Q (-1) (-1) B2) : PR sc (d + 12) 167 281 [.int x, .int y, .int z] B Q := by
  obtain ⟨f, A, T, T0, K, Kw, ca, rm, kc, kl, rk, M, ln, wt, π, w, dv, idc, ⟨hC, hH0, hdv, hid⟩, ⟨hMo, hs0, hM, hS⟩, ⟨hKG, hKs, h16, hlk⟩, hTl, hPh, hrc⟩ := hJ
  refine t_group0 (F := mX) hC hH0 hB ?_
  refine m_run hMo hs0 (mo_groupB hB ?_)
  intro B2 hF2 hs2
  exact kk B2 (J_mk hF2 hs2 hC hH0 hdv hid hM hS hKG hKs h16 hlk (by omega) (by omega) (by omega))
set_option maxRecDepth 100000 in
theorem P_derivedB {sc : tm_X} {d N S n : Nat} {B : bm_H} {DL : List (Int32 × Int32)} {dev : Nat → DV} {sto : Nat → ST} {ws : List (Tm × Int32)} {dir reg : Nat → Tm} {seen : List Tm} {G : Tm → Prop} {ls : List RL} {lo dt db rt fl ll tl tf tg tm : Nat → Int32} {ck fo du : Int32} {Lc : List LT} {bdc llc tcc tlc tfc tgc : Nat → Int32} {cfc cgc : Int32} {ctc : Tm} {coc : Bool} {lic foc dbc : Int32} {Q : Int32 → Int32 → bm_H → Prop} {x : Int32} (hJ : J N S n B DL dev sto ws dir reg seen G (Lc, bdc, llc, tcc, tlc, tfc, tgc, cfc, cgc, ctc, coc, lic, foc, dbc) ls lo (dt, db, rt, fl, ll, tl, tf, tg, tm, ck, fo, du)) (hn : n < 64) (hll : Lc.length = ls.length) (hB : inR x (nI ls.length) = false) (kk : ∀ B2, J N S (n + 1) B2 DL dev sto ws dir reg seen G (Lc, bdc, llc, tcc, tlc, tfc, tgc, cfc, cgc, ctc, coc, lic, foc, dbc) ls lo (dt, db, rt, fl, ll, tl, tf, tg, tm, ck, fo, du) → Q (-1) (-1) B2) : PR sc (d + 12) 157 269 [.int x] B Q := by
  obtain ⟨f, A, T, T0, K, Kw, ca, rm, kc, kl, rk, M, ln, wt, π, w, dv, idc, ⟨hC, hH0, hdv, hid⟩, ⟨hMo, hs0, hM, hS⟩, ⟨hKG, hKs, h16, hlk⟩, hTl, hPh, hrc⟩ := hJ
  refine t_derived0 (F := mX) hC hH0 (by rw [hll]; exact hB) ?_
  refine m_run hMo hs0 (mo_derivedB (G := G) (Kw := Kw) hS hB ?_)
  intro B2 hF2 hs2
  exact kk B2 (J_mk hF2 hs2 hC hH0 hdv hid hM hS hKG hKs h16 hlk (by omega) (by omega) (by omega))
set_option maxRecDepth 100000 in
theorem P_publishD {sc : tm_X} {d N S n : Nat} {B : bm_H} {DL : List (Int32 × Int32)} {dev : Nat → DV} {sto : Nat → ST} {ws : List (Tm × Int32)} {dir reg : Nat → Tm} {seen : List Tm} {G : Tm → Prop} {ls : List RL} {lo dt db rt fl ll tl tf tg tm : Nat → Int32} {ck fo du : Int32} {Lc : List LT} {bdc llc tcc tlc tfc tgc : Nat → Int32} {cfc cgc : Int32} {ctc : Tm} {coc : Bool} {lic foc dbc : Int32} {Q : Int32 → Int32 → bm_H → Prop} {p : Nat} (hJ : J N S n B DL dev sto ws dir reg seen G (Lc, bdc, llc, tcc, tlc, tfc, tgc, cfc, cgc, ctc, coc, lic, foc, dbc) ls lo (dt, db, rt, fl, ll, tl, tf, tg, tm, ck, fo, du)) (hn : n < 64) (hdl : DL.length ≤ 2900) (hws : ws.length ≤ 692) (hdn : (sto p).2.2.2.2 = true) (hp : p < 6) (kk : ∀ B2, J N S (n + 1) B2 DL dev sto ws dir reg seen G (Lc, bdc, llc, tcc, tlc, tfc, tgc, cfc, cgc, ctc, coc, lic, foc, dbc) ls lo (dt, db, rt, fl, ll, tl, tf, tg, tm, ck + 1, fo, du) → Q (-3) (-3) B2) : PR sc (d + 12) 30 199 [.int (nI p)] B Q := by
  obtain ⟨f, A, T, T0, K, Kw, ca, rm, kc, kl, rk, M, ln, wt, π, w, dv, idc, ⟨hC, hH0, hdv, hid⟩, ⟨hMo, hs0, hM, hS⟩, ⟨hKG, hKs, h16, hlk⟩, hTl, hPh, hrc⟩ := hJ
  refine td_publish (F := mX) hC hH0 (by omega) hws (by omega) hp hdn (fun B1 M1 ca1 rm1 hC1 hH1 hf1 => ?_)
  obtain ⟨A1, hMo1, hs1, hM1, hS1, hr1, -⟩ := J_cls hf1 hMo hs0 hM hS
  have hq0 := hS1.1.2.2 p hp
  obtain ⟨p0, P, O, c, dn, hst⟩ : ∃ a1 a2 a3 a4 a5, sto p = (a1, a2, a3, a4, a5) := ⟨_, _, _, _, _, rfl⟩
  rw [hst] at hq0 hdn
  have hdn : dn = true := hdn
  subst hdn
  refine m_run hMo1 hs1 (mo_publishD (n := DL.length) (m := ws.length) hS1.2.2.2.1.1 (by omega) hS1.2.1.1.1.1 hws hp hq0.1.2.2.1 ?_)
  intro B2 hF2 hs2
  exact kk B2 (J_mk hF2 hs2 hC1 hH1 hdv hid (by exact MT_i hM1 rfl rfl rfl rfl rfl rfl rfl rfl rfl rfl) (RS_ck hS1) hKG hKs h16 hlk (by omega) (by omega) (show rc (A1 1) _ ≤ _ by omega))
set_option maxRecDepth 100000 in
theorem P_beginD {sc : tm_X} {d N S n : Nat} {B : bm_H} {DL : List (Int32 × Int32)} {dev : Nat → DV} {sto : Nat → ST} {ws : List (Tm × Int32)} {dir reg : Nat → Tm} {seen : List Tm} {G : Tm → Prop} {ls : List RL} {lo dt db rt fl ll tl tf tg tm : Nat → Int32} {ck fo du : Int32} {Lc : List LT} {bdc llc tcc tlc tfc tgc : Nat → Int32} {cfc cgc : Int32} {ctc : Tm} {coc : Bool} {lic foc dbc : Int32} {Q : Int32 → Int32 → bm_H → Prop} {p q : Nat} (hJ : J N S n B DL dev sto ws dir reg seen G (Lc, bdc, llc, tcc, tlc, tfc, tgc, cfc, cgc, ctc, coc, lic, foc, dbc) ls lo (dt, db, rt, fl, ll, tl, tf, tg, tm, ck, fo, du)) (hn : n < 64) (hdl : DL.length ≤ 2900) (hws : ws.length ≤ 692) (hdn : (sto p).2.2.2.2 = true) (hp : p < 6) (hq : q < 6) (hpq : p ≠ q) (kk : ∀ B2, J N S (n + 1) B2 DL dev sto ws dir reg seen G (Lc, bdc, llc, tcc, tlc, tfc, tgc, cfc, cgc, ctc, coc, lic, foc, dbc) ls lo (dt, db, rt, fl, ll, tl, tf, tg, tm, ck + 1, fo, du) → Q (-3) (-3) B2) : PR sc (d + 12) 64 210 [.int (nI p), .int (nI q)] B Q := by
  obtain ⟨f, A, T, T0, K, Kw, ca, rm, kc, kl, rk, M, ln, wt, π, w, dv, idc, ⟨hC, hH0, hdv, hid⟩, ⟨hMo, hs0, hM, hS⟩, ⟨hKG, hKs, h16, hlk⟩, hTl, hPh, hrc⟩ := hJ
  refine td_begin (F := mX) hC hH0 (by omega) hws (by omega) hp hq hpq hdn (fun B1 M1 ca1 rm1 hC1 hH1 hf1 => ?_)
  obtain ⟨A1, hMo1, hs1, hM1, hS1, hr1, -⟩ := J_cls hf1 hMo hs0 hM hS
  have hq0 := hS1.1.2.2 p hp
  obtain ⟨p0, P, O, c, dn, hst⟩ : ∃ a1 a2 a3 a4 a5, sto p = (a1, a2, a3, a4, a5) := ⟨_, _, _, _, _, rfl⟩
  rw [hst] at hq0 hdn
  have hdn : dn = true := hdn
  subst hdn
  refine m_run hMo1 hs1 (mo_beginD (n := DL.length) (m := ws.length) hS1.2.2.2.1.1 (by omega) hS1.2.1.1.1.1 hws hp hq0.1.2.2.1 hq hpq ?_)
  intro B2 hF2 hs2
  exact kk B2 (J_mk hF2 hs2 hC1 hH1 hdv hid (by exact MT_i hM1 rfl rfl rfl rfl rfl rfl rfl rfl rfl rfl) (RS_ck hS1) hKG hKs h16 hlk (by omega) (by omega) (show rc (A1 1) _ ≤ _ by omega))
set_option maxRecDepth 100000 in
theorem P_sendD {sc : tm_X} {d N S n : Nat} {B : bm_H} {DL : List (Int32 × Int32)} {dev : Nat → DV} {sto : Nat → ST} {ws : List (Tm × Int32)} {dir reg : Nat → Tm} {seen : List Tm} {G : Tm → Prop} {ls : List RL} {lo dt db rt fl ll tl tf tg tm : Nat → Int32} {ck fo du : Int32} {Lc : List LT} {bdc llc tcc tlc tfc tgc : Nat → Int32} {cfc cgc : Int32} {ctc : Tm} {coc : Bool} {lic foc dbc : Int32} {Q : Int32 → Int32 → bm_H → Prop} {p q : Nat} (hJ : J N S n B DL dev sto ws dir reg seen G (Lc, bdc, llc, tcc, tlc, tfc, tgc, cfc, cgc, ctc, coc, lic, foc, dbc) ls lo (dt, db, rt, fl, ll, tl, tf, tg, tm, ck, fo, du)) (hn : n < 64) (hdl : DL.length ≤ 2900) (hws : ws.length ≤ 692) (hdn : (sto p).2.2.2.2 = true) (hp : p < 6) (hq : q < 6) (hpq : p ≠ q) (kk : ∀ B2, J N S (n + 1) B2 DL dev sto ws dir reg seen G (Lc, bdc, llc, tcc, tlc, tfc, tgc, cfc, cgc, ctc, coc, lic, foc, dbc) ls lo (dt, db, rt, fl, ll, tl, tf, tg, tm, ck + 1, fo, du) → Q (-3) (-3) B2) : PR sc (d + 12) 84 223 [.int (nI p), .int (nI q)] B Q := by
  obtain ⟨f, A, T, T0, K, Kw, ca, rm, kc, kl, rk, M, ln, wt, π, w, dv, idc, ⟨hC, hH0, hdv, hid⟩, ⟨hMo, hs0, hM, hS⟩, ⟨hKG, hKs, h16, hlk⟩, hTl, hPh, hrc⟩ := hJ
  refine td_send (F := mX) hC hH0 (by omega) hws (by omega) hp hq hpq hdn (fun B1 M1 ca1 rm1 hC1 hH1 hf1 => ?_)
  obtain ⟨A1, hMo1, hs1, hM1, hS1, hr1, -⟩ := J_cls hf1 hMo hs0 hM hS
  have hq0 := hS1.1.2.2 p hp
  obtain ⟨p0, P, O, c, dn, hst⟩ : ∃ a1 a2 a3 a4 a5, sto p = (a1, a2, a3, a4, a5) := ⟨_, _, _, _, _, rfl⟩
  rw [hst] at hq0 hdn
  have hdn : dn = true := hdn
  subst hdn
  refine m_run hMo1 hs1 (mo_sendD (n := DL.length) (m := ws.length) hS1.2.2.2.1.1 (by omega) hS1.2.1.1.1.1 hws hp hq0.1.2.2.1 hq hpq ?_)
  intro B2 hF2 hs2
  exact kk B2 (J_mk hF2 hs2 hC1 hH1 hdv hid (by exact MT_i hM1 rfl rfl rfl rfl rfl rfl rfl rfl rfl rfl) (RS_ck hS1) hKG hKs h16 hlk (by omega) (by omega) (show rc (A1 1) _ ≤ _ by omega))
set_option maxRecDepth 100000 in
theorem P_listD {sc : tm_X} {d N S n : Nat} {B : bm_H} {DL : List (Int32 × Int32)} {dev : Nat → DV} {sto : Nat → ST} {ws : List (Tm × Int32)} {dir reg : Nat → Tm} {seen : List Tm} {G : Tm → Prop} {ls : List RL} {lo dt db rt fl ll tl tf tg tm : Nat → Int32} {ck fo du : Int32} {Lc : List LT} {bdc llc tcc tlc tfc tgc : Nat → Int32} {cfc cgc : Int32} {ctc : Tm} {coc : Bool} {lic foc dbc : Int32} {Q : Int32 → Int32 → bm_H → Prop} {p : Nat} {k : Int32} (hJ : J N S n B DL dev sto ws dir reg seen G (Lc, bdc, llc, tcc, tlc, tfc, tgc, cfc, cgc, ctc, coc, lic, foc, dbc) ls lo (dt, db, rt, fl, ll, tl, tf, tg, tm, ck, fo, du)) (hn : n < 64) (hdl : DL.length ≤ 2900) (hws : ws.length ≤ 692) (hdn : (sto p).2.2.2.2 = true) (hp4 : p < 4) (hp : p < 6) (hk0 : ¬ k < 0) (hk6 : ¬ 64 ≤ k) (kk : ∀ B2, J N S (n + 1) B2 DL dev sto ws dir reg seen G (Lc, bdc, llc, tcc, tlc, tfc, tgc, cfc, cgc, ctc, coc, lic, foc, dbc) ls lo (dt, db, rt, fl, ll, tl, tf, tg, tm, ck + 1, fo, du) → Q (-3) (-3) B2) : PR sc (d + 12) 94 226 [.int (nI p), .int k] B Q := by
  obtain ⟨f, A, T, T0, K, Kw, ca, rm, kc, kl, rk, M, ln, wt, π, w, dv, idc, ⟨hC, hH0, hdv, hid⟩, ⟨hMo, hs0, hM, hS⟩, ⟨hKG, hKs, h16, hlk⟩, hTl, hPh, hrc⟩ := hJ
  refine td_list (F := mX) hC hH0 (by omega) hws (by omega) hp4 hp hk0 hk6 hdn (fun B1 M1 ca1 rm1 hC1 hH1 hf1 => ?_)
  obtain ⟨A1, hMo1, hs1, hM1, hS1, hr1, -⟩ := J_cls hf1 hMo hs0 hM hS
  have hq0 := hS1.1.2.2 p hp
  obtain ⟨p0, P, O, c, dn, hst⟩ : ∃ a1 a2 a3 a4 a5, sto p = (a1, a2, a3, a4, a5) := ⟨_, _, _, _, _, rfl⟩
  rw [hst] at hq0 hdn
  have hdn : dn = true := hdn
  subst hdn
  refine m_run hMo1 hs1 (mo_list2D (n := DL.length) (m := ws.length) hS1.2.2.2.1.1 (by omega) hS1.2.1.1.1.1 hws hp hq0.1.2.2.1 hp4 (inR_t hk0 hk6) ?_)
  intro B2 hF2 hs2
  exact kk B2 (J_mk hF2 hs2 hC1 hH1 hdv hid (by exact MT_i hM1 rfl rfl rfl rfl rfl rfl rfl rfl rfl rfl) (RS_ck hS1) hKG hKs h16 hlk (by omega) (by omega) (show rc (A1 1) _ ≤ _ by omega))
set_option maxRecDepth 100000 in
theorem P_postD {sc : tm_X} {d N S n : Nat} {B : bm_H} {DL : List (Int32 × Int32)} {dev : Nat → DV} {sto : Nat → ST} {ws : List (Tm × Int32)} {dir reg : Nat → Tm} {seen : List Tm} {G : Tm → Prop} {ls : List RL} {lo dt db rt fl ll tl tf tg tm : Nat → Int32} {ck fo du : Int32} {Lc : List LT} {bdc llc tcc tlc tfc tgc : Nat → Int32} {cfc cgc : Int32} {ctc : Tm} {coc : Bool} {lic foc dbc : Int32} {Q : Int32 → Int32 → bm_H → Prop} {p g : Nat} (hJ : J N S n B DL dev sto ws dir reg seen G (Lc, bdc, llc, tcc, tlc, tfc, tgc, cfc, cgc, ctc, coc, lic, foc, dbc) ls lo (dt, db, rt, fl, ll, tl, tf, tg, tm, ck, fo, du)) (hn : n < 64) (hdl : DL.length ≤ 2900) (hws : ws.length ≤ 692) (hdn : (sto p).2.2.2.2 = true) (hp : p < 6) (hg : g < 4) (kk : ∀ B2, J N S (n + 1) B2 DL dev sto ws dir reg seen G (Lc, bdc, llc, tcc, tlc, tfc, tgc, cfc, cgc, ctc, coc, lic, foc, dbc) ls lo (dt, db, rt, fl, ll, tl, tf, tg, tm, ck + 1, fo, du) → Q (-3) (-3) B2) : PR sc (d + 12) 97 228 [.int (nI p), .int (nI g)] B Q := by
  obtain ⟨f, A, T, T0, K, Kw, ca, rm, kc, kl, rk, M, ln, wt, π, w, dv, idc, ⟨hC, hH0, hdv, hid⟩, ⟨hMo, hs0, hM, hS⟩, ⟨hKG, hKs, h16, hlk⟩, hTl, hPh, hrc⟩ := hJ
  refine td_post (F := mX) hC hH0 (by omega) hws (by omega) hp hg hdn (fun B1 M1 ca1 rm1 hC1 hH1 hf1 => ?_)
  obtain ⟨A1, hMo1, hs1, hM1, hS1, hr1, -⟩ := J_cls hf1 hMo hs0 hM hS
  have hq0 := hS1.1.2.2 p hp
  obtain ⟨p0, P, O, c, dn, hst⟩ : ∃ a1 a2 a3 a4 a5, sto p = (a1, a2, a3, a4, a5) := ⟨_, _, _, _, _, rfl⟩
  rw [hst] at hq0 hdn
  have hdn : dn = true := hdn
  subst hdn
  refine m_run hMo1 hs1 (mo_postD (n := DL.length) (m := ws.length) hS1.2.2.2.1.1 (by omega) hS1.2.1.1.1.1 hws hp hq0.1.2.2.1 hg ?_)
  intro B2 hF2 hs2
  exact kk B2 (J_mk hF2 hs2 hC1 hH1 hdv hid (by exact MT_i hM1 rfl rfl rfl rfl rfl rfl rfl rfl rfl rfl) (RS_ck hS1) hKG hKs h16 hlk (by omega) (by omega) (show rc (A1 1) _ ≤ _ by omega))
set_option maxRecDepth 100000 in
theorem P_deliverD {sc : tm_X} {d N S n : Nat} {B : bm_H} {DL : List (Int32 × Int32)} {dev : Nat → DV} {sto : Nat → ST} {ws : List (Tm × Int32)} {dir reg : Nat → Tm} {seen : List Tm} {G : Tm → Prop} {ls : List RL} {lo dt db rt fl ll tl tf tg tm : Nat → Int32} {ck fo du : Int32} {Lc : List LT} {bdc llc tcc tlc tfc tgc : Nat → Int32} {cfc cgc : Int32} {ctc : Tm} {coc : Bool} {lic foc dbc : Int32} {Q : Int32 → Int32 → bm_H → Prop} {p i : Nat} (hJ : J N S n B DL dev sto ws dir reg seen G (Lc, bdc, llc, tcc, tlc, tfc, tgc, cfc, cgc, ctc, coc, lic, foc, dbc) ls lo (dt, db, rt, fl, ll, tl, tf, tg, tm, ck, fo, du)) (hn : n < 64) (hdl : DL.length ≤ 2900) (hws : ws.length ≤ 692) (hdn : (sto p).2.2.2.2 = true) (hp : p < 6) (hi : i < ws.length) (kk : ∀ B2, J N S (n + 1) B2 DL dev sto ws dir reg seen G (Lc, bdc, llc, tcc, tlc, tfc, tgc, cfc, cgc, ctc, coc, lic, foc, dbc) ls lo (dt, db, rt, fl, ll, tl, tf, tg, tm, ck + 1, fo, du) → Q (-3) (-3) B2) : PR sc (d + 12) 103 229 [.int (nI p), .int (nI i)] B Q := by
  obtain ⟨f, A, T, T0, K, Kw, ca, rm, kc, kl, rk, M, ln, wt, π, w, dv, idc, ⟨hC, hH0, hdv, hid⟩, ⟨hMo, hs0, hM, hS⟩, ⟨hKG, hKs, h16, hlk⟩, hTl, hPh, hrc⟩ := hJ
  refine td_deliver (F := mX) hC hH0 hp hi hdn ?_
  obtain ⟨A1, hMo1, hs1, hM1, hS1, hr1, -⟩ := J_cls (fr_rfl _ B) hMo hs0 hM hS
  have hq0 := hS1.1.2.2 p hp
  obtain ⟨p0, P, O, c, dn, hst⟩ : ∃ a1 a2 a3 a4 a5, sto p = (a1, a2, a3, a4, a5) := ⟨_, _, _, _, _, rfl⟩
  rw [hst] at hq0 hdn
  have hdn : dn = true := hdn
  subst hdn
  refine m_run hMo1 hs1 (mo_deliverD (n := DL.length) (m := ws.length) hS1.2.2.2.1.1 (by omega) hS1.2.1.1.1.1 hws hp hq0.1.2.2.1 hi ?_)
  intro B2 hF2 hs2
  exact kk B2 (J_mk hF2 hs2 hC hH0 hdv hid (by exact MT_i hM1 rfl rfl rfl rfl rfl rfl rfl rfl rfl rfl) (RS_ck hS1) hKG hKs h16 hlk (by omega) (by omega) (show rc (A1 1) _ ≤ _ by omega))
set_option maxRecDepth 100000 in
theorem P_injectD {sc : tm_X} {d N S n : Nat} {B : bm_H} {DL : List (Int32 × Int32)} {dev : Nat → DV} {sto : Nat → ST} {ws : List (Tm × Int32)} {dir reg : Nat → Tm} {seen : List Tm} {G : Tm → Prop} {ls : List RL} {lo dt db rt fl ll tl tf tg tm : Nat → Int32} {ck fo du : Int32} {Lc : List LT} {bdc llc tcc tlc tfc tgc : Nat → Int32} {cfc cgc : Int32} {ctc : Tm} {coc : Bool} {lic foc dbc : Int32} {Q : Int32 → Int32 → bm_H → Prop} {p : Nat} {r : Int32} (hJ : J N S n B DL dev sto ws dir reg seen G (Lc, bdc, llc, tcc, tlc, tfc, tgc, cfc, cgc, ctc, coc, lic, foc, dbc) ls lo (dt, db, rt, fl, ll, tl, tf, tg, tm, ck, fo, du)) (hn : n < 64) (hdl : DL.length ≤ 2900) (hws : ws.length ≤ 692) (hdn : (sto p).2.2.2.2 = true) (hp : p < 6) (hA : hl reg r ≠ tz) (kk : ∀ B2, J N S (n + 1) B2 DL dev sto ws dir reg seen G (Lc, bdc, llc, tcc, tlc, tfc, tgc, cfc, cgc, ctc, coc, lic, foc, dbc) ls lo (dt, db, rt, fl, ll, tl, tf, tg, tm, ck + 1, fo, du) → Q (-3) (-3) B2) : PR sc (d + 12) 130 248 [.int (nI p), .int r] B Q := by
  obtain ⟨f, A, T, T0, K, Kw, ca, rm, kc, kl, rk, M, ln, wt, π, w, dv, idc, ⟨hC, hH0, hdv, hid⟩, ⟨hMo, hs0, hM, hS⟩, ⟨hKG, hKs, h16, hlk⟩, hTl, hPh, hrc⟩ := hJ
  refine td_inject (F := mX) hC hH0 hp hA hdn ?_
  obtain ⟨A1, hMo1, hs1, hM1, hS1, hr1, -⟩ := J_cls (fr_rfl _ B) hMo hs0 hM hS
  have hq0 := hS1.1.2.2 p hp
  obtain ⟨p0, P, O, c, dn, hst⟩ : ∃ a1 a2 a3 a4 a5, sto p = (a1, a2, a3, a4, a5) := ⟨_, _, _, _, _, rfl⟩
  rw [hst] at hq0 hdn
  have hdn : dn = true := hdn
  subst hdn
  refine m_run hMo1 hs1 (mo_injectD (n := DL.length) (m := ws.length) hS1.2.2.2.1.1 (by omega) hS1.2.1.1.1.1 hws hp hq0.1.2.2.1 hM1 hS1.2.1.2.2.1 hA ?_)
  intro B2 hF2 hs2
  exact kk B2 (J_mk hF2 hs2 hC hH0 hdv hid (by exact MT_i hM1 rfl rfl rfl rfl rfl rfl rfl rfl rfl rfl) (RS_ck hS1) hKG hKs h16 hlk (by omega) (by omega) (show rc (A1 1) _ ≤ _ by omega))
set_option maxRecDepth 100000 in
theorem P_crashD {sc : tm_X} {d N S n : Nat} {B : bm_H} {DL : List (Int32 × Int32)} {dev : Nat → DV} {sto : Nat → ST} {ws : List (Tm × Int32)} {dir reg : Nat → Tm} {seen : List Tm} {G : Tm → Prop} {ls : List RL} {lo dt db rt fl ll tl tf tg tm : Nat → Int32} {ck fo du : Int32} {Lc : List LT} {bdc llc tcc tlc tfc tgc : Nat → Int32} {cfc cgc : Int32} {ctc : Tm} {coc : Bool} {lic foc dbc : Int32} {Q : Int32 → Int32 → bm_H → Prop} {p j : Nat} (hJ : J N S n B DL dev sto ws dir reg seen G (Lc, bdc, llc, tcc, tlc, tfc, tgc, cfc, cgc, ctc, coc, lic, foc, dbc) ls lo (dt, db, rt, fl, ll, tl, tf, tg, tm, ck, fo, du)) (hn : n < 64) (hdl : DL.length ≤ 2900) (hws : ws.length ≤ 692) (hdn : (sto p).2.2.2.2 = true) (hp : p < 6) (hj : j ≤ 200) (kk : ∀ B2, J N S (n + 1) B2 DL dev sto ws dir reg seen G (Lc, bdc, llc, tcc, tlc, tfc, tgc, cfc, cgc, ctc, coc, lic, foc, dbc) ls lo (dt, db, rt, fl, ll, tl, tf, tg, tm, ck + 1, fo, du) → Q (-3) (-3) B2) : PR sc (d + 12) 133 251 [.int (nI p), .int (nI j)] B Q := by
  obtain ⟨f, A, T, T0, K, Kw, ca, rm, kc, kl, rk, M, ln, wt, π, w, dv, idc, ⟨hC, hH0, hdv, hid⟩, ⟨hMo, hs0, hM, hS⟩, ⟨hKG, hKs, h16, hlk⟩, hTl, hPh, hrc⟩ := hJ
  refine t_crash (p0 := (sto p).1) (P := (sto p).2.1) (O := (sto p).2.2.1) (c := (sto p).2.2.2.1) (dn := (sto p).2.2.2.2) (F := mX) hC hH0 hp hj rfl (fun _ => ?_) (fun _ h => absurd (hdn.symm.trans h) (by decide))
  obtain ⟨A1, hMo1, hs1, hM1, hS1, hr1, -⟩ := J_cls (fr_rfl _ B) hMo hs0 hM hS
  have hq0 := hS1.1.2.2 p hp
  obtain ⟨p0, P, O, c, dn, hst⟩ : ∃ a1 a2 a3 a4 a5, sto p = (a1, a2, a3, a4, a5) := ⟨_, _, _, _, _, rfl⟩
  rw [hst] at hq0 hdn
  have hdn : dn = true := hdn
  subst hdn
  refine m_run hMo1 hs1 (mo_crashD (n := DL.length) (m := ws.length) hS1.2.2.2.1.1 (by omega) hS1.2.1.1.1.1 hws hp hq0.1.2.2.1 hj ?_)
  intro B2 hF2 hs2
  exact kk B2 (J_mk hF2 hs2 hC hH0 hdv hid (by exact MT_i hM1 rfl rfl rfl rfl rfl rfl rfl rfl rfl rfl) (RS_ck hS1) hKG hKs h16 hlk (by omega) (by omega) (show rc (A1 1) _ ≤ _ by omega))
set_option maxRecDepth 100000 in
theorem P_same {sc : tm_X} {d N S n : Nat} {B : bm_H} {DL : List (Int32 × Int32)} {dev : Nat → DV} {sto : Nat → ST} {ws : List (Tm × Int32)} {dir reg : Nat → Tm} {seen : List Tm} {G : Tm → Prop} {ls : List RL} {lo dt db rt fl ll tl tf tg tm : Nat → Int32} {ck fo du : Int32} {Lc : List LT} {bdc llc tcc tlc tfc tgc : Nat → Int32} {cfc cgc : Int32} {ctc : Tm} {coc : Bool} {lic foc dbc : Int32} {Q : Int32 → Int32 → bm_H → Prop} {x y : Int32} (hJ : J N S n B DL dev sto ws dir reg seen G (Lc, bdc, llc, tcc, tlc, tfc, tgc, cfc, cgc, ctc, coc, lic, foc, dbc) ls lo (dt, db, rt, fl, ll, tl, tf, tg, tm, ck, fo, du)) (hn : n < 64)  (kk : ∀ B2, J N S (n + 1) B2 DL dev sto ws dir reg seen G (Lc, bdc, llc, tcc, tlc, tfc, tgc, cfc, cgc, ctc, coc, lic, foc, dbc) ls lo (dt, db, rt, fl, ll, tl, tf, tg, tm, ck, fo, du) → Q (sm_spec reg x y) (sm_spec reg x y) B2) : PR sc (d + 12) 155 267 [.int x, .int y] B Q := by
  obtain ⟨f, A, T, T0, K, Kw, ca, rm, kc, kl, rk, M, ln, wt, π, w, dv, idc, ⟨hC, hH0, hdv, hid⟩, ⟨hMo, hs0, hM, hS⟩, ⟨hKG, hKs, h16, hlk⟩, hTl, hPh, hrc⟩ := hJ
  refine t_same (F := mX) hC hH0 ?_
  refine m_run hMo hs0 (mo_same hM hS.2.1.2.2.1 ?_)
  intro B2 hF2 hs2
  exact kk B2 (J_mk hF2 hs2 hC hH0 hdv hid hM hS hKG hKs h16 hlk (by omega) (by omega) (by omega))
set_option maxRecDepth 100000 in
theorem P_about {sc : tm_X} {d N S n : Nat} {B : bm_H} {DL : List (Int32 × Int32)} {dev : Nat → DV} {sto : Nat → ST} {ws : List (Tm × Int32)} {dir reg : Nat → Tm} {seen : List Tm} {G : Tm → Prop} {ls : List RL} {lo dt db rt fl ll tl tf tg tm : Nat → Int32} {ck fo du : Int32} {Lc : List LT} {bdc llc tcc tlc tfc tgc : Nat → Int32} {cfc cgc : Int32} {ctc : Tm} {coc : Bool} {lic foc dbc : Int32} {Q : Int32 → Int32 → bm_H → Prop} {x y : Int32} (hJ : J N S n B DL dev sto ws dir reg seen G (Lc, bdc, llc, tcc, tlc, tfc, tgc, cfc, cgc, ctc, coc, lic, foc, dbc) ls lo (dt, db, rt, fl, ll, tl, tf, tg, tm, ck, fo, du)) (hn : n < 64)  (kk : ∀ B2, J N S (n + 1) B2 DL dev sto ws dir reg seen G (Lc, bdc, llc, tcc, tlc, tfc, tgc, cfc, cgc, ctc, coc, lic, foc, dbc) ls lo (dt, db, rt, fl, ll, tl, tf, tg, tm, ck, fo, du) → Q (ab_spec reg x y) (ab_spec reg x y) B2) : PR sc (d + 12) 156 268 [.int x, .int y] B Q := by
  obtain ⟨f, A, T, T0, K, Kw, ca, rm, kc, kl, rk, M, ln, wt, π, w, dv, idc, ⟨hC, hH0, hdv, hid⟩, ⟨hMo, hs0, hM, hS⟩, ⟨hKG, hKs, h16, hlk⟩, hTl, hPh, hrc⟩ := hJ
  refine t_about (F := mX) hC hH0 ?_
  refine m_run hMo hs0 (mo_about hM hS.2.1.2.2.1 ?_)
  intro B2 hF2 hs2
  exact kk B2 (J_mk hF2 hs2 hC hH0 hdv hid hM hS hKG hKs h16 hlk (by omega) (by omega) (by omega))
set_option maxRecDepth 100000 in
theorem P_letter {sc : tm_X} {d N S n : Nat} {B : bm_H} {DL : List (Int32 × Int32)} {dev : Nat → DV} {sto : Nat → ST} {ws : List (Tm × Int32)} {dir reg : Nat → Tm} {seen : List Tm} {G : Tm → Prop} {ls : List RL} {lo dt db rt fl ll tl tf tg tm : Nat → Int32} {ck fo du : Int32} {Lc : List LT} {bdc llc tcc tlc tfc tgc : Nat → Int32} {cfc cgc : Int32} {ctc : Tm} {coc : Bool} {lic foc dbc : Int32} {Q : Int32 → Int32 → bm_H → Prop} {x : Int32} (hJ : J N S n B DL dev sto ws dir reg seen G (Lc, bdc, llc, tcc, tlc, tfc, tgc, cfc, cgc, ctc, coc, lic, foc, dbc) ls lo (dt, db, rt, fl, ll, tl, tf, tg, tm, ck, fo, du)) (hn : n < 64)  (kk : ∀ B2, J N S (n + 1) B2 DL dev sto ws dir reg seen G (Lc, bdc, llc, tcc, tlc, tfc, tgc, cfc, cgc, ctc, coc, lic, foc, dbc) ls lo (dt, db, rt, fl, ll, tl, tf, tg, tm, ck, fo, du) → Q (lt_spec ws x) (lt_spec ws x) B2) : PR sc (d + 12) 159 277 [.int x] B Q := by
  obtain ⟨f, A, T, T0, K, Kw, ca, rm, kc, kl, rk, M, ln, wt, π, w, dv, idc, ⟨hC, hH0, hdv, hid⟩, ⟨hMo, hs0, hM, hS⟩, ⟨hKG, hKs, h16, hlk⟩, hTl, hPh, hrc⟩ := hJ
  refine t_letter (F := mX) hC hH0 ?_
  refine m_run hMo hs0 (mo_letter hS.2.1.1 ?_)
  intro B2 hF2 hs2
  exact kk B2 (J_mk hF2 hs2 hC hH0 hdv hid hM hS hKG hKs h16 hlk (by omega) (by omega) (by omega))
set_option maxRecDepth 100000 in
theorem P_taken {sc : tm_X} {d N S n : Nat} {B : bm_H} {DL : List (Int32 × Int32)} {dev : Nat → DV} {sto : Nat → ST} {ws : List (Tm × Int32)} {dir reg : Nat → Tm} {seen : List Tm} {G : Tm → Prop} {ls : List RL} {lo dt db rt fl ll tl tf tg tm : Nat → Int32} {ck fo du : Int32} {Lc : List LT} {bdc llc tcc tlc tfc tgc : Nat → Int32} {cfc cgc : Int32} {ctc : Tm} {coc : Bool} {lic foc dbc : Int32} {Q : Int32 → Int32 → bm_H → Prop} {p : Nat} {x : Int32} (hJ : J N S n B DL dev sto ws dir reg seen G (Lc, bdc, llc, tcc, tlc, tfc, tgc, cfc, cgc, ctc, coc, lic, foc, dbc) ls lo (dt, db, rt, fl, ll, tl, tf, tg, tm, ck, fo, du)) (hn : n < 64) (hp : p < 6) (kk : ∀ B2, J N S (n + 1) B2 DL dev sto ws dir reg seen G (Lc, bdc, llc, tcc, tlc, tfc, tgc, cfc, cgc, ctc, coc, lic, foc, dbc) ls lo (dt, db, rt, fl, ll, tl, tf, tg, tm, ck, fo, du) → Q (lg_last tcc tlc tfc tgc p x) (if x = 0 then tl p else if x = 1 then tf p else if x = 2 then tg p else if x = 3 then tm p else -1) B2) : PR sc (d + 12) 160 278 [.int (nI p), .int x] B Q := by
  obtain ⟨f, A, T, T0, K, Kw, ca, rm, kc, kl, rk, M, ln, wt, π, w, dv, idc, ⟨hC, hH0, hdv, hid⟩, ⟨hMo, hs0, hM, hS⟩, ⟨hKG, hKs, h16, hlk⟩, hTl, hPh, hrc⟩ := hJ
  refine t_taken (F := mX) hC hH0 hp ?_
  obtain ⟨e1, e2, e3, e4⟩ := hS.2.2.2.2.2.2
  refine m_run hMo hs0 (mo_taken hp ?_)
  rw [e1, e2, e3, e4]
  intro B2 hF2 hs2
  exact kk B2 (J_mk hF2 hs2 hC hH0 hdv hid hM hS hKG hKs h16 hlk (by omega) (by omega) (by omega))
set_option maxRecDepth 100000 in
theorem P_device {sc : tm_X} {d N S n : Nat} {B : bm_H} {DL : List (Int32 × Int32)} {dev : Nat → DV} {sto : Nat → ST} {ws : List (Tm × Int32)} {dir reg : Nat → Tm} {seen : List Tm} {G : Tm → Prop} {ls : List RL} {lo dt db rt fl ll tl tf tg tm : Nat → Int32} {ck fo du : Int32} {Lc : List LT} {bdc llc tcc tlc tfc tgc : Nat → Int32} {cfc cgc : Int32} {ctc : Tm} {coc : Bool} {lic foc dbc : Int32} {Q : Int32 → Int32 → bm_H → Prop} {id : Tm} {K0 K1 : PK} {on : List (Tm × Int32)} {lnu : Int32} {se : Nat → List SS} {me : Nat → MM} {p : Nat} {x : Int32} {p0 dn : Bool} {P O : EN2} {c : Option Nat} (hJ : J N S n B DL dev sto ws dir reg seen G (Lc, bdc, llc, tcc, tlc, tfc, tgc, cfc, cgc, ctc, coc, lic, foc, dbc) ls lo (dt, db, rt, fl, ll, tl, tf, tg, tm, ck, fo, du)) (hn : n < 64) (hp : p < 6) (eD : dev p = (id, K0, K1, on, lnu, se, me)) (hst : sto p = (p0, P, O, c, dn)) (hz0 : K0.1 = tz ↔ K0.2.1 = 0) (hz1 : K1.1 = tz ↔ K1.2.1 = 0) (hP : P.length = (dv_en (id, K0, K1, on, lnu, se, me)).length) (kk : ∀ B2, J N S (n + 1) B2 DL dev sto ws dir reg seen G (Lc, bdc, llc, tcc, tlc, tfc, tgc, cfc, cgc, ctc, coc, lic, foc, dbc) ls lo (dt, db, rt, fl, ll, tl, tf, tg, tm, ck, fo, du) → Q (dv_spec (dev p) (sto p) x) (dv_spec (dev p) (sto p) x) B2) : PR sc (d + 12) 162 279 [.int (nI p), .int x] B Q := by
  obtain ⟨f, A, T, T0, K, Kw, ca, rm, kc, kl, rk, M, ln, wt, π, w, dv, idc, ⟨hC, hH0, hdv, hid⟩, ⟨hMo, hs0, hM, hS⟩, ⟨hKG, hKs, h16, hlk⟩, hTl, hPh, hrc⟩ := hJ
  refine t_device (F := mX) hC hH0 hp ?_
  rw [hdv p hp]
  refine m_run hMo hs0 (mo_device hM hS hp eD hst hz0 hz1 hP (fun f1 A1 hM1 he1 hS1 => ?_))
  intro B2 hF2 hs2
  have hr1 := rc_MT hM hM1
  exact kk B2 (J_mk hF2 hs2 hC hH0 hdv hid hM1 hS1 hKG hKs (st_keep (f1 := f1) h16 (Or.inr he1)) hlk (by omega) (by omega) (by omega))
set_option maxRecDepth 100000 in
theorem P_session {sc : tm_X} {d N S n : Nat} {B : bm_H} {DL : List (Int32 × Int32)} {dev : Nat → DV} {sto : Nat → ST} {ws : List (Tm × Int32)} {dir reg : Nat → Tm} {seen : List Tm} {G : Tm → Prop} {ls : List RL} {lo dt db rt fl ll tl tf tg tm : Nat → Int32} {ck fo du : Int32} {Lc : List LT} {bdc llc tcc tlc tfc tgc : Nat → Int32} {cfc cgc : Int32} {ctc : Tm} {coc : Bool} {lic foc dbc : Int32} {Q : Int32 → Int32 → bm_H → Prop} {id : Tm} {K0 K1 : PK} {on : List (Tm × Int32)} {lnu : Int32} {se : Nat → List SS} {me : Nat → MM} {p q : Nat} {k x : Int32} (hJ : J N S n B DL dev sto ws dir reg seen G (Lc, bdc, llc, tcc, tlc, tfc, tgc, cfc, cgc, ctc, coc, lic, foc, dbc) ls lo (dt, db, rt, fl, ll, tl, tf, tg, tm, ck, fo, du)) (hn : n < 64) (hp : p < 6) (hq : q < 6) (hpq : p ≠ q) (eD : dev p = (id, K0, K1, on, lnu, se, me)) (kk : ∀ B2, J N S (n + 1) B2 DL dev sto ws dir reg seen G (Lc, bdc, llc, tcc, tlc, tfc, tgc, cfc, cgc, ctc, coc, lic, foc, dbc) ls lo (dt, db, rt, fl, ll, tl, tf, tg, tm, ck, fo, du) → Q (se_spec (se q) k x) (se_spec (se q) k x) B2) : PR sc (d + 12) 165 280 [.int (nI p), .int (nI q), .int k, .int x] B Q := by
  obtain ⟨f, A, T, T0, K, Kw, ca, rm, kc, kl, rk, M, ln, wt, π, w, dv, idc, ⟨hC, hH0, hdv, hid⟩, ⟨hMo, hs0, hM, hS⟩, ⟨hKG, hKs, h16, hlk⟩, hTl, hPh, hrc⟩ := hJ
  refine t_session (F := mX) hC hH0 hp hq hpq ?_
  rw [hdv p hp, eD]
  refine m_run hMo hs0 (mo_session hM hS hp hq eD (fun f1 A1 hM1 he1 hS1 => ?_))
  intro B2 hF2 hs2
  have hr1 := rc_MT hM hM1
  exact kk B2 (J_mk hF2 hs2 hC hH0 hdv hid hM1 hS1 hKG hKs (st_keep (f1 := f1) h16 (Or.inr he1)) hlk (by omega) (by omega) (by omega))
set_option maxRecDepth 100000 in
theorem P_session1 {sc : tm_X} {d N S n : Nat} {B : bm_H} {DL : List (Int32 × Int32)} {dev : Nat → DV} {sto : Nat → ST} {ws : List (Tm × Int32)} {dir reg : Nat → Tm} {seen : List Tm} {G : Tm → Prop} {ls : List RL} {lo dt db rt fl ll tl tf tg tm : Nat → Int32} {ck fo du : Int32} {Lc : List LT} {bdc llc tcc tlc tfc tgc : Nat → Int32} {cfc cgc : Int32} {ctc : Tm} {coc : Bool} {lic foc dbc : Int32} {Q : Int32 → Int32 → bm_H → Prop} {id : Tm} {K0 K1 : PK} {on : List (Tm × Int32)} {lnu : Int32} {se : Nat → List SS} {me : Nat → MM} {p : Nat} {k x : Int32} (hJ : J N S n B DL dev sto ws dir reg seen G (Lc, bdc, llc, tcc, tlc, tfc, tgc, cfc, cgc, ctc, coc, lic, foc, dbc) ls lo (dt, db, rt, fl, ll, tl, tf, tg, tm, ck, fo, du)) (hn : n < 64) (hp : p < 6) (eD : dev p = (id, K0, K1, on, lnu, se, me)) (hse : se p = []) (kk : ∀ B2, J N S (n + 1) B2 DL dev sto ws dir reg seen G (Lc, bdc, llc, tcc, tlc, tfc, tgc, cfc, cgc, ctc, coc, lic, foc, dbc) ls lo (dt, db, rt, fl, ll, tl, tf, tg, tm, ck, fo, du) → Q (-1) (-1) B2) : PR sc (d + 12) 165 280 [.int (nI p), .int (nI p), .int k, .int x] B Q := by
  obtain ⟨f, A, T, T0, K, Kw, ca, rm, kc, kl, rk, M, ln, wt, π, w, dv, idc, ⟨hC, hH0, hdv, hid⟩, ⟨hMo, hs0, hM, hS⟩, ⟨hKG, hKs, h16, hlk⟩, hTl, hPh, hrc⟩ := hJ
  refine t_session0 (F := mX) hC hH0 (Or.inr (Or.inr rfl)) ?_
  refine m_run hMo hs0 (mo_session hM hS hp hp eD (fun f1 A1 hM1 he1 hS1 => ?_))
  intro B2 hF2 hs2
  have hr1 := rc_MT hM hM1
  have ea : se_spec (se p) k x = -1 := by rw [hse]; exact se_nil k x
  rw [ea]
  exact kk B2 (J_mk hF2 hs2 hC hH0 hdv hid hM1 hS1 hKG hKs (st_keep (f1 := f1) h16 (Or.inr he1)) hlk (by omega) (by omega) (by omega))
set_option maxRecDepth 100000 in
theorem P_group {sc : tm_X} {d N S n : Nat} {B : bm_H} {DL : List (Int32 × Int32)} {dev : Nat → DV} {sto : Nat → ST} {ws : List (Tm × Int32)} {dir reg : Nat → Tm} {seen : List Tm} {G : Tm → Prop} {ls : List RL} {lo dt db rt fl ll tl tf tg tm : Nat → Int32} {ck fo du : Int32} {Lc : List LT} {bdc llc tcc tlc tfc tgc : Nat → Int32} {cfc cgc : Int32} {ctc : Tm} {coc : Bool} {lic foc dbc : Int32} {Q : Int32 → Int32 → bm_H → Prop} {id : Tm} {K0 K1 : PK} {on : List (Tm × Int32)} {lnu : Int32} {se : Nat → List SS} {me : Nat → MM} {p g : Nat} {x : Int32} (hJ : J N S n B DL dev sto ws dir reg seen G (Lc, bdc, llc, tcc, tlc, tfc, tgc, cfc, cgc, ctc, coc, lic, foc, dbc) ls lo (dt, db, rt, fl, ll, tl, tf, tg, tm, ck, fo, du)) (hn : n < 64) (hp : p < 6) (hg : g < 4) (eD : dev p = (id, K0, K1, on, lnu, se, me)) (kk : ∀ B2, J N S (n + 1) B2 DL dev sto ws dir reg seen G (Lc, bdc, llc, tcc, tlc, tfc, tgc, cfc, cgc, ctc, coc, lic, foc, dbc) ls lo (dt, db, rt, fl, ll, tl, tf, tg, tm, ck, fo, du) → Q (mm_tell (me g) x) (mm_tell (me g) x) B2) : PR sc (d + 12) 167 281 [.int (nI p), .int (nI g), .int x] B Q := by
  obtain ⟨f, A, T, T0, K, Kw, ca, rm, kc, kl, rk, M, ln, wt, π, w, dv, idc, ⟨hC, hH0, hdv, hid⟩, ⟨hMo, hs0, hM, hS⟩, ⟨hKG, hKs, h16, hlk⟩, hTl, hPh, hrc⟩ := hJ
  refine t_group (F := mX) hC hH0 hp hg ?_
  rw [hdv p hp, eD]
  refine m_run hMo hs0 (mo_group hM hS hp hg eD (fun f1 A1 hM1 he1 hS1 => ?_))
  intro B2 hF2 hs2
  have hr1 := rc_MT hM hM1
  exact kk B2 (J_mk hF2 hs2 hC hH0 hdv hid hM1 hS1 hKG hKs (st_keep (f1 := f1) h16 (Or.inr he1)) hlk (by omega) (by omega) (by omega))
set_option maxRecDepth 100000 in
theorem P_derived {sc : tm_X} {d N S n : Nat} {B : bm_H} {DL : List (Int32 × Int32)} {dev : Nat → DV} {sto : Nat → ST} {ws : List (Tm × Int32)} {dir reg : Nat → Tm} {seen : List Tm} {G : Tm → Prop} {ls : List RL} {lo dt db rt fl ll tl tf tg tm : Nat → Int32} {ck fo du : Int32} {Lc : List LT} {bdc llc tcc tlc tfc tgc : Nat → Int32} {cfc cgc : Int32} {ctc : Tm} {coc : Bool} {lic foc dbc : Int32} {Q : Int32 → Int32 → bm_H → Prop} {i : Nat} {ec : LT} {e : RL} (hJ : J N S n B DL dev sto ws dir reg seen G (Lc, bdc, llc, tcc, tlc, tfc, tgc, cfc, cgc, ctc, coc, lic, foc, dbc) ls lo (dt, db, rt, fl, ll, tl, tf, tg, tm, ck, fo, du)) (hn : n < 64) (hll : Lc.length = ls.length) (hl7 : ls.length ≤ 700) (kall : ∀ e, e ∈ ls → kd e.1 = 1) (hec : Lc[i]? = some ec) (he : ls[i]? = some e) (hee : ec.1 = e.1) (kk : ∀ B2, J N S (n + 1) B2 DL dev sto ws dir reg seen G (Lc, bdc, llc, tcc, tlc, tfc, tgc, cfc, cgc, ctc, coc, lic, foc, dbc) ls lo (dt, db, rt, fl, ll, tl, tf, tg, tm, ck, fo, du) → Q (cif (Kn G e.1) 1 0) (cif (Kn G e.1) 1 0) B2) : PR sc (d + 12) 157 269 [.int (nI i)] B Q := by
  obtain ⟨f, A, T, T0, K, Kw, ca, rm, kc, kl, rk, M, ln, wt, π, w, dv, idc, ⟨hC, hH0, hdv, hid⟩, ⟨hMo, hs0, hM, hS⟩, ⟨hKG, hKs, h16, hlk⟩, hTl, hPh, hrc⟩ := hJ
  refine t_derived (F := mX) hC hH0 hec (by omega) hlk ?_
  rw [hee, cif_iff (hKG e.1)]
  refine m_run hMo hs0 (mo_derived hM hS hKs h16 kall he (fun f1 A1 W1 hM1 hK1 hn1 he1 hS1 => ?_))
  intro B2 hF2 hs2
  have hr1 := rc_MT hM hM1
  exact kk B2 (J_mk hF2 hs2 hC hH0 hdv hid hM1 hS1 hKG hK1 (fun _ => hn1) hlk (by omega) (by omega) (by omega))
set_option maxRecDepth 100000 in
theorem P_leaked {sc : tm_X} {d N S n : Nat} {B : bm_H} {DL : List (Int32 × Int32)} {dev : Nat → DV} {sto : Nat → ST} {ws : List (Tm × Int32)} {dir reg : Nat → Tm} {seen : List Tm} {G : Tm → Prop} {ls : List RL} {lo dt db rt fl ll tl tf tg tm : Nat → Int32} {ck fo du : Int32} {Lc : List LT} {bdc llc tcc tlc tfc tgc : Nat → Int32} {cfc cgc : Int32} {ctc : Tm} {coc : Bool} {lic foc dbc : Int32} {Q : Int32 → Int32 → bm_H → Prop}  (hJ : J N S n B DL dev sto ws dir reg seen G (Lc, bdc, llc, tcc, tlc, tfc, tgc, cfc, cgc, ctc, coc, lic, foc, dbc) ls lo (dt, db, rt, fl, ll, tl, tf, tg, tm, ck, fo, du)) (hn : n < 64) (hll : Lc.length = ls.length) (hl7 : ls.length ≤ 700) (htc : ∀ (i : Nat) (e : LT), Lc[i]? = some e → (e.2.2.2.1 = -1 → ∃ q, q < 6 ∧ e.2.2.1 = nI q) ∧ ∃ r, r < 6 ∧ e.2.1 = nI r) (hto : ∀ (i : Nat) (e : RL), ls[i]? = some e → (∃ s, s < 6 ∧ e.2.1 = nI s) ∧ (e.2.2.1 < 16 → (∃ q, q < 6 ∧ e.2.2.1 = nI q) ∧ kd e.2.2.2.2.1 = 1 ∧ kd e.2.2.2.2.2.1 = 1) ∧ kd e.1 = 1) (kk : ∀ B2, J N S (n + 1) B2 DL dev sto ws dir reg seen G (Lc, bdc, llc, tcc, tlc, tfc, tgc, cfc, cgc, ctc, coc, lic, foc, dbc) ls lo (dt, db, rt, fl, ll, tl, tf, tg, tm, ck, fo, du) → Q (nI (lk_count G llc lic Lc)) (nI (rl_count G dt db rt fl ll ls)) B2) : PR sc (d + 12) 173 285 [] B Q := by
  obtain ⟨f, A, T, T0, K, Kw, ca, rm, kc, kl, rk, M, ln, wt, π, w, dv, idc, ⟨hC, hH0, hdv, hid⟩, ⟨hMo, hs0, hM, hS⟩, ⟨hKG, hKs, h16, hlk⟩, hTl, hPh, hrc⟩ := hJ
  refine t_leaked (F := mX) hC hH0 (by omega) hlk htc ?_
  rw [lk_iff hKG]
  refine m_run hMo hs0 (mo_leaked hM hS hKs h16 hto (fun f1 A1 W1 hM1 hK1 hn1 he1 hS1 => ?_))
  intro B2 hF2 hs2
  have hr1 := rc_MT hM hM1
  exact kk B2 (J_mk hF2 hs2 hC hH0 hdv hid hM1 hS1 hKG hK1 (fun _ => hn1) hlk (by omega) (by omega) (by omega))
set_option maxRecDepth 100000 in
theorem P_count {sc : tm_X} {d N S n : Nat} {B : bm_H} {DL : List (Int32 × Int32)} {dev : Nat → DV} {sto : Nat → ST} {ws : List (Tm × Int32)} {dir reg : Nat → Tm} {seen : List Tm} {G : Tm → Prop} {ls : List RL} {lo dt db rt fl ll tl tf tg tm : Nat → Int32} {ck fo du : Int32} {Lc : List LT} {bdc llc tcc tlc tfc tgc : Nat → Int32} {cfc cgc : Int32} {ctc : Tm} {coc : Bool} {lic foc dbc : Int32} {Q : Int32 → Int32 → bm_H → Prop} {x : Int32} (hJ : J N S n B DL dev sto ws dir reg seen G (Lc, bdc, llc, tcc, tlc, tfc, tgc, cfc, cgc, ctc, coc, lic, foc, dbc) ls lo (dt, db, rt, fl, ll, tl, tf, tg, tm, ck, fo, du)) (hn : n < 64) (hll : Lc.length = ls.length) (kk : ∀ B2, J N S (n + 1) B2 DL dev sto ws dir reg seen G (Lc, bdc, llc, tcc, tlc, tfc, tgc, cfc, cgc, ctc, coc, lic, foc, dbc) ls lo (dt, db, rt, fl, ll, tl, tf, tg, tm, ck, fo, du) → Q (ct_spec ws Lc DL.length x) (ct_spec ws Lc DL.length x) B2) : PR sc (d + 12) 170 282 [.int x] B Q := by
  obtain ⟨f, A, T, T0, K, Kw, ca, rm, kc, kl, rk, M, ln, wt, π, w, dv, idc, ⟨hC, hH0, hdv, hid⟩, ⟨hMo, hs0, hM, hS⟩, ⟨hKG, hKs, h16, hlk⟩, hTl, hPh, hrc⟩ := hJ
  refine t_count (F := mX) hC hH0 ?_
  refine m_run hMo hs0 (m_count ?_)
  rw [hS.2.1.1.1.1, hS.2.2.1.1.1.1, hS.2.2.2.1.1, ← hll]
  intro B2 hF2 hs2
  exact kk B2 (J_mk hF2 hs2 hC hH0 hdv hid hM hS hKG hKs h16 hlk (by omega) (by omega) (by omega))
set_option maxRecDepth 100000 in
theorem P_forged {sc : tm_X} {d N S n : Nat} {B : bm_H} {DL : List (Int32 × Int32)} {dev : Nat → DV} {sto : Nat → ST} {ws : List (Tm × Int32)} {dir reg : Nat → Tm} {seen : List Tm} {G : Tm → Prop} {ls : List RL} {lo dt db rt fl ll tl tf tg tm : Nat → Int32} {ck fo du : Int32} {Lc : List LT} {bdc llc tcc tlc tfc tgc : Nat → Int32} {cfc cgc : Int32} {ctc : Tm} {coc : Bool} {lic foc dbc : Int32} {Q : Int32 → Int32 → bm_H → Prop}  (hJ : J N S n B DL dev sto ws dir reg seen G (Lc, bdc, llc, tcc, tlc, tfc, tgc, cfc, cgc, ctc, coc, lic, foc, dbc) ls lo (dt, db, rt, fl, ll, tl, tf, tg, tm, ck, fo, du)) (hn : n < 64)  (kk : ∀ B2, J N S (n + 1) B2 DL dev sto ws dir reg seen G (Lc, bdc, llc, tcc, tlc, tfc, tgc, cfc, cgc, ctc, coc, lic, foc, dbc) ls lo (dt, db, rt, fl, ll, tl, tf, tg, tm, ck, fo, du) → Q foc fo B2) : PR sc (d + 12) 171 283 [] B Q := by
  obtain ⟨f, A, T, T0, K, Kw, ca, rm, kc, kl, rk, M, ln, wt, π, w, dv, idc, ⟨hC, hH0, hdv, hid⟩, ⟨hMo, hs0, hM, hS⟩, ⟨hKG, hKs, h16, hlk⟩, hTl, hPh, hrc⟩ := hJ
  refine t_forged (F := mX) hC hH0 ?_
  refine m_run hMo hs0 (m_forged ?_)
  rw [hS.2.2.2.1.2.2.1]
  intro B2 hF2 hs2
  exact kk B2 (J_mk hF2 hs2 hC hH0 hdv hid hM hS hKG hKs h16 hlk (by omega) (by omega) (by omega))
set_option maxRecDepth 100000 in
theorem P_doubled {sc : tm_X} {d N S n : Nat} {B : bm_H} {DL : List (Int32 × Int32)} {dev : Nat → DV} {sto : Nat → ST} {ws : List (Tm × Int32)} {dir reg : Nat → Tm} {seen : List Tm} {G : Tm → Prop} {ls : List RL} {lo dt db rt fl ll tl tf tg tm : Nat → Int32} {ck fo du : Int32} {Lc : List LT} {bdc llc tcc tlc tfc tgc : Nat → Int32} {cfc cgc : Int32} {ctc : Tm} {coc : Bool} {lic foc dbc : Int32} {Q : Int32 → Int32 → bm_H → Prop}  (hJ : J N S n B DL dev sto ws dir reg seen G (Lc, bdc, llc, tcc, tlc, tfc, tgc, cfc, cgc, ctc, coc, lic, foc, dbc) ls lo (dt, db, rt, fl, ll, tl, tf, tg, tm, ck, fo, du)) (hn : n < 64)  (kk : ∀ B2, J N S (n + 1) B2 DL dev sto ws dir reg seen G (Lc, bdc, llc, tcc, tlc, tfc, tgc, cfc, cgc, ctc, coc, lic, foc, dbc) ls lo (dt, db, rt, fl, ll, tl, tf, tg, tm, ck, fo, du) → Q dbc du B2) : PR sc (d + 12) 172 284 [] B Q := by
  obtain ⟨f, A, T, T0, K, Kw, ca, rm, kc, kl, rk, M, ln, wt, π, w, dv, idc, ⟨hC, hH0, hdv, hid⟩, ⟨hMo, hs0, hM, hS⟩, ⟨hKG, hKs, h16, hlk⟩, hTl, hPh, hrc⟩ := hJ
  refine t_doubled (F := mX) hC hH0 ?_
  refine m_run hMo hs0 (m_doubled ?_)
  rw [hS.2.2.2.1.2.2.2]
  intro B2 hF2 hs2
  exact kk B2 (J_mk hF2 hs2 hC hH0 hdv hid hM hS hKG hKs h16 hlk (by omega) (by omega) (by omega))
