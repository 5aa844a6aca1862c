/-! The reference: tells -/
theorem MT_secm {f : Nat → Int32} {A : Nat → Nat → Int32} {T : List Tm} {DL : List (Int32 × Int32)} {G W : Tm → Prop} (hM : MT f A T DL G W) {i : Nat} {X : Tm} (h : T[i]? = some X) (hk : kd X = 1) : ∃ m, mk X = nI m ∧ m < DL.length := by
  obtain ⟨m, d, p, hm, -, rfl⟩ := MT_sec hM (List.mem_of_getElem? h) hk
  exact ⟨m, rfl, hm⟩
def tl_cl (fl : Nat → Int32) (q p : Nat) : Bool := decide (fl q = 2147483647) && decide (fl p = 2147483647)
def tl_did (e : RL) (to p : Int32) : Bool := decide (e.2.1 = p) && decide (e.2.2.1 = to)
def rl_take (e : RL) (q : Nat) (ck : Int32) (gi : Bool) : RL := match e with
  | (S, fr, to, oc, mi, th, ma, gf, tk) => (S, fr, to, oc, mi, th, ma, if gi = true then gf ||| (1 <<< (nI q &&& 31)) else gf, upd tk q ck)
theorem qLs_take {f f' : Nat → Int32} {A A' : Nat → Nat → Int32} {T : List Tm} {ls : List RL} {i q : Nat} {e : RL} {ck : Int32} {gi : Bool} (hq : q < 6) (he : ls[i]? = some e) (h : qLs f A T ls) (e43 : f' 43 = f 43) (eA : ∀ j, 30 ≤ j → j ≤ 36 → A' j = A j) (e37 : A' 37 = upd (A 37) (6 * i + q) ck) (e38 : ∀ k, A' 38 k = if k = i ∧ gi = true then A 38 i ||| (1 <<< (nI q &&& 31)) else A 38 k) : qLs f' A' T (ls.set i (rl_take e q ck gi)) := by
  obtain ⟨⟨h1, h2⟩, h3⟩ := h
  have hi := (List.getElem?_eq_some_iff.mp he).1
  refine ⟨⟨by rw [e43, List.length_set]; exact h1, by rw [List.length_set]; exact h2⟩, fun k x hx => ?_⟩
  rw [List.getElem?_set] at hx
  unfold qL1
  rw [eA 30 (by omega) (by omega), eA 31 (by omega) (by omega), eA 32 (by omega) (by omega), eA 33 (by omega) (by omega), eA 34 (by omega) (by omega), eA 35 (by omega) (by omega), eA 36 (by omega) (by omega), e37, e38]
  by_cases c : i = k
  · rw [if_pos c, if_pos hi] at hx
    cases hx
    subst c
    obtain ⟨S, fr, to, oc, mi, th, ma, gf, tk⟩ := e
    obtain ⟨a1, a2, a3, a4, a5, a6, a7, a8, a9⟩ := h3 i _ he
    refine ⟨a1, a2, a3, a4, a5, a6, a7, ?_, fun p hp => ?_⟩
    · show (if i = i ∧ gi = true then _ else _) = if gi = true then _ else _
      have a8 : A 38 i = gf := a8
      rw [a8]
      by_cases cg : gi = true
      · rw [if_pos ⟨rfl, cg⟩, if_pos cg]
      · rw [if_neg (fun q => cg q.2), if_neg cg]
    · show _ = upd tk q ck p
      by_cases cp : p = q
      · rw [cp, upd_same, upd_same]
      · rw [upd_ne cp, upd_ne (by omega)]
        exact a9 p hp
  · rw [if_neg c] at hx
    rw [if_neg (fun q => c q.1.symm)]
    obtain ⟨a1, a2, a3, a4, a5, a6, a7, a8, a9⟩ := h3 k x hx
    refine ⟨a1, a2, a3, a4, a5, a6, a7, a8, fun p hp => ?_⟩
    rw [upd_ne (by omega)]
    exact a9 p hp
theorem qLs_same {f f' : Nat → Int32} {A A' : Nat → Nat → Int32} {T : List Tm} {ls : List RL} (h : qLs f A T ls) (e43 : f' 43 = f 43) (eA : ∀ j, 30 ≤ j → j ≤ 38 → A' j = A j) : qLs f' A' T ls := qLs_m (List.prefix_refl T) e43 (fun j h1 h2 => eA j h1 h2) h
theorem RS_t {f f' : Nat → Int32} {A A' : Nat → Nat → Int32} {T : List Tm} {DL : List (Int32 × Int32)} {dev : Nat → DV} {sto : Nat → ST} {ws : List (Tm × Int32)} {dir reg : Nat → Tm} {seen : List Tm} {ls ls' : List RL} {lo dt db rt fl ll tl tf tg tm tl' tf' tg' tm' : Nat → Int32} {ck fo du fo' du' : Int32} (hS : RS f A T DL dev sto ws dir reg seen ls lo (dt, db, rt, fl, ll, tl, tf, tg, tm, ck, fo, du)) (ef : f' 11 = f 11 ∧ f' 21 = f 21 ∧ f' 63 = f 63 ∧ f' 40 = f 40) (eA : A' 10 = A 10 ∧ A' 11 = A 11 ∧ A' 12 = A 12 ∧ A' 13 = A 13 ∧ A' 14 = A 14 ∧ A' 16 = A 16 ∧ A' 17 = A 17 ∧ A' 18 = A 18 ∧ A' 19 = A 19 ∧ A' 20 = A 20 ∧ A' 21 = A 21 ∧ A' 22 = A 22 ∧ A' 23 = A 23 ∧ A' 24 = A 24 ∧ A' 25 = A 25 ∧ A' 28 = A 28 ∧ A' 29 = A 29 ∧ A' 45 = A 45 ∧ A' 46 = A 46) (hl : qLs f' A' T ls') (h53 : f' 53 = fo') (h54 : f' 54 = du') (h39 : A' 39 = tl') (h40 : A' 40 = tf') (h41 : A' 41 = tg') (h42 : A' 42 = tm') : RS f' A' T DL dev sto ws dir reg seen ls' lo (dt, db, rt, fl, ll, tl', tf', tg', tm', ck, fo', du') := by
  obtain ⟨⟨q1, q2, q3⟩, ⟨q4, q5, q6, q7, q8, q9⟩, ⟨q10, q12⟩, ⟨q13, q14, q15, q16⟩, ⟨q17, q17b, q17c⟩, ⟨q18, q19⟩, q20, q21, q22, q23⟩ := hS
  obtain ⟨f1, f2, f3, f4⟩ := ef
  obtain ⟨e10, e11, e12, e13, e14, e16, e17, e18, e19, e20, e21, e22, e23, e24, e25, e28, e29, e45, e46⟩ := eA
  exact ⟨⟨fun p hp => by rw [e16]; exact q1 p hp, fun p hp => by rw [e14]; exact q2 p hp, fun p hp => qSt_c (List.prefix_refl T) (by rw [e21]) (by rw [e22]) (by rw [e23]) (fun _ _ => by rw [e20]) (fun _ _ _ _ => by rw [e19]) (fun _ _ _ _ => by rw [e18]) (q3 p hp)⟩, ⟨qWi_m (List.prefix_refl T) f4 e28 e29 q4, fun i hi => by rw [e17]; exact q5 i hi, fun i hi => by rw [e45]; exact q6 i hi, f3.trans q7, q8, fun i X hX => by rw [e46]; exact q9 i X hX⟩, ⟨hl, e13.trans q12⟩, ⟨f1.trans q13, f2.trans q14, h53, h54⟩, ⟨e10.trans q17, e11.trans q17b, e12.trans q17c⟩, ⟨e24.trans q18, e25.trans q19⟩, h39, h40, h41, h42⟩
set_option maxRecDepth 100000 in
theorem l_mtl2DN {sc : tm_X} {d : Nat} {f : Nat → Int32} {A : Nat → Nat → Int32} {T : List Tm} {DL : List (Int32 × Int32)} {G Kw : Tm → Prop} {dev : Nat → DV} {sto : Nat → ST} {ws : List (Tm × Int32)} {dir reg : Nat → Tm} {seen : List Tm} {ls : List RL} {lo dt db rt fl ll tl tf tg tm : Nat → Int32} {ck fo du : Int32} {q p hi : Nat} {cl : Bool} {Q : MS → Prop} (hM : MT f A T DL G Kw) (hS : RS f A T DL dev sto ws dir reg seen ls lo (dt, db, rt, fl, ll, tl, tf, tg, tm, ck, fo, du)) (hq : q < 6) (hp : p < 6) (kk : ∀ f1 A1, MT f1 A1 T DL G Kw → f1 16 = f 16 → RS f1 A1 T DL dev sto ws dir reg seen ls lo (dt, db, rt, fl, ll, (upd tl q (-1)), (upd tf q (nI p)), (upd tg q (-1)), (upd tm q (tm q + 1)), ck, fo, du) → Q (f1, A1)) : ∀ lv : tm_L, lv.lookup 0 = some (.ref 1482) → lv.lookup 1 = some (.int (nI q)) → lv.lookup 3 = some (.int 0) → lv.lookup 4 = some (.int (nI hi)) → lv.lookup 6 = some (.int (nI p)) → lv.lookup 7 = some (.int (-1)) → lv.lookup 8 = some (.int (bz cl)) → mg sc (d + 1) 247 172 lv [] (f, A) (fun r s' => r = none ∧ Q s') := by
  intro lv l0 l1 l3 l4 l6 l7 l8
  have h10 := hS.2.2.1.1
  have h24 := hS.2.2.2.2.2.1.1
  have h21c := hS.2.2.2.1.2.1
  have h53 := hS.2.2.2.1.2.2.1
  have h54 := hS.2.2.2.1.2.2.2
  have h39 := hS.2.2.2.2.2.2.1
  have h40 := hS.2.2.2.2.2.2.2.1
  have h41 := hS.2.2.2.2.2.2.2.2.1
  have h42 := hS.2.2.2.2.2.2.2.2.2
  refine m_ild (pc' := 174) cd_Mo_tells rfl (Or.inl ⟨rfl, rfl⟩) l8 rfl ?_
  refine m_if1 (t := 211) (pc' := 177) cd_Mo_tells rfl rfl rfl (fun c174 => ?_) (fun c174 => ?_)
  · have c174 : cl = false := bz_f c174
    refine m_ild (pc' := 213) cd_Mo_tells rfl (Or.inl ⟨rfl, rfl⟩) l7 rfl ?_
    refine m_k1 (v := (-1)) (pc' := 214) cd_Mo_tells rfl (by decide) rfl ?_
    refine m_if2 (t := 279) (pc' := 217) cd_Mo_tells rfl rfl rfl (fun c214 => ?_) (fun c214 => ?_)
    · have c214 : ((-1) : Int32) = (-1) := c214
      refine m_ald (pc' := 280) cd_Mo_tells rfl (Or.inr ⟨_, rfl, rfl, rfl⟩) l0 rfl rfl ?_
      refine m_fR (r := 38) (a := 39) (ad := 1521) (pc' := 283) rfl rfl cd_Mo_tells rfl rfl rfl rfl rfl ?_
      refine m_ild (pc' := 284) cd_Mo_tells rfl (Or.inr ⟨_, rfl, rfl, rfl⟩) l1 rfl ?_
      refine m_ild (pc' := 286) cd_Mo_tells rfl (Or.inl ⟨rfl, rfl⟩) l7 rfl ?_
      refine m_aS (r := 38) (a := 39) (g := (A 39)) (p := q) (pc' := 287) rfl rfl cd_Mo_tells rfl rfl rfl (vp_in_nI (by omega) (by decide)) (nI_clamp (by omega)) ?_
      refine m_ald (pc' := 288) cd_Mo_tells rfl (Or.inr ⟨_, rfl, rfl, rfl⟩) l0 rfl rfl ?_
      refine m_fR (r := 39) (a := 40) (ad := 1522) (pc' := 291) rfl rfl cd_Mo_tells rfl rfl rfl rfl rfl ?_
      refine m_ild (pc' := 292) cd_Mo_tells rfl (Or.inr ⟨_, rfl, rfl, rfl⟩) l1 rfl ?_
      refine m_ild (pc' := 294) cd_Mo_tells rfl (Or.inl ⟨rfl, rfl⟩) l6 rfl ?_
      refine m_aS (r := 39) (a := 40) (g := (A 40)) (p := q) (pc' := 295) rfl rfl cd_Mo_tells rfl rfl rfl (vp_in_nI (by omega) (by decide)) (nI_clamp (by omega)) ?_
      refine m_ald (pc' := 296) cd_Mo_tells rfl (Or.inr ⟨_, rfl, rfl, rfl⟩) l0 rfl rfl ?_
      refine m_fR (r := 40) (a := 41) (ad := 1523) (pc' := 299) rfl rfl cd_Mo_tells rfl rfl rfl rfl rfl ?_
      refine m_ild (pc' := 300) cd_Mo_tells rfl (Or.inr ⟨_, rfl, rfl, rfl⟩) l1 rfl ?_
      refine m_ild (pc' := 301) cd_Mo_tells rfl (Or.inr ⟨_, rfl, rfl, rfl⟩) l3 rfl ?_
      refine m_if1 (t := 314) (pc' := 304) cd_Mo_tells rfl rfl rfl (fun c301 => ?_) (fun c301 => ?_)
      · have c301 : (0 : Int32) = 0 := c301
        refine m_k1 (v := (-1)) (pc' := 315) cd_Mo_tells rfl (by decide) rfl ?_
        refine m_aS (r := 40) (a := 41) (g := (A 41)) (p := q) (pc' := 316) rfl rfl cd_Mo_tells rfl rfl rfl (vp_in_nI (by omega) (by decide)) (nI_clamp (by omega)) ?_
        refine m_ald (pc' := 317) cd_Mo_tells rfl (Or.inr ⟨_, rfl, rfl, rfl⟩) l0 rfl rfl ?_
        refine m_fR (r := 41) (a := 42) (ad := 1524) (pc' := 320) rfl rfl cd_Mo_tells rfl rfl rfl rfl rfl ?_
        refine m_ild (pc' := 321) cd_Mo_tells rfl (Or.inr ⟨_, rfl, rfl, rfl⟩) l1 rfl ?_
        refine m_pure (pc' := 322) (st' := [.int (nI q), .ref 1524, .int (nI q), .ref 1524]) cd_Mo_tells rfl rfl (fun _ _ => rfl) ?_
        refine m_aI (r := 41) (a := 42) (g := (A 42)) (x := (tm q)) (pc' := 323) rfl rfl cd_Mo_tells rfl rfl rfl (vp_in_nI (by omega) (by decide)) ((congrArg (A 42) (nI_clamp (by omega))).trans (congrFun h42 _)) ?_
        refine m_k1 (v := 1) (pc' := 324) cd_Mo_tells rfl (by decide) rfl ?_
        refine m_pure (pc' := 325) (st' := [.int ((tm q) + 1), .int (nI q), .ref 1524]) cd_Mo_tells rfl rfl (fun _ _ => rfl) ?_
        refine m_aS (r := 41) (a := 42) (g := (A 42)) (p := q) (pc' := 326) rfl rfl cd_Mo_tells rfl rfl rfl (vp_in_nI (by omega) (by decide)) (nI_clamp (by omega)) ?_
        exact m_retv cd_Mo_tells rfl ⟨rfl, (kk _ _ (by exact MT_i hM rfl rfl rfl rfl rfl rfl rfl rfl rfl rfl) rfl (RS_t hS ⟨rfl, rfl, rfl, rfl⟩ ⟨rfl, rfl, rfl, rfl, rfl, rfl, rfl, rfl, rfl, rfl, rfl, rfl, rfl, rfl, rfl, rfl, rfl, rfl, rfl⟩ (qLs_same h10 rfl (fun j j1 j2 => (fset_ne (by omega)).trans ((fset_ne (by omega)).trans ((fset_ne (by omega)).trans (fset_ne (by omega)))))) h53 h54 (congrArg (fun g => upd g q _) h39) (congrArg (fun g => upd g q _) h40) (congrArg (fun g => upd g q _) h41) (congrArg (fun g => upd g q _) h42)))⟩
      · exact absurd (show ¬ (0 : Int32) = 0 from c301) (by decide)
    · exact absurd (show ¬ ((-1) : Int32) = (-1) from c214) (by decide)
  · have c174 : cl = true := bz_t c174
    refine m_ild (pc' := 179) cd_Mo_tells rfl (Or.inl ⟨rfl, rfl⟩) l7 rfl ?_
    refine m_k1 (v := (-1)) (pc' := 180) cd_Mo_tells rfl (by decide) rfl ?_
    refine m_if2 (t := 211) (pc' := 183) cd_Mo_tells rfl rfl rfl (fun c180 => ?_) (fun c180 => ?_)
    · have c180 : ((-1) : Int32) = (-1) := c180
      refine m_ild (pc' := 213) cd_Mo_tells rfl (Or.inl ⟨rfl, rfl⟩) l7 rfl ?_
      refine m_k1 (v := (-1)) (pc' := 214) cd_Mo_tells rfl (by decide) rfl ?_
      refine m_if2 (t := 279) (pc' := 217) cd_Mo_tells rfl rfl rfl (fun c214 => ?_) (fun c214 => ?_)
      · have c214 : ((-1) : Int32) = (-1) := c214
        refine m_ald (pc' := 280) cd_Mo_tells rfl (Or.inr ⟨_, rfl, rfl, rfl⟩) l0 rfl rfl ?_
        refine m_fR (r := 38) (a := 39) (ad := 1521) (pc' := 283) rfl rfl cd_Mo_tells rfl rfl rfl rfl rfl ?_
        refine m_ild (pc' := 284) cd_Mo_tells rfl (Or.inr ⟨_, rfl, rfl, rfl⟩) l1 rfl ?_
        refine m_ild (pc' := 286) cd_Mo_tells rfl (Or.inl ⟨rfl, rfl⟩) l7 rfl ?_
        refine m_aS (r := 38) (a := 39) (g := (A 39)) (p := q) (pc' := 287) rfl rfl cd_Mo_tells rfl rfl rfl (vp_in_nI (by omega) (by decide)) (nI_clamp (by omega)) ?_
        refine m_ald (pc' := 288) cd_Mo_tells rfl (Or.inr ⟨_, rfl, rfl, rfl⟩) l0 rfl rfl ?_
        refine m_fR (r := 39) (a := 40) (ad := 1522) (pc' := 291) rfl rfl cd_Mo_tells rfl rfl rfl rfl rfl ?_
        refine m_ild (pc' := 292) cd_Mo_tells rfl (Or.inr ⟨_, rfl, rfl, rfl⟩) l1 rfl ?_
        refine m_ild (pc' := 294) cd_Mo_tells rfl (Or.inl ⟨rfl, rfl⟩) l6 rfl ?_
        refine m_aS (r := 39) (a := 40) (g := (A 40)) (p := q) (pc' := 295) rfl rfl cd_Mo_tells rfl rfl rfl (vp_in_nI (by omega) (by decide)) (nI_clamp (by omega)) ?_
        refine m_ald (pc' := 296) cd_Mo_tells rfl (Or.inr ⟨_, rfl, rfl, rfl⟩) l0 rfl rfl ?_
        refine m_fR (r := 40) (a := 41) (ad := 1523) (pc' := 299) rfl rfl cd_Mo_tells rfl rfl rfl rfl rfl ?_
        refine m_ild (pc' := 300) cd_Mo_tells rfl (Or.inr ⟨_, rfl, rfl, rfl⟩) l1 rfl ?_
        refine m_ild (pc' := 301) cd_Mo_tells rfl (Or.inr ⟨_, rfl, rfl, rfl⟩) l3 rfl ?_
        refine m_if1 (t := 314) (pc' := 304) cd_Mo_tells rfl rfl rfl (fun c301 => ?_) (fun c301 => ?_)
        · have c301 : (0 : Int32) = 0 := c301
          refine m_k1 (v := (-1)) (pc' := 315) cd_Mo_tells rfl (by decide) rfl ?_
          refine m_aS (r := 40) (a := 41) (g := (A 41)) (p := q) (pc' := 316) rfl rfl cd_Mo_tells rfl rfl rfl (vp_in_nI (by omega) (by decide)) (nI_clamp (by omega)) ?_
          refine m_ald (pc' := 317) cd_Mo_tells rfl (Or.inr ⟨_, rfl, rfl, rfl⟩) l0 rfl rfl ?_
          refine m_fR (r := 41) (a := 42) (ad := 1524) (pc' := 320) rfl rfl cd_Mo_tells rfl rfl rfl rfl rfl ?_
          refine m_ild (pc' := 321) cd_Mo_tells rfl (Or.inr ⟨_, rfl, rfl, rfl⟩) l1 rfl ?_
          refine m_pure (pc' := 322) (st' := [.int (nI q), .ref 1524, .int (nI q), .ref 1524]) cd_Mo_tells rfl rfl (fun _ _ => rfl) ?_
          refine m_aI (r := 41) (a := 42) (g := (A 42)) (x := (tm q)) (pc' := 323) rfl rfl cd_Mo_tells rfl rfl rfl (vp_in_nI (by omega) (by decide)) ((congrArg (A 42) (nI_clamp (by omega))).trans (congrFun h42 _)) ?_
          refine m_k1 (v := 1) (pc' := 324) cd_Mo_tells rfl (by decide) rfl ?_
          refine m_pure (pc' := 325) (st' := [.int ((tm q) + 1), .int (nI q), .ref 1524]) cd_Mo_tells rfl rfl (fun _ _ => rfl) ?_
          refine m_aS (r := 41) (a := 42) (g := (A 42)) (p := q) (pc' := 326) rfl rfl cd_Mo_tells rfl rfl rfl (vp_in_nI (by omega) (by decide)) (nI_clamp (by omega)) ?_
          exact m_retv cd_Mo_tells rfl ⟨rfl, (kk _ _ (by exact MT_i hM rfl rfl rfl rfl rfl rfl rfl rfl rfl rfl) rfl (RS_t hS ⟨rfl, rfl, rfl, rfl⟩ ⟨rfl, rfl, rfl, rfl, rfl, rfl, rfl, rfl, rfl, rfl, rfl, rfl, rfl, rfl, rfl, rfl, rfl, rfl, rfl⟩ (qLs_same h10 rfl (fun j j1 j2 => (fset_ne (by omega)).trans ((fset_ne (by omega)).trans ((fset_ne (by omega)).trans (fset_ne (by omega)))))) h53 h54 (congrArg (fun g => upd g q _) h39) (congrArg (fun g => upd g q _) h40) (congrArg (fun g => upd g q _) h41) (congrArg (fun g => upd g q _) h42)))⟩
        · exact absurd (show ¬ (0 : Int32) = 0 from c301) (by decide)
      · exact absurd (show ¬ ((-1) : Int32) = (-1) from c214) (by decide)
    · exact absurd (show ¬ ((-1) : Int32) = (-1) from c180) (by decide)
set_option maxRecDepth 100000 in
theorem l_mtl1DN {sc : tm_X} {d : Nat} {f : Nat → Int32} {A : Nat → Nat → Int32} {T : List Tm} {DL : List (Int32 × Int32)} {G Kw : Tm → Prop} {dev : Nat → DV} {sto : Nat → ST} {ws : List (Tm × Int32)} {dir reg : Nat → Tm} {seen : List Tm} {ls : List RL} {lo dt db rt fl ll tl tf tg tm : Nat → Int32} {ck fo du : Int32} {q p hi : Nat} {cl : Bool} {Q : MS → Prop} (hM : MT f A T DL G Kw) (hS : RS f A T DL dev sto ws dir reg seen ls lo (dt, db, rt, fl, ll, tl, tf, tg, tm, ck, fo, du)) (hq : q < 6) (hp : p < 6) (kk : ∀ f1 A1, MT f1 A1 T DL G Kw → f1 16 = f 16 → RS f1 A1 T DL dev sto ws dir reg seen ls lo (dt, db, rt, fl, ll, (upd tl q (-1)), (upd tf q (nI p)), (upd tg q (-1)), (upd tm q (tm q + 1)), ck, (if cl = true then fo + 1 else fo), du) → Q (f1, A1)) : ∀ lv : tm_L, lv.lookup 0 = some (.ref 1482) → lv.lookup 1 = some (.int (nI q)) → lv.lookup 3 = some (.int 0) → lv.lookup 4 = some (.int (nI hi)) → lv.lookup 6 = some (.int (nI p)) → lv.lookup 7 = some (.int (-1)) → lv.lookup 8 = some (.int (bz cl)) → lv.lookup 9 = some (.int 0) → mg sc (d + 1) 247 152 lv [] (f, A) (fun r s' => r = none ∧ Q s') := by
  intro lv l0 l1 l3 l4 l6 l7 l8 l9
  have h10 := hS.2.2.1.1
  have h24 := hS.2.2.2.2.2.1.1
  have h21c := hS.2.2.2.1.2.1
  have h53 := hS.2.2.2.1.2.2.1
  have h54 := hS.2.2.2.1.2.2.2
  have h39 := hS.2.2.2.2.2.2.1
  have h40 := hS.2.2.2.2.2.2.2.1
  have h41 := hS.2.2.2.2.2.2.2.2.1
  have h42 := hS.2.2.2.2.2.2.2.2.2
  refine m_ild (pc' := 154) cd_Mo_tells rfl (Or.inl ⟨rfl, rfl⟩) l8 rfl ?_
  refine m_if1 (t := 172) (pc' := 157) cd_Mo_tells rfl rfl rfl (fun c154 => ?_) (fun c154 => ?_)
  · have c154 : cl = false := bz_f c154
    rw [if_neg (fun q => Bool.noConfusion (c154.symm.trans q))] at kk
    exact l_mtl2DN hM hS hq hp kk lv l0 l1 l3 l4 l6 l7 l8
  · have c154 : cl = true := bz_t c154
    refine m_ild (pc' := 159) cd_Mo_tells rfl (Or.inl ⟨rfl, rfl⟩) l9 rfl ?_
    refine m_if1 (t := 172) (pc' := 162) cd_Mo_tells rfl rfl rfl (fun c159 => ?_) (fun c159 => ?_)
    · exact absurd (show ¬ (0 : Int32) = 0 from c159) (by decide)
    · have c159 : (0 : Int32) = 0 := Classical.not_not.mp c159
      refine m_ald (pc' := 163) cd_Mo_tells rfl (Or.inr ⟨_, rfl, rfl, rfl⟩) l0 rfl rfl ?_
      refine m_pure (pc' := 164) (st' := [.ref 1482, .ref 1482]) cd_Mo_tells rfl rfl (fun _ _ => rfl) ?_
      refine m_fI (k := 53) (x := fo) (pc' := 167) cd_Mo_tells rfl rfl rfl rfl rfl h53 ?_
      refine m_k1 (v := 1) (pc' := 168) cd_Mo_tells rfl (by decide) rfl ?_
      refine m_pure (pc' := 169) (st' := [.int (fo + 1), .ref 1482]) cd_Mo_tells rfl rfl (fun _ _ => rfl) ?_
      refine m_pI (k := 53) (pc' := 172) cd_Mo_tells rfl rfl rfl rfl (by simp [tm_okV, narrow, fits]) rfl rfl ?_
      rw [if_pos c154] at kk
      refine l_mtl2DN (f := fset f 53 (fo + 1)) (A := A) (fo := fo + 1) (by exact MT_i hM rfl rfl rfl rfl rfl rfl rfl rfl rfl rfl) (RS_t hS ⟨rfl, rfl, rfl, rfl⟩ ⟨rfl, rfl, rfl, rfl, rfl, rfl, rfl, rfl, rfl, rfl, rfl, rfl, rfl, rfl, rfl, rfl, rfl, rfl, rfl⟩ h10 rfl h54 h39 h40 h41 h42) hq hp (fun f1 A1 q1 q2 q3 => kk f1 A1 q1 q2 q3) lv l0 l1 l3 l4 l6 l7 l8
set_option maxRecDepth 100000 in
theorem l_mtl0DN {sc : tm_X} {d : Nat} {f : Nat → Int32} {A : Nat → Nat → Int32} {T : List Tm} {DL : List (Int32 × Int32)} {G Kw : Tm → Prop} {dev : Nat → DV} {sto : Nat → ST} {ws : List (Tm × Int32)} {dir reg : Nat → Tm} {seen : List Tm} {ls : List RL} {lo dt db rt fl ll tl tf tg tm : Nat → Int32} {ck fo du : Int32} {q p hi : Nat} {cl : Bool} {Q : MS → Prop} (hM : MT f A T DL G Kw) (hS : RS f A T DL dev sto ws dir reg seen ls lo (dt, db, rt, fl, ll, tl, tf, tg, tm, ck, fo, du)) (hq : q < 6) (hp : p < 6) (kk : ∀ f1 A1, MT f1 A1 T DL G Kw → f1 16 = f 16 → RS f1 A1 T DL dev sto ws dir reg seen ls lo (dt, db, rt, fl, ll, (upd tl q (-1)), (upd tf q (nI p)), (upd tg q (-1)), (upd tm q (tm q + 1)), ck, (if cl = true then fo + 1 else fo), du) → Q (f1, A1)) : ∀ lv : tm_L, lv.lookup 0 = some (.ref 1482) → lv.lookup 1 = some (.int (nI q)) → lv.lookup 3 = some (.int 0) → lv.lookup 4 = some (.int (nI hi)) → lv.lookup 6 = some (.int (nI p)) → lv.lookup 7 = some (.int (-1)) → lv.lookup 8 = some (.int (bz cl)) → mg sc (d + 1) 247 99 lv [] (f, A) (fun r s' => r = none ∧ Q s') := by
  intro lv l0 l1 l3 l4 l6 l7 l8
  have h10 := hS.2.2.1.1
  have h24 := hS.2.2.2.2.2.1.1
  have h21c := hS.2.2.2.1.2.1
  have h53 := hS.2.2.2.1.2.2.1
  have h54 := hS.2.2.2.1.2.2.2
  have h39 := hS.2.2.2.2.2.2.1
  have h40 := hS.2.2.2.2.2.2.2.1
  have h41 := hS.2.2.2.2.2.2.2.2.1
  have h42 := hS.2.2.2.2.2.2.2.2.2
  refine m_ild (pc' := 101) cd_Mo_tells rfl (Or.inl ⟨rfl, rfl⟩) l7 rfl ?_
  refine m_k1 (v := (-1)) (pc' := 102) cd_Mo_tells rfl (by decide) rfl ?_
  refine m_if2 (t := 149) (pc' := 105) cd_Mo_tells rfl rfl rfl (fun c102 => ?_) (fun c102 => ?_)
  · have c102 : ((-1) : Int32) = (-1) := c102
    refine m_k1 (v := 0) (pc' := 150) cd_Mo_tells rfl (by decide) rfl ?_
    refine m_ist (pc' := 152) cd_Mo_tells rfl (Or.inl ⟨rfl, rfl⟩) (by decide) rfl (fun lv el => ?_)
    have l0 := tm_lk el l0 rfl (by decide)
    have l1 := tm_lk el l1 rfl (by decide)
    have l3 := tm_lk el l3 rfl (by decide)
    have l4 := tm_lk el l4 rfl (by decide)
    have l6 := tm_lk el l6 rfl (by decide)
    have l7 := tm_lk el l7 rfl (by decide)
    have l8 := tm_lk el l8 rfl (by decide)
    have l9 : lv.lookup 9 = some (.int 0) := tm_lks el
    clear el
    exact l_mtl1DN hM hS hq hp kk lv l0 l1 l3 l4 l6 l7 l8 l9
  · exact absurd (show ¬ ((-1) : Int32) = (-1) from c102) (by decide)
set_option maxRecDepth 100000 in
theorem m_tellsDN {sc : tm_X} {d : Nat} {f : Nat → Int32} {A : Nat → Nat → Int32} {T : List Tm} {DL : List (Int32 × Int32)} {G Kw : Tm → Prop} {dev : Nat → DV} {sto : Nat → ST} {ws : List (Tm × Int32)} {dir reg : Nat → Tm} {seen : List Tm} {ls : List RL} {lo dt db rt fl ll tl tf tg tm : Nat → Int32} {ck fo du : Int32} {q p si_ : Nat} {X : Tm} {Q : MS → Prop} (hM : MT f A T DL G Kw) (hS : RS f A T DL dev sto ws dir reg seen ls lo (dt, db, rt, fl, ll, tl, tf, tg, tm, ck, fo, du)) (hq : q < 6) (hp : p < 6) (hX : T[si_]? = some X) (kX : kd X = 5) (k7h : kd (pt X 1) = 7) (k7b : kd (pt X 2) = 7) (ep : nu (pt X 1) 0 = nI p) (hln : kd (pt (pt X 2) 0) = 1 → ∃ m, mk (pt (pt X 2) 0) = nI m ∧ m < 3000 ∧ lo m = -1) (kk : ∀ f1 A1, MT f1 A1 T DL G Kw → f1 16 = f 16 → RS f1 A1 T DL dev sto ws dir reg seen ls lo (dt, db, rt, fl, ll, (upd tl q (-1)), (upd tf q (nI p)), (upd tg q (-1)), (upd tm q (tm q + 1)), ck, (if tl_cl fl q p = true then fo + 1 else fo), du) → Q (f1, A1)) : mGv sc (d + 1) 247 [.ref 1482, .int (nI q), .int (nI si_), .int 0] (f, A) Q := by
  have hTl := MT_len hM
  have hsi := tv_lt hX
  obtain ⟨hi, ehi, hH⟩ := MT_two hM hX (Or.inr (Or.inl kX))
  obtain ⟨bi, ebi, hbi⟩ := MT_three hM hX kX
  have h13 := hS.2.2.1.2
  have h24 := hS.2.2.2.2.2.1.1
  show mg sc (d + 1) 247 0 [(0, .ref 1482), (1, .int (nI q)), (2, .int (nI si_)), (3, .int 0)] [] (f, A) _
  generalize elv : ([(0, .ref 1482), (1, .int (nI q)), (2, .int (nI si_)), (3, .int 0)] : tm_L) = lv
  have l0 : lv.lookup 0 = some (.ref 1482) := by rw [← elv]; rfl
  have l1 : lv.lookup 1 = some (.int (nI q)) := by rw [← elv]; rfl
  have l2 : lv.lookup 2 = some (.int (nI si_)) := by rw [← elv]; rfl
  have l3 : lv.lookup 3 = some (.int 0) := by rw [← elv]; rfl
  clear elv
  refine m_ald (pc' := 1) cd_Mo_tells rfl (Or.inr ⟨_, rfl, rfl, rfl⟩) l0 rfl rfl ?_
  refine m_fR (r := 2) (a := 3) (ad := 1485) (pc' := 4) rfl rfl cd_Mo_tells rfl rfl rfl rfl rfl ?_
  refine m_ild (pc' := 5) cd_Mo_tells rfl (Or.inr ⟨_, rfl, rfl, rfl⟩) l2 rfl ?_
  refine m_aI (r := 2) (a := 3) (g := (A 3)) (x := nI hi) (pc' := 6) rfl rfl cd_Mo_tells rfl rfl rfl (vp_in_nI (by omega) (by decide)) ((congrArg (A 3) (nI_clamp (by omega))).trans ehi) ?_
  refine m_ist (pc' := 8) cd_Mo_tells rfl (Or.inl ⟨rfl, rfl⟩) (by decide) rfl (fun lv el => ?_)
  have l0 := tm_lk el l0 rfl (by decide)
  have l1 := tm_lk el l1 rfl (by decide)
  have l2 := tm_lk el l2 rfl (by decide)
  have l3 := tm_lk el l3 rfl (by decide)
  have l4 : lv.lookup 4 = some (.int (nI hi)) := tm_lks el
  clear el
  refine m_ald (pc' := 9) cd_Mo_tells rfl (Or.inr ⟨_, rfl, rfl, rfl⟩) l0 rfl rfl ?_
  refine m_ald (pc' := 10) cd_Mo_tells rfl (Or.inr ⟨_, rfl, rfl, rfl⟩) l0 rfl rfl ?_
  refine m_fR (r := 3) (a := 4) (ad := 1486) (pc' := 13) rfl rfl cd_Mo_tells rfl rfl rfl rfl rfl ?_
  refine m_ild (pc' := 14) cd_Mo_tells rfl (Or.inr ⟨_, rfl, rfl, rfl⟩) l2 rfl ?_
  refine m_aI (r := 3) (a := 4) (g := (A 4)) (x := nI bi) (pc' := 15) rfl rfl cd_Mo_tells rfl rfl rfl (vp_in_nI (by omega) (by decide)) ((congrArg (A 4) (nI_clamp (by omega))).trans ebi) ?_
  refine m_k1 (v := 4) (pc' := 16) cd_Mo_tells rfl (by decide) rfl ?_
  refine m_ci (pc' := 19) cd_Mo_tells rfl rfl rfl rfl rfl cd_Mo_cell rfl (Nat.le_of_ble_eq_true rfl) (m_cellP (k := 0) hM hbi k7b (by decide) (fun ro hro => ?_))
  obtain ⟨yi, rfl, hyi⟩ := hro
  have hyil := tv_lt hyi
  have hkY := MT_kd hM hyi
  show mg _ _ _ 19 _ [.int (nI yi)] _ _
  refine m_ist (pc' := 21) cd_Mo_tells rfl (Or.inl ⟨rfl, rfl⟩) (by decide) rfl (fun lv el => ?_)
  have l0 := tm_lk el l0 rfl (by decide)
  have l1 := tm_lk el l1 rfl (by decide)
  have l2 := tm_lk el l2 rfl (by decide)
  have l3 := tm_lk el l3 rfl (by decide)
  have l4 := tm_lk el l4 rfl (by decide)
  have l5 : lv.lookup 5 = some (.int (nI yi)) := tm_lks el
  clear el
  refine m_ald (pc' := 22) cd_Mo_tells rfl (Or.inr ⟨_, rfl, rfl, rfl⟩) l0 rfl rfl ?_
  refine m_ild (pc' := 24) cd_Mo_tells rfl (Or.inl ⟨rfl, rfl⟩) l4 rfl ?_
  refine m_ild (pc' := 25) cd_Mo_tells rfl (Or.inr ⟨_, rfl, rfl, rfl⟩) l3 rfl ?_
  refine m_if1 (t := 32) (pc' := 28) cd_Mo_tells rfl rfl rfl (fun c25 => ?_) (fun c25 => ?_)
  · have c25 : (0 : Int32) = 0 := c25
    refine m_k1 (v := 0) (pc' := 33) cd_Mo_tells rfl (by decide) rfl ?_
    refine m_ci (pc' := 36) cd_Mo_tells rfl rfl rfl rfl rfl cd_Mo_cell rfl (Nat.le_of_ble_eq_true rfl) (m_cellE (k := 0) hM hH k7h (by decide) ep ?_)
    show mg _ _ _ 36 _ [.int (nI p)] _ _
    refine m_ist (pc' := 38) cd_Mo_tells rfl (Or.inl ⟨rfl, rfl⟩) (by decide) rfl (fun lv el => ?_)
    have l0 := tm_lk el l0 rfl (by decide)
    have l1 := tm_lk el l1 rfl (by decide)
    have l2 := tm_lk el l2 rfl (by decide)
    have l3 := tm_lk el l3 rfl (by decide)
    have l4 := tm_lk el l4 rfl (by decide)
    have l5 := tm_lk el l5 rfl (by decide)
    have l6 : lv.lookup 6 = some (.int (nI p)) := tm_lks el
    clear el
    refine m_ald (pc' := 39) cd_Mo_tells rfl (Or.inr ⟨_, rfl, rfl, rfl⟩) l0 rfl rfl ?_
    refine m_fR (r := 0) (a := 1) (ad := 1483) (pc' := 42) rfl rfl cd_Mo_tells rfl rfl rfl rfl rfl ?_
    refine m_ild (pc' := 44) cd_Mo_tells rfl (Or.inl ⟨rfl, rfl⟩) l5 rfl ?_
    refine m_aI (r := 0) (a := 1) (g := (A 1)) (x := (kd (pt (pt X 2) 0))) (pc' := 45) rfl rfl cd_Mo_tells rfl rfl rfl (vp_in_nI (by omega) (by decide)) ((congrArg (A 1) (nI_clamp (by omega))).trans hkY) ?_
    refine m_k1 (v := 1) (pc' := 46) cd_Mo_tells rfl (by decide) rfl ?_
    refine m_if2 (t := 64) (pc' := 49) cd_Mo_tells rfl rfl rfl (fun c46 => ?_) (fun c46 => ?_)
    · have c46 : ¬ (kd (pt (pt X 2) 0)) = 1 := c46
      refine m_k1 (v := (-1)) (pc' := 65) cd_Mo_tells rfl (by decide) rfl ?_
      refine m_ist (pc' := 67) cd_Mo_tells rfl (Or.inl ⟨rfl, rfl⟩) (by decide) rfl (fun lv el => ?_)
      have l0 := tm_lk el l0 rfl (by decide)
      have l1 := tm_lk el l1 rfl (by decide)
      have l2 := tm_lk el l2 rfl (by decide)
      have l3 := tm_lk el l3 rfl (by decide)
      have l4 := tm_lk el l4 rfl (by decide)
      have l5 := tm_lk el l5 rfl (by decide)
      have l6 := tm_lk el l6 rfl (by decide)
      have l7 : lv.lookup 7 = some (.int (-1)) := tm_lks el
      clear el
      refine m_ald (pc' := 68) cd_Mo_tells rfl (Or.inr ⟨_, rfl, rfl, rfl⟩) l0 rfl rfl ?_
      refine m_fR (r := 23) (a := 24) (ad := 1506) (pc' := 71) rfl rfl cd_Mo_tells rfl rfl rfl rfl rfl ?_
      refine m_ild (pc' := 72) cd_Mo_tells rfl (Or.inr ⟨_, rfl, rfl, rfl⟩) l1 rfl ?_
      refine m_aI (r := 23) (a := 24) (g := (A 24)) (x := (fl q)) (pc' := 73) rfl rfl cd_Mo_tells rfl rfl rfl (vp_in_nI (by omega) (by decide)) ((congrArg (A 24) (nI_clamp (by omega))).trans (congrFun h24 _)) ?_
      refine m_ldcw (pc' := 76) cd_Mo_tells rfl rfl rfl ?_
      refine m_if2 (t := 96) (pc' := 79) cd_Mo_tells rfl rfl rfl (fun c76 => ?_) (fun c76 => ?_)
      · have c76 : ¬ (fl q) = 2147483647 := c76
        refine m_k1 (v := 0) (pc' := 97) cd_Mo_tells rfl (by decide) rfl ?_
        refine m_ist (pc' := 99) cd_Mo_tells rfl (Or.inl ⟨rfl, rfl⟩) (by decide) rfl (fun lv el => ?_)
        have l0 := tm_lk el l0 rfl (by decide)
        have l1 := tm_lk el l1 rfl (by decide)
        have l2 := tm_lk el l2 rfl (by decide)
        have l3 := tm_lk el l3 rfl (by decide)
        have l4 := tm_lk el l4 rfl (by decide)
        have l5 := tm_lk el l5 rfl (by decide)
        have l6 := tm_lk el l6 rfl (by decide)
        have l7 := tm_lk el l7 rfl (by decide)
        have l8 : lv.lookup 8 = some (.int 0) := tm_lks el
        clear el
        have hcl : tl_cl fl q p = false := (by unfold tl_cl; rw [decide_eq_false c76]; rfl)
        rw [hcl] at kk
        exact l_mtl0DN (cl := false) (hi := hi) hM hS hq hp kk lv l0 l1 l3 l4 l6 l7 l8
      · have c76 : (fl q) = 2147483647 := Classical.not_not.mp c76
        refine m_ald (pc' := 80) cd_Mo_tells rfl (Or.inr ⟨_, rfl, rfl, rfl⟩) l0 rfl rfl ?_
        refine m_fR (r := 23) (a := 24) (ad := 1506) (pc' := 83) rfl rfl cd_Mo_tells rfl rfl rfl rfl rfl ?_
        refine m_ild (pc' := 85) cd_Mo_tells rfl (Or.inl ⟨rfl, rfl⟩) l6 rfl ?_
        refine m_aI (r := 23) (a := 24) (g := (A 24)) (x := (fl p)) (pc' := 86) rfl rfl cd_Mo_tells rfl rfl rfl (vp_in_nI (by omega) (by decide)) ((congrArg (A 24) (nI_clamp (by omega))).trans (congrFun h24 _)) ?_
        refine m_ldcw (pc' := 89) cd_Mo_tells rfl rfl rfl ?_
        refine m_if2 (t := 96) (pc' := 92) cd_Mo_tells rfl rfl rfl (fun c89 => ?_) (fun c89 => ?_)
        · have c89 : ¬ (fl p) = 2147483647 := c89
          refine m_k1 (v := 0) (pc' := 97) cd_Mo_tells rfl (by decide) rfl ?_
          refine m_ist (pc' := 99) cd_Mo_tells rfl (Or.inl ⟨rfl, rfl⟩) (by decide) rfl (fun lv el => ?_)
          have l0 := tm_lk el l0 rfl (by decide)
          have l1 := tm_lk el l1 rfl (by decide)
          have l2 := tm_lk el l2 rfl (by decide)
          have l3 := tm_lk el l3 rfl (by decide)
          have l4 := tm_lk el l4 rfl (by decide)
          have l5 := tm_lk el l5 rfl (by decide)
          have l6 := tm_lk el l6 rfl (by decide)
          have l7 := tm_lk el l7 rfl (by decide)
          have l8 : lv.lookup 8 = some (.int 0) := tm_lks el
          clear el
          have hcl : tl_cl fl q p = false := (by unfold tl_cl; rw [decide_eq_false c89, Bool.and_false])
          rw [hcl] at kk
          exact l_mtl0DN (cl := false) (hi := hi) hM hS hq hp kk lv l0 l1 l3 l4 l6 l7 l8
        · have c89 : (fl p) = 2147483647 := Classical.not_not.mp c89
          refine m_k1 (v := 1) (pc' := 93) cd_Mo_tells rfl (by decide) rfl ?_
          refine m_pure (pc' := 97) (st' := [.int 1]) cd_Mo_tells rfl rfl (fun _ _ => rfl) ?_
          refine m_ist (pc' := 99) cd_Mo_tells rfl (Or.inl ⟨rfl, rfl⟩) (by decide) rfl (fun lv el => ?_)
          have l0 := tm_lk el l0 rfl (by decide)
          have l1 := tm_lk el l1 rfl (by decide)
          have l2 := tm_lk el l2 rfl (by decide)
          have l3 := tm_lk el l3 rfl (by decide)
          have l4 := tm_lk el l4 rfl (by decide)
          have l5 := tm_lk el l5 rfl (by decide)
          have l6 := tm_lk el l6 rfl (by decide)
          have l7 := tm_lk el l7 rfl (by decide)
          have l8 : lv.lookup 8 = some (.int 1) := tm_lks el
          clear el
          have hcl : tl_cl fl q p = true := (by unfold tl_cl; rw [decide_eq_true c76, decide_eq_true c89]; rfl)
          rw [hcl] at kk
          exact l_mtl0DN (cl := true) (hi := hi) hM hS hq hp kk lv l0 l1 l3 l4 l6 l7 l8
    · have c46 : (kd (pt (pt X 2) 0)) = 1 := Classical.not_not.mp c46
      obtain ⟨m, hmk, hm, hlo⟩ := hln c46
      refine m_ald (pc' := 50) cd_Mo_tells rfl (Or.inr ⟨_, rfl, rfl, rfl⟩) l0 rfl rfl ?_
      refine m_fR (r := 12) (a := 13) (ad := 1495) (pc' := 53) rfl rfl cd_Mo_tells rfl rfl rfl rfl rfl ?_
      refine m_ald (pc' := 54) cd_Mo_tells rfl (Or.inr ⟨_, rfl, rfl, rfl⟩) l0 rfl rfl ?_
      refine m_fR (r := 1) (a := 2) (ad := 1484) (pc' := 57) rfl rfl cd_Mo_tells rfl rfl rfl rfl rfl ?_
      refine m_ild (pc' := 59) cd_Mo_tells rfl (Or.inl ⟨rfl, rfl⟩) l5 rfl ?_
      refine m_aI (r := 1) (a := 2) (g := (A 2)) (x := nI m) (pc' := 60) rfl rfl cd_Mo_tells rfl rfl rfl (vp_in_nI (by omega) (by decide)) ((congrArg (A 2) (nI_clamp (by omega))).trans ((MT_mk hM hyi (Or.inl c46)).trans hmk)) ?_
      refine m_aI (r := 12) (a := 13) (g := (A 13)) (x := (-1)) (pc' := 61) rfl rfl cd_Mo_tells rfl rfl rfl (vp_in_nI (by omega) (by decide)) ((congrArg (A 13) (nI_clamp (by omega))).trans ((congrFun h13 _).trans hlo)) ?_
      refine m_pure (pc' := 65) (st' := [.int (-1)]) cd_Mo_tells rfl rfl (fun _ _ => rfl) ?_
      refine m_ist (pc' := 67) cd_Mo_tells rfl (Or.inl ⟨rfl, rfl⟩) (by decide) rfl (fun lv el => ?_)
      have l0 := tm_lk el l0 rfl (by decide)
      have l1 := tm_lk el l1 rfl (by decide)
      have l2 := tm_lk el l2 rfl (by decide)
      have l3 := tm_lk el l3 rfl (by decide)
      have l4 := tm_lk el l4 rfl (by decide)
      have l5 := tm_lk el l5 rfl (by decide)
      have l6 := tm_lk el l6 rfl (by decide)
      have l7 : lv.lookup 7 = some (.int (-1)) := tm_lks el
      clear el
      refine m_ald (pc' := 68) cd_Mo_tells rfl (Or.inr ⟨_, rfl, rfl, rfl⟩) l0 rfl rfl ?_
      refine m_fR (r := 23) (a := 24) (ad := 1506) (pc' := 71) rfl rfl cd_Mo_tells rfl rfl rfl rfl rfl ?_
      refine m_ild (pc' := 72) cd_Mo_tells rfl (Or.inr ⟨_, rfl, rfl, rfl⟩) l1 rfl ?_
      refine m_aI (r := 23) (a := 24) (g := (A 24)) (x := (fl q)) (pc' := 73) rfl rfl cd_Mo_tells rfl rfl rfl (vp_in_nI (by omega) (by decide)) ((congrArg (A 24) (nI_clamp (by omega))).trans (congrFun h24 _)) ?_
      refine m_ldcw (pc' := 76) cd_Mo_tells rfl rfl rfl ?_
      refine m_if2 (t := 96) (pc' := 79) cd_Mo_tells rfl rfl rfl (fun c76 => ?_) (fun c76 => ?_)
      · have c76 : ¬ (fl q) = 2147483647 := c76
        refine m_k1 (v := 0) (pc' := 97) cd_Mo_tells rfl (by decide) rfl ?_
        refine m_ist (pc' := 99) cd_Mo_tells rfl (Or.inl ⟨rfl, rfl⟩) (by decide) rfl (fun lv el => ?_)
        have l0 := tm_lk el l0 rfl (by decide)
        have l1 := tm_lk el l1 rfl (by decide)
        have l2 := tm_lk el l2 rfl (by decide)
        have l3 := tm_lk el l3 rfl (by decide)
        have l4 := tm_lk el l4 rfl (by decide)
        have l5 := tm_lk el l5 rfl (by decide)
        have l6 := tm_lk el l6 rfl (by decide)
        have l7 := tm_lk el l7 rfl (by decide)
        have l8 : lv.lookup 8 = some (.int 0) := tm_lks el
        clear el
        have hcl : tl_cl fl q p = false := (by unfold tl_cl; rw [decide_eq_false c76]; rfl)
        rw [hcl] at kk
        exact l_mtl0DN (cl := false) (hi := hi) hM hS hq hp kk lv l0 l1 l3 l4 l6 l7 l8
      · have c76 : (fl q) = 2147483647 := Classical.not_not.mp c76
        refine m_ald (pc' := 80) cd_Mo_tells rfl (Or.inr ⟨_, rfl, rfl, rfl⟩) l0 rfl rfl ?_
        refine m_fR (r := 23) (a := 24) (ad := 1506) (pc' := 83) rfl rfl cd_Mo_tells rfl rfl rfl rfl rfl ?_
        refine m_ild (pc' := 85) cd_Mo_tells rfl (Or.inl ⟨rfl, rfl⟩) l6 rfl ?_
        refine m_aI (r := 23) (a := 24) (g := (A 24)) (x := (fl p)) (pc' := 86) rfl rfl cd_Mo_tells rfl rfl rfl (vp_in_nI (by omega) (by decide)) ((congrArg (A 24) (nI_clamp (by omega))).trans (congrFun h24 _)) ?_
        refine m_ldcw (pc' := 89) cd_Mo_tells rfl rfl rfl ?_
        refine m_if2 (t := 96) (pc' := 92) cd_Mo_tells rfl rfl rfl (fun c89 => ?_) (fun c89 => ?_)
        · have c89 : ¬ (fl p) = 2147483647 := c89
          refine m_k1 (v := 0) (pc' := 97) cd_Mo_tells rfl (by decide) rfl ?_
          refine m_ist (pc' := 99) cd_Mo_tells rfl (Or.inl ⟨rfl, rfl⟩) (by decide) rfl (fun lv el => ?_)
          have l0 := tm_lk el l0 rfl (by decide)
          have l1 := tm_lk el l1 rfl (by decide)
          have l2 := tm_lk el l2 rfl (by decide)
          have l3 := tm_lk el l3 rfl (by decide)
          have l4 := tm_lk el l4 rfl (by decide)
          have l5 := tm_lk el l5 rfl (by decide)
          have l6 := tm_lk el l6 rfl (by decide)
          have l7 := tm_lk el l7 rfl (by decide)
          have l8 : lv.lookup 8 = some (.int 0) := tm_lks el
          clear el
          have hcl : tl_cl fl q p = false := (by unfold tl_cl; rw [decide_eq_false c89, Bool.and_false])
          rw [hcl] at kk
          exact l_mtl0DN (cl := false) (hi := hi) hM hS hq hp kk lv l0 l1 l3 l4 l6 l7 l8
        · have c89 : (fl p) = 2147483647 := Classical.not_not.mp c89
          refine m_k1 (v := 1) (pc' := 93) cd_Mo_tells rfl (by decide) rfl ?_
          refine m_pure (pc' := 97) (st' := [.int 1]) cd_Mo_tells rfl rfl (fun _ _ => rfl) ?_
          refine m_ist (pc' := 99) cd_Mo_tells rfl (Or.inl ⟨rfl, rfl⟩) (by decide) rfl (fun lv el => ?_)
          have l0 := tm_lk el l0 rfl (by decide)
          have l1 := tm_lk el l1 rfl (by decide)
          have l2 := tm_lk el l2 rfl (by decide)
          have l3 := tm_lk el l3 rfl (by decide)
          have l4 := tm_lk el l4 rfl (by decide)
          have l5 := tm_lk el l5 rfl (by decide)
          have l6 := tm_lk el l6 rfl (by decide)
          have l7 := tm_lk el l7 rfl (by decide)
          have l8 : lv.lookup 8 = some (.int 1) := tm_lks el
          clear el
          have hcl : tl_cl fl q p = true := (by unfold tl_cl; rw [decide_eq_true c76, decide_eq_true c89]; rfl)
          rw [hcl] at kk
          exact l_mtl0DN (cl := true) (hi := hi) hM hS hq hp kk lv l0 l1 l3 l4 l6 l7 l8
  · exact absurd (show ¬ (0 : Int32) = 0 from c25) (by decide)
set_option maxRecDepth 100000 in
theorem l_mtl2DS {sc : tm_X} {d : Nat} {f : Nat → Int32} {A : Nat → Nat → Int32} {T : List Tm} {DL : List (Int32 × Int32)} {G Kw : Tm → Prop} {dev : Nat → DV} {sto : Nat → ST} {ws : List (Tm × Int32)} {dir reg : Nat → Tm} {seen : List Tm} {ls : List RL} {lo dt db rt fl ll tl tf tg tm : Nat → Int32} {ck fo du : Int32} {q p hi : Nat} {i : Nat} {e : RL} {cl : Bool} {Q : MS → Prop} (hM : MT f A T DL G Kw) (hS : RS f A T DL dev sto ws dir reg seen ls lo (dt, db, rt, fl, ll, tl, tf, tg, tm, ck, fo, du)) (hq : q < 6) (hp : p < 6) (he : ls[i]? = some e) (kk : ∀ f1 A1, MT f1 A1 T DL G Kw → f1 16 = f 16 → RS f1 A1 T DL dev sto ws dir reg seen (if e.2.2.2.2.2.2.2.2 q = 2147483647 then ls.set i (rl_take e q ck false) else ls) lo (dt, db, rt, fl, ll, (upd tl q (nI i)), (upd tf q (nI p)), (upd tg q (-1)), (upd tm q (tm q + 1)), ck, fo, (if cl = true ∧ e.2.2.2.2.2.2.2.2 q ≠ 2147483647 then du + 1 else du)) → Q (f1, A1)) : ∀ lv : tm_L, lv.lookup 0 = some (.ref 1482) → lv.lookup 1 = some (.int (nI q)) → lv.lookup 3 = some (.int 0) → lv.lookup 4 = some (.int (nI hi)) → lv.lookup 6 = some (.int (nI p)) → lv.lookup 7 = some (.int (nI i)) → lv.lookup 8 = some (.int (bz cl)) → mg sc (d + 1) 247 172 lv [] (f, A) (fun r s' => r = none ∧ Q s') := by
  intro lv l0 l1 l3 l4 l6 l7 l8
  have h10 := hS.2.2.1.1
  have h24 := hS.2.2.2.2.2.1.1
  have h21c := hS.2.2.2.1.2.1
  have h53 := hS.2.2.2.1.2.2.1
  have h54 := hS.2.2.2.1.2.2.2
  have h39 := hS.2.2.2.2.2.2.1
  have h40 := hS.2.2.2.2.2.2.2.1
  have h41 := hS.2.2.2.2.2.2.2.2.1
  have h42 := hS.2.2.2.2.2.2.2.2.2
  have hi := (List.getElem?_eq_some_iff.mp he).1
  have h700 := h10.1.2
  obtain ⟨a1, a2, a3, a4, a5, a6, a7, a8, a9⟩ := h10.2 i e he
  refine m_ild (pc' := 174) cd_Mo_tells rfl (Or.inl ⟨rfl, rfl⟩) l8 rfl ?_
  refine m_if1 (t := 211) (pc' := 177) cd_Mo_tells rfl rfl rfl (fun c174 => ?_) (fun c174 => ?_)
  · have c174 : cl = false := bz_f c174
    refine m_ild (pc' := 213) cd_Mo_tells rfl (Or.inl ⟨rfl, rfl⟩) l7 rfl ?_
    refine m_k1 (v := (-1)) (pc' := 214) cd_Mo_tells rfl (by decide) rfl ?_
    refine m_if2 (t := 279) (pc' := 217) cd_Mo_tells rfl rfl rfl (fun c214 => ?_) (fun c214 => ?_)
    · have c214 : (nI i) = (-1) := c214
      exact absurd c214 (nI_nm1 (by omega))
    · have c214 : ¬ (nI i) = (-1) := c214
      refine m_ald (pc' := 218) cd_Mo_tells rfl (Or.inr ⟨_, rfl, rfl, rfl⟩) l0 rfl rfl ?_
      refine m_fR (r := 36) (a := 37) (ad := 1519) (pc' := 221) rfl rfl cd_Mo_tells rfl rfl rfl rfl rfl ?_
      refine m_k2 (v := 6) (pc' := 223) cd_Mo_tells rfl (by decide) rfl ?_
      refine m_ild (pc' := 225) cd_Mo_tells rfl (Or.inl ⟨rfl, rfl⟩) l7 rfl ?_
      refine m_pure (pc' := 226) (st' := [.int ((6 : Int32) * (nI i)), .ref 1519]) cd_Mo_tells rfl rfl (fun _ _ => rfl) ?_
      refine m_eq (show ((6 : Int32) * (nI i) : Int32) = nI (6 * i) from pk_mul 6 i) ?_
      refine m_ild (pc' := 227) cd_Mo_tells rfl (Or.inr ⟨_, rfl, rfl, rfl⟩) l1 rfl ?_
      refine m_pure (pc' := 228) (st' := [.int ((nI (6 * i)) + (nI q)), .ref 1519]) cd_Mo_tells rfl rfl (fun _ _ => rfl) ?_
      refine m_eq (show ((nI (6 * i)) + (nI q) : Int32) = nI ((6 * i) + q) from nI_add (6 * i) q) ?_
      refine m_aI (r := 36) (a := 37) (g := (A 37)) (x := (e.2.2.2.2.2.2.2.2 q)) (pc' := 229) rfl rfl cd_Mo_tells rfl rfl rfl (vp_in_nI (by omega) (by decide)) ((congrArg (A 37) (nI_clamp (by omega))).trans (a9 q hq)) ?_
      refine m_ldcw (pc' := 232) cd_Mo_tells rfl rfl rfl ?_
      refine m_if2 (t := 279) (pc' := 235) cd_Mo_tells rfl rfl rfl (fun c232 => ?_) (fun c232 => ?_)
      · have c232 : ¬ (e.2.2.2.2.2.2.2.2 q) = 2147483647 := c232
        refine m_ald (pc' := 280) cd_Mo_tells rfl (Or.inr ⟨_, rfl, rfl, rfl⟩) l0 rfl rfl ?_
        refine m_fR (r := 38) (a := 39) (ad := 1521) (pc' := 283) rfl rfl cd_Mo_tells rfl rfl rfl rfl rfl ?_
        refine m_ild (pc' := 284) cd_Mo_tells rfl (Or.inr ⟨_, rfl, rfl, rfl⟩) l1 rfl ?_
        refine m_ild (pc' := 286) cd_Mo_tells rfl (Or.inl ⟨rfl, rfl⟩) l7 rfl ?_
        refine m_aS (r := 38) (a := 39) (g := (A 39)) (p := q) (pc' := 287) rfl rfl cd_Mo_tells rfl rfl rfl (vp_in_nI (by omega) (by decide)) (nI_clamp (by omega)) ?_
        refine m_ald (pc' := 288) cd_Mo_tells rfl (Or.inr ⟨_, rfl, rfl, rfl⟩) l0 rfl rfl ?_
        refine m_fR (r := 39) (a := 40) (ad := 1522) (pc' := 291) rfl rfl cd_Mo_tells rfl rfl rfl rfl rfl ?_
        refine m_ild (pc' := 292) cd_Mo_tells rfl (Or.inr ⟨_, rfl, rfl, rfl⟩) l1 rfl ?_
        refine m_ild (pc' := 294) cd_Mo_tells rfl (Or.inl ⟨rfl, rfl⟩) l6 rfl ?_
        refine m_aS (r := 39) (a := 40) (g := (A 40)) (p := q) (pc' := 295) rfl rfl cd_Mo_tells rfl rfl rfl (vp_in_nI (by omega) (by decide)) (nI_clamp (by omega)) ?_
        refine m_ald (pc' := 296) cd_Mo_tells rfl (Or.inr ⟨_, rfl, rfl, rfl⟩) l0 rfl rfl ?_
        refine m_fR (r := 40) (a := 41) (ad := 1523) (pc' := 299) rfl rfl cd_Mo_tells rfl rfl rfl rfl rfl ?_
        refine m_ild (pc' := 300) cd_Mo_tells rfl (Or.inr ⟨_, rfl, rfl, rfl⟩) l1 rfl ?_
        refine m_ild (pc' := 301) cd_Mo_tells rfl (Or.inr ⟨_, rfl, rfl, rfl⟩) l3 rfl ?_
        refine m_if1 (t := 314) (pc' := 304) cd_Mo_tells rfl rfl rfl (fun c301 => ?_) (fun c301 => ?_)
        · have c301 : (0 : Int32) = 0 := c301
          refine m_k1 (v := (-1)) (pc' := 315) cd_Mo_tells rfl (by decide) rfl ?_
          refine m_aS (r := 40) (a := 41) (g := (A 41)) (p := q) (pc' := 316) rfl rfl cd_Mo_tells rfl rfl rfl (vp_in_nI (by omega) (by decide)) (nI_clamp (by omega)) ?_
          refine m_ald (pc' := 317) cd_Mo_tells rfl (Or.inr ⟨_, rfl, rfl, rfl⟩) l0 rfl rfl ?_
          refine m_fR (r := 41) (a := 42) (ad := 1524) (pc' := 320) rfl rfl cd_Mo_tells rfl rfl rfl rfl rfl ?_
          refine m_ild (pc' := 321) cd_Mo_tells rfl (Or.inr ⟨_, rfl, rfl, rfl⟩) l1 rfl ?_
          refine m_pure (pc' := 322) (st' := [.int (nI q), .ref 1524, .int (nI q), .ref 1524]) cd_Mo_tells rfl rfl (fun _ _ => rfl) ?_
          refine m_aI (r := 41) (a := 42) (g := (A 42)) (x := (tm q)) (pc' := 323) rfl rfl cd_Mo_tells rfl rfl rfl (vp_in_nI (by omega) (by decide)) ((congrArg (A 42) (nI_clamp (by omega))).trans (congrFun h42 _)) ?_
          refine m_k1 (v := 1) (pc' := 324) cd_Mo_tells rfl (by decide) rfl ?_
          refine m_pure (pc' := 325) (st' := [.int ((tm q) + 1), .int (nI q), .ref 1524]) cd_Mo_tells rfl rfl (fun _ _ => rfl) ?_
          refine m_aS (r := 41) (a := 42) (g := (A 42)) (p := q) (pc' := 326) rfl rfl cd_Mo_tells rfl rfl rfl (vp_in_nI (by omega) (by decide)) (nI_clamp (by omega)) ?_
          rw [if_neg c232, if_neg (fun q => Bool.noConfusion (c174.symm.trans q.1))] at kk
          exact m_retv cd_Mo_tells rfl ⟨rfl, (kk _ _ (by exact MT_i hM rfl rfl rfl rfl rfl rfl rfl rfl rfl rfl) rfl (RS_t hS ⟨rfl, rfl, rfl, rfl⟩ ⟨rfl, rfl, rfl, rfl, rfl, rfl, rfl, rfl, rfl, rfl, rfl, rfl, rfl, rfl, rfl, rfl, rfl, rfl, rfl⟩ (qLs_same h10 rfl (fun j j1 j2 => (fset_ne (by omega)).trans ((fset_ne (by omega)).trans ((fset_ne (by omega)).trans (fset_ne (by omega)))))) h53 h54 (congrArg (fun g => upd g q _) h39) (congrArg (fun g => upd g q _) h40) (congrArg (fun g => upd g q _) h41) (congrArg (fun g => upd g q _) h42)))⟩
        · exact absurd (show ¬ (0 : Int32) = 0 from c301) (by decide)
      · have c232 : (e.2.2.2.2.2.2.2.2 q) = 2147483647 := Classical.not_not.mp c232
        refine m_ald (pc' := 236) cd_Mo_tells rfl (Or.inr ⟨_, rfl, rfl, rfl⟩) l0 rfl rfl ?_
        refine m_fR (r := 36) (a := 37) (ad := 1519) (pc' := 239) rfl rfl cd_Mo_tells rfl rfl rfl rfl rfl ?_
        refine m_k2 (v := 6) (pc' := 241) cd_Mo_tells rfl (by decide) rfl ?_
        refine m_ild (pc' := 243) cd_Mo_tells rfl (Or.inl ⟨rfl, rfl⟩) l7 rfl ?_
        refine m_pure (pc' := 244) (st' := [.int ((6 : Int32) * (nI i)), .ref 1519]) cd_Mo_tells rfl rfl (fun _ _ => rfl) ?_
        refine m_eq (show ((6 : Int32) * (nI i) : Int32) = nI (6 * i) from pk_mul 6 i) ?_
        refine m_ild (pc' := 245) cd_Mo_tells rfl (Or.inr ⟨_, rfl, rfl, rfl⟩) l1 rfl ?_
        refine m_pure (pc' := 246) (st' := [.int ((nI (6 * i)) + (nI q)), .ref 1519]) cd_Mo_tells rfl rfl (fun _ _ => rfl) ?_
        refine m_eq (show ((nI (6 * i)) + (nI q) : Int32) = nI ((6 * i) + q) from nI_add (6 * i) q) ?_
        refine m_ald (pc' := 247) cd_Mo_tells rfl (Or.inr ⟨_, rfl, rfl, rfl⟩) l0 rfl rfl ?_
        refine m_fI (k := 21) (x := ck) (pc' := 250) cd_Mo_tells rfl rfl rfl rfl rfl h21c ?_
        refine m_aS (r := 36) (a := 37) (g := (A 37)) (p := ((6 * i) + q)) (pc' := 251) rfl rfl cd_Mo_tells rfl rfl rfl (vp_in_nI (by omega) (by decide)) (nI_clamp (by omega)) ?_
        refine m_ild (pc' := 252) cd_Mo_tells rfl (Or.inr ⟨_, rfl, rfl, rfl⟩) l3 rfl ?_
        refine m_if1 (t := 279) (pc' := 255) cd_Mo_tells rfl rfl rfl (fun c252 => ?_) (fun c252 => ?_)
        · have c252 : (0 : Int32) = 0 := c252
          refine m_ald (pc' := 280) cd_Mo_tells rfl (Or.inr ⟨_, rfl, rfl, rfl⟩) l0 rfl rfl ?_
          refine m_fR (r := 38) (a := 39) (ad := 1521) (pc' := 283) rfl rfl cd_Mo_tells rfl rfl rfl rfl rfl ?_
          refine m_ild (pc' := 284) cd_Mo_tells rfl (Or.inr ⟨_, rfl, rfl, rfl⟩) l1 rfl ?_
          refine m_ild (pc' := 286) cd_Mo_tells rfl (Or.inl ⟨rfl, rfl⟩) l7 rfl ?_
          refine m_aS (r := 38) (a := 39) (g := (A 39)) (p := q) (pc' := 287) rfl rfl cd_Mo_tells rfl rfl rfl (vp_in_nI (by omega) (by decide)) (nI_clamp (by omega)) ?_
          refine m_ald (pc' := 288) cd_Mo_tells rfl (Or.inr ⟨_, rfl, rfl, rfl⟩) l0 rfl rfl ?_
          refine m_fR (r := 39) (a := 40) (ad := 1522) (pc' := 291) rfl rfl cd_Mo_tells rfl rfl rfl rfl rfl ?_
          refine m_ild (pc' := 292) cd_Mo_tells rfl (Or.inr ⟨_, rfl, rfl, rfl⟩) l1 rfl ?_
          refine m_ild (pc' := 294) cd_Mo_tells rfl (Or.inl ⟨rfl, rfl⟩) l6 rfl ?_
          refine m_aS (r := 39) (a := 40) (g := (A 40)) (p := q) (pc' := 295) rfl rfl cd_Mo_tells rfl rfl rfl (vp_in_nI (by omega) (by decide)) (nI_clamp (by omega)) ?_
          refine m_ald (pc' := 296) cd_Mo_tells rfl (Or.inr ⟨_, rfl, rfl, rfl⟩) l0 rfl rfl ?_
          refine m_fR (r := 40) (a := 41) (ad := 1523) (pc' := 299) rfl rfl cd_Mo_tells rfl rfl rfl rfl rfl ?_
          refine m_ild (pc' := 300) cd_Mo_tells rfl (Or.inr ⟨_, rfl, rfl, rfl⟩) l1 rfl ?_
          refine m_ild (pc' := 301) cd_Mo_tells rfl (Or.inr ⟨_, rfl, rfl, rfl⟩) l3 rfl ?_
          refine m_if1 (t := 314) (pc' := 304) cd_Mo_tells rfl rfl rfl (fun c301 => ?_) (fun c301 => ?_)
          · have c301 : (0 : Int32) = 0 := c301
            refine m_k1 (v := (-1)) (pc' := 315) cd_Mo_tells rfl (by decide) rfl ?_
            refine m_aS (r := 40) (a := 41) (g := (A 41)) (p := q) (pc' := 316) rfl rfl cd_Mo_tells rfl rfl rfl (vp_in_nI (by omega) (by decide)) (nI_clamp (by omega)) ?_
            refine m_ald (pc' := 317) cd_Mo_tells rfl (Or.inr ⟨_, rfl, rfl, rfl⟩) l0 rfl rfl ?_
            refine m_fR (r := 41) (a := 42) (ad := 1524) (pc' := 320) rfl rfl cd_Mo_tells rfl rfl rfl rfl rfl ?_
            refine m_ild (pc' := 321) cd_Mo_tells rfl (Or.inr ⟨_, rfl, rfl, rfl⟩) l1 rfl ?_
            refine m_pure (pc' := 322) (st' := [.int (nI q), .ref 1524, .int (nI q), .ref 1524]) cd_Mo_tells rfl rfl (fun _ _ => rfl) ?_
            refine m_aI (r := 41) (a := 42) (g := (A 42)) (x := (tm q)) (pc' := 323) rfl rfl cd_Mo_tells rfl rfl rfl (vp_in_nI (by omega) (by decide)) ((congrArg (A 42) (nI_clamp (by omega))).trans (congrFun h42 _)) ?_
            refine m_k1 (v := 1) (pc' := 324) cd_Mo_tells rfl (by decide) rfl ?_
            refine m_pure (pc' := 325) (st' := [.int ((tm q) + 1), .int (nI q), .ref 1524]) cd_Mo_tells rfl rfl (fun _ _ => rfl) ?_
            refine m_aS (r := 41) (a := 42) (g := (A 42)) (p := q) (pc' := 326) rfl rfl cd_Mo_tells rfl rfl rfl (vp_in_nI (by omega) (by decide)) (nI_clamp (by omega)) ?_
            rw [if_pos c232, if_neg (fun q => Bool.noConfusion (c174.symm.trans q.1))] at kk
            exact m_retv cd_Mo_tells rfl ⟨rfl, (kk _ _ (by exact MT_i hM rfl rfl rfl rfl rfl rfl rfl rfl rfl rfl) rfl (RS_t hS ⟨rfl, rfl, rfl, rfl⟩ ⟨rfl, rfl, rfl, rfl, rfl, rfl, rfl, rfl, rfl, rfl, rfl, rfl, rfl, rfl, rfl, rfl, rfl, rfl, rfl⟩ (qLs_take hq he h10 rfl (fun j j1 j2 => by simp only [fset]; rw [if_neg (by omega), if_neg (by omega), if_neg (by omega), if_neg (by omega), if_neg (by omega)]) rfl (fun k => by rw [if_neg (fun q => nomatch q.2)]; rfl)) h53 h54 (congrArg (fun g => upd g q _) h39) (congrArg (fun g => upd g q _) h40) (congrArg (fun g => upd g q _) h41) (congrArg (fun g => upd g q _) h42)))⟩
          · exact absurd (show ¬ (0 : Int32) = 0 from c301) (by decide)
        · exact absurd (show ¬ (0 : Int32) = 0 from c252) (by decide)
  · have c174 : cl = true := bz_t c174
    refine m_ild (pc' := 179) cd_Mo_tells rfl (Or.inl ⟨rfl, rfl⟩) l7 rfl ?_
    refine m_k1 (v := (-1)) (pc' := 180) cd_Mo_tells rfl (by decide) rfl ?_
    refine m_if2 (t := 211) (pc' := 183) cd_Mo_tells rfl rfl rfl (fun c180 => ?_) (fun c180 => ?_)
    · have c180 : (nI i) = (-1) := c180
      exact absurd c180 (nI_nm1 (by omega))
    · have c180 : ¬ (nI i) = (-1) := c180
      refine m_ald (pc' := 184) cd_Mo_tells rfl (Or.inr ⟨_, rfl, rfl, rfl⟩) l0 rfl rfl ?_
      refine m_fR (r := 36) (a := 37) (ad := 1519) (pc' := 187) rfl rfl cd_Mo_tells rfl rfl rfl rfl rfl ?_
      refine m_k2 (v := 6) (pc' := 189) cd_Mo_tells rfl (by decide) rfl ?_
      refine m_ild (pc' := 191) cd_Mo_tells rfl (Or.inl ⟨rfl, rfl⟩) l7 rfl ?_
      refine m_pure (pc' := 192) (st' := [.int ((6 : Int32) * (nI i)), .ref 1519]) cd_Mo_tells rfl rfl (fun _ _ => rfl) ?_
      refine m_eq (show ((6 : Int32) * (nI i) : Int32) = nI (6 * i) from pk_mul 6 i) ?_
      refine m_ild (pc' := 193) cd_Mo_tells rfl (Or.inr ⟨_, rfl, rfl, rfl⟩) l1 rfl ?_
      refine m_pure (pc' := 194) (st' := [.int ((nI (6 * i)) + (nI q)), .ref 1519]) cd_Mo_tells rfl rfl (fun _ _ => rfl) ?_
      refine m_eq (show ((nI (6 * i)) + (nI q) : Int32) = nI ((6 * i) + q) from nI_add (6 * i) q) ?_
      refine m_aI (r := 36) (a := 37) (g := (A 37)) (x := (e.2.2.2.2.2.2.2.2 q)) (pc' := 195) rfl rfl cd_Mo_tells rfl rfl rfl (vp_in_nI (by omega) (by decide)) ((congrArg (A 37) (nI_clamp (by omega))).trans (a9 q hq)) ?_
      refine m_ldcw (pc' := 198) cd_Mo_tells rfl rfl rfl ?_
      refine m_if2 (t := 211) (pc' := 201) cd_Mo_tells rfl rfl rfl (fun c198 => ?_) (fun c198 => ?_)
      · have c198 : (e.2.2.2.2.2.2.2.2 q) = 2147483647 := c198
        refine m_ild (pc' := 213) cd_Mo_tells rfl (Or.inl ⟨rfl, rfl⟩) l7 rfl ?_
        refine m_k1 (v := (-1)) (pc' := 214) cd_Mo_tells rfl (by decide) rfl ?_
        refine m_if2 (t := 279) (pc' := 217) cd_Mo_tells rfl rfl rfl (fun c214 => ?_) (fun c214 => ?_)
        · have c214 : (nI i) = (-1) := c214
          exact absurd c214 (nI_nm1 (by omega))
        · have c214 : ¬ (nI i) = (-1) := c214
          refine m_ald (pc' := 218) cd_Mo_tells rfl (Or.inr ⟨_, rfl, rfl, rfl⟩) l0 rfl rfl ?_
          refine m_fR (r := 36) (a := 37) (ad := 1519) (pc' := 221) rfl rfl cd_Mo_tells rfl rfl rfl rfl rfl ?_
          refine m_k2 (v := 6) (pc' := 223) cd_Mo_tells rfl (by decide) rfl ?_
          refine m_ild (pc' := 225) cd_Mo_tells rfl (Or.inl ⟨rfl, rfl⟩) l7 rfl ?_
          refine m_pure (pc' := 226) (st' := [.int ((6 : Int32) * (nI i)), .ref 1519]) cd_Mo_tells rfl rfl (fun _ _ => rfl) ?_
          refine m_eq (show ((6 : Int32) * (nI i) : Int32) = nI (6 * i) from pk_mul 6 i) ?_
          refine m_ild (pc' := 227) cd_Mo_tells rfl (Or.inr ⟨_, rfl, rfl, rfl⟩) l1 rfl ?_
          refine m_pure (pc' := 228) (st' := [.int ((nI (6 * i)) + (nI q)), .ref 1519]) cd_Mo_tells rfl rfl (fun _ _ => rfl) ?_
          refine m_eq (show ((nI (6 * i)) + (nI q) : Int32) = nI ((6 * i) + q) from nI_add (6 * i) q) ?_
          refine m_aI (r := 36) (a := 37) (g := (A 37)) (x := (e.2.2.2.2.2.2.2.2 q)) (pc' := 229) rfl rfl cd_Mo_tells rfl rfl rfl (vp_in_nI (by omega) (by decide)) ((congrArg (A 37) (nI_clamp (by omega))).trans (a9 q hq)) ?_
          refine m_ldcw (pc' := 232) cd_Mo_tells rfl rfl rfl ?_
          refine m_if2 (t := 279) (pc' := 235) cd_Mo_tells rfl rfl rfl (fun c232 => ?_) (fun c232 => ?_)
          · have c232 : ¬ (e.2.2.2.2.2.2.2.2 q) = 2147483647 := c232
            exact absurd c198 c232
          · have c232 : (e.2.2.2.2.2.2.2.2 q) = 2147483647 := Classical.not_not.mp c232
            refine m_ald (pc' := 236) cd_Mo_tells rfl (Or.inr ⟨_, rfl, rfl, rfl⟩) l0 rfl rfl ?_
            refine m_fR (r := 36) (a := 37) (ad := 1519) (pc' := 239) rfl rfl cd_Mo_tells rfl rfl rfl rfl rfl ?_
            refine m_k2 (v := 6) (pc' := 241) cd_Mo_tells rfl (by decide) rfl ?_
            refine m_ild (pc' := 243) cd_Mo_tells rfl (Or.inl ⟨rfl, rfl⟩) l7 rfl ?_
            refine m_pure (pc' := 244) (st' := [.int ((6 : Int32) * (nI i)), .ref 1519]) cd_Mo_tells rfl rfl (fun _ _ => rfl) ?_
            refine m_eq (show ((6 : Int32) * (nI i) : Int32) = nI (6 * i) from pk_mul 6 i) ?_
            refine m_ild (pc' := 245) cd_Mo_tells rfl (Or.inr ⟨_, rfl, rfl, rfl⟩) l1 rfl ?_
            refine m_pure (pc' := 246) (st' := [.int ((nI (6 * i)) + (nI q)), .ref 1519]) cd_Mo_tells rfl rfl (fun _ _ => rfl) ?_
            refine m_eq (show ((nI (6 * i)) + (nI q) : Int32) = nI ((6 * i) + q) from nI_add (6 * i) q) ?_
            refine m_ald (pc' := 247) cd_Mo_tells rfl (Or.inr ⟨_, rfl, rfl, rfl⟩) l0 rfl rfl ?_
            refine m_fI (k := 21) (x := ck) (pc' := 250) cd_Mo_tells rfl rfl rfl rfl rfl h21c ?_
            refine m_aS (r := 36) (a := 37) (g := (A 37)) (p := ((6 * i) + q)) (pc' := 251) rfl rfl cd_Mo_tells rfl rfl rfl (vp_in_nI (by omega) (by decide)) (nI_clamp (by omega)) ?_
            refine m_ild (pc' := 252) cd_Mo_tells rfl (Or.inr ⟨_, rfl, rfl, rfl⟩) l3 rfl ?_
            refine m_if1 (t := 279) (pc' := 255) cd_Mo_tells rfl rfl rfl (fun c252 => ?_) (fun c252 => ?_)
            · have c252 : (0 : Int32) = 0 := c252
              refine m_ald (pc' := 280) cd_Mo_tells rfl (Or.inr ⟨_, rfl, rfl, rfl⟩) l0 rfl rfl ?_
              refine m_fR (r := 38) (a := 39) (ad := 1521) (pc' := 283) rfl rfl cd_Mo_tells rfl rfl rfl rfl rfl ?_
              refine m_ild (pc' := 284) cd_Mo_tells rfl (Or.inr ⟨_, rfl, rfl, rfl⟩) l1 rfl ?_
              refine m_ild (pc' := 286) cd_Mo_tells rfl (Or.inl ⟨rfl, rfl⟩) l7 rfl ?_
              refine m_aS (r := 38) (a := 39) (g := (A 39)) (p := q) (pc' := 287) rfl rfl cd_Mo_tells rfl rfl rfl (vp_in_nI (by omega) (by decide)) (nI_clamp (by omega)) ?_
              refine m_ald (pc' := 288) cd_Mo_tells rfl (Or.inr ⟨_, rfl, rfl, rfl⟩) l0 rfl rfl ?_
              refine m_fR (r := 39) (a := 40) (ad := 1522) (pc' := 291) rfl rfl cd_Mo_tells rfl rfl rfl rfl rfl ?_
              refine m_ild (pc' := 292) cd_Mo_tells rfl (Or.inr ⟨_, rfl, rfl, rfl⟩) l1 rfl ?_
              refine m_ild (pc' := 294) cd_Mo_tells rfl (Or.inl ⟨rfl, rfl⟩) l6 rfl ?_
              refine m_aS (r := 39) (a := 40) (g := (A 40)) (p := q) (pc' := 295) rfl rfl cd_Mo_tells rfl rfl rfl (vp_in_nI (by omega) (by decide)) (nI_clamp (by omega)) ?_
              refine m_ald (pc' := 296) cd_Mo_tells rfl (Or.inr ⟨_, rfl, rfl, rfl⟩) l0 rfl rfl ?_
              refine m_fR (r := 40) (a := 41) (ad := 1523) (pc' := 299) rfl rfl cd_Mo_tells rfl rfl rfl rfl rfl ?_
              refine m_ild (pc' := 300) cd_Mo_tells rfl (Or.inr ⟨_, rfl, rfl, rfl⟩) l1 rfl ?_
              refine m_ild (pc' := 301) cd_Mo_tells rfl (Or.inr ⟨_, rfl, rfl, rfl⟩) l3 rfl ?_
              refine m_if1 (t := 314) (pc' := 304) cd_Mo_tells rfl rfl rfl (fun c301 => ?_) (fun c301 => ?_)
              · have c301 : (0 : Int32) = 0 := c301
                refine m_k1 (v := (-1)) (pc' := 315) cd_Mo_tells rfl (by decide) rfl ?_
                refine m_aS (r := 40) (a := 41) (g := (A 41)) (p := q) (pc' := 316) rfl rfl cd_Mo_tells rfl rfl rfl (vp_in_nI (by omega) (by decide)) (nI_clamp (by omega)) ?_
                refine m_ald (pc' := 317) cd_Mo_tells rfl (Or.inr ⟨_, rfl, rfl, rfl⟩) l0 rfl rfl ?_
                refine m_fR (r := 41) (a := 42) (ad := 1524) (pc' := 320) rfl rfl cd_Mo_tells rfl rfl rfl rfl rfl ?_
                refine m_ild (pc' := 321) cd_Mo_tells rfl (Or.inr ⟨_, rfl, rfl, rfl⟩) l1 rfl ?_
                refine m_pure (pc' := 322) (st' := [.int (nI q), .ref 1524, .int (nI q), .ref 1524]) cd_Mo_tells rfl rfl (fun _ _ => rfl) ?_
                refine m_aI (r := 41) (a := 42) (g := (A 42)) (x := (tm q)) (pc' := 323) rfl rfl cd_Mo_tells rfl rfl rfl (vp_in_nI (by omega) (by decide)) ((congrArg (A 42) (nI_clamp (by omega))).trans (congrFun h42 _)) ?_
                refine m_k1 (v := 1) (pc' := 324) cd_Mo_tells rfl (by decide) rfl ?_
                refine m_pure (pc' := 325) (st' := [.int ((tm q) + 1), .int (nI q), .ref 1524]) cd_Mo_tells rfl rfl (fun _ _ => rfl) ?_
                refine m_aS (r := 41) (a := 42) (g := (A 42)) (p := q) (pc' := 326) rfl rfl cd_Mo_tells rfl rfl rfl (vp_in_nI (by omega) (by decide)) (nI_clamp (by omega)) ?_
                rw [if_pos c232, if_neg (fun q => q.2 c198)] at kk
                exact m_retv cd_Mo_tells rfl ⟨rfl, (kk _ _ (by exact MT_i hM rfl rfl rfl rfl rfl rfl rfl rfl rfl rfl) rfl (RS_t hS ⟨rfl, rfl, rfl, rfl⟩ ⟨rfl, rfl, rfl, rfl, rfl, rfl, rfl, rfl, rfl, rfl, rfl, rfl, rfl, rfl, rfl, rfl, rfl, rfl, rfl⟩ (qLs_take hq he h10 rfl (fun j j1 j2 => by simp only [fset]; rw [if_neg (by omega), if_neg (by omega), if_neg (by omega), if_neg (by omega), if_neg (by omega)]) rfl (fun k => by rw [if_neg (fun q => nomatch q.2)]; rfl)) h53 h54 (congrArg (fun g => upd g q _) h39) (congrArg (fun g => upd g q _) h40) (congrArg (fun g => upd g q _) h41) (congrArg (fun g => upd g q _) h42)))⟩
              · exact absurd (show ¬ (0 : Int32) = 0 from c301) (by decide)
            · exact absurd (show ¬ (0 : Int32) = 0 from c252) (by decide)
      · have c198 : ¬ (e.2.2.2.2.2.2.2.2 q) = 2147483647 := c198
        refine m_ald (pc' := 202) cd_Mo_tells rfl (Or.inr ⟨_, rfl, rfl, rfl⟩) l0 rfl rfl ?_
        refine m_pure (pc' := 203) (st' := [.ref 1482, .ref 1482]) cd_Mo_tells rfl rfl (fun _ _ => rfl) ?_
        refine m_fI (k := 54) (x := du) (pc' := 206) cd_Mo_tells rfl rfl rfl rfl rfl h54 ?_
        refine m_k1 (v := 1) (pc' := 207) cd_Mo_tells rfl (by decide) rfl ?_
        refine m_pure (pc' := 208) (st' := [.int (du + 1), .ref 1482]) cd_Mo_tells rfl rfl (fun _ _ => rfl) ?_
        refine m_pI (k := 54) (pc' := 211) cd_Mo_tells rfl rfl rfl rfl (by simp [tm_okV, narrow, fits]) rfl rfl ?_
        refine m_ild (pc' := 213) cd_Mo_tells rfl (Or.inl ⟨rfl, rfl⟩) l7 rfl ?_
        refine m_k1 (v := (-1)) (pc' := 214) cd_Mo_tells rfl (by decide) rfl ?_
        refine m_if2 (t := 279) (pc' := 217) cd_Mo_tells rfl rfl rfl (fun c214 => ?_) (fun c214 => ?_)
        · have c214 : (nI i) = (-1) := c214
          exact absurd c214 (nI_nm1 (by omega))
        · have c214 : ¬ (nI i) = (-1) := c214
          refine m_ald (pc' := 218) cd_Mo_tells rfl (Or.inr ⟨_, rfl, rfl, rfl⟩) l0 rfl rfl ?_
          refine m_fR (r := 36) (a := 37) (ad := 1519) (pc' := 221) rfl rfl cd_Mo_tells rfl rfl rfl rfl rfl ?_
          refine m_k2 (v := 6) (pc' := 223) cd_Mo_tells rfl (by decide) rfl ?_
          refine m_ild (pc' := 225) cd_Mo_tells rfl (Or.inl ⟨rfl, rfl⟩) l7 rfl ?_
          refine m_pure (pc' := 226) (st' := [.int ((6 : Int32) * (nI i)), .ref 1519]) cd_Mo_tells rfl rfl (fun _ _ => rfl) ?_
          refine m_eq (show ((6 : Int32) * (nI i) : Int32) = nI (6 * i) from pk_mul 6 i) ?_
          refine m_ild (pc' := 227) cd_Mo_tells rfl (Or.inr ⟨_, rfl, rfl, rfl⟩) l1 rfl ?_
          refine m_pure (pc' := 228) (st' := [.int ((nI (6 * i)) + (nI q)), .ref 1519]) cd_Mo_tells rfl rfl (fun _ _ => rfl) ?_
          refine m_eq (show ((nI (6 * i)) + (nI q) : Int32) = nI ((6 * i) + q) from nI_add (6 * i) q) ?_
          refine m_aI (r := 36) (a := 37) (g := (A 37)) (x := (e.2.2.2.2.2.2.2.2 q)) (pc' := 229) rfl rfl cd_Mo_tells rfl rfl rfl (vp_in_nI (by omega) (by decide)) ((congrArg (A 37) (nI_clamp (by omega))).trans (a9 q hq)) ?_
          refine m_ldcw (pc' := 232) cd_Mo_tells rfl rfl rfl ?_
          refine m_if2 (t := 279) (pc' := 235) cd_Mo_tells rfl rfl rfl (fun c232 => ?_) (fun c232 => ?_)
          · have c232 : ¬ (e.2.2.2.2.2.2.2.2 q) = 2147483647 := c232
            refine m_ald (pc' := 280) cd_Mo_tells rfl (Or.inr ⟨_, rfl, rfl, rfl⟩) l0 rfl rfl ?_
            refine m_fR (r := 38) (a := 39) (ad := 1521) (pc' := 283) rfl rfl cd_Mo_tells rfl rfl rfl rfl rfl ?_
            refine m_ild (pc' := 284) cd_Mo_tells rfl (Or.inr ⟨_, rfl, rfl, rfl⟩) l1 rfl ?_
            refine m_ild (pc' := 286) cd_Mo_tells rfl (Or.inl ⟨rfl, rfl⟩) l7 rfl ?_
            refine m_aS (r := 38) (a := 39) (g := (A 39)) (p := q) (pc' := 287) rfl rfl cd_Mo_tells rfl rfl rfl (vp_in_nI (by omega) (by decide)) (nI_clamp (by omega)) ?_
            refine m_ald (pc' := 288) cd_Mo_tells rfl (Or.inr ⟨_, rfl, rfl, rfl⟩) l0 rfl rfl ?_
            refine m_fR (r := 39) (a := 40) (ad := 1522) (pc' := 291) rfl rfl cd_Mo_tells rfl rfl rfl rfl rfl ?_
            refine m_ild (pc' := 292) cd_Mo_tells rfl (Or.inr ⟨_, rfl, rfl, rfl⟩) l1 rfl ?_
            refine m_ild (pc' := 294) cd_Mo_tells rfl (Or.inl ⟨rfl, rfl⟩) l6 rfl ?_
            refine m_aS (r := 39) (a := 40) (g := (A 40)) (p := q) (pc' := 295) rfl rfl cd_Mo_tells rfl rfl rfl (vp_in_nI (by omega) (by decide)) (nI_clamp (by omega)) ?_
            refine m_ald (pc' := 296) cd_Mo_tells rfl (Or.inr ⟨_, rfl, rfl, rfl⟩) l0 rfl rfl ?_
            refine m_fR (r := 40) (a := 41) (ad := 1523) (pc' := 299) rfl rfl cd_Mo_tells rfl rfl rfl rfl rfl ?_
            refine m_ild (pc' := 300) cd_Mo_tells rfl (Or.inr ⟨_, rfl, rfl, rfl⟩) l1 rfl ?_
            refine m_ild (pc' := 301) cd_Mo_tells rfl (Or.inr ⟨_, rfl, rfl, rfl⟩) l3 rfl ?_
            refine m_if1 (t := 314) (pc' := 304) cd_Mo_tells rfl rfl rfl (fun c301 => ?_) (fun c301 => ?_)
            · have c301 : (0 : Int32) = 0 := c301
              refine m_k1 (v := (-1)) (pc' := 315) cd_Mo_tells rfl (by decide) rfl ?_
              refine m_aS (r := 40) (a := 41) (g := (A 41)) (p := q) (pc' := 316) rfl rfl cd_Mo_tells rfl rfl rfl (vp_in_nI (by omega) (by decide)) (nI_clamp (by omega)) ?_
              refine m_ald (pc' := 317) cd_Mo_tells rfl (Or.inr ⟨_, rfl, rfl, rfl⟩) l0 rfl rfl ?_
              refine m_fR (r := 41) (a := 42) (ad := 1524) (pc' := 320) rfl rfl cd_Mo_tells rfl rfl rfl rfl rfl ?_
              refine m_ild (pc' := 321) cd_Mo_tells rfl (Or.inr ⟨_, rfl, rfl, rfl⟩) l1 rfl ?_
              refine m_pure (pc' := 322) (st' := [.int (nI q), .ref 1524, .int (nI q), .ref 1524]) cd_Mo_tells rfl rfl (fun _ _ => rfl) ?_
              refine m_aI (r := 41) (a := 42) (g := (A 42)) (x := (tm q)) (pc' := 323) rfl rfl cd_Mo_tells rfl rfl rfl (vp_in_nI (by omega) (by decide)) ((congrArg (A 42) (nI_clamp (by omega))).trans (congrFun h42 _)) ?_
              refine m_k1 (v := 1) (pc' := 324) cd_Mo_tells rfl (by decide) rfl ?_
              refine m_pure (pc' := 325) (st' := [.int ((tm q) + 1), .int (nI q), .ref 1524]) cd_Mo_tells rfl rfl (fun _ _ => rfl) ?_
              refine m_aS (r := 41) (a := 42) (g := (A 42)) (p := q) (pc' := 326) rfl rfl cd_Mo_tells rfl rfl rfl (vp_in_nI (by omega) (by decide)) (nI_clamp (by omega)) ?_
              rw [if_neg c232, if_pos ⟨c174, c198⟩] at kk
              exact m_retv cd_Mo_tells rfl ⟨rfl, (kk _ _ (by exact MT_i hM rfl rfl rfl rfl rfl rfl rfl rfl rfl rfl) rfl (RS_t hS ⟨rfl, rfl, rfl, rfl⟩ ⟨rfl, rfl, rfl, rfl, rfl, rfl, rfl, rfl, rfl, rfl, rfl, rfl, rfl, rfl, rfl, rfl, rfl, rfl, rfl⟩ (qLs_same h10 rfl (fun j j1 j2 => (fset_ne (by omega)).trans ((fset_ne (by omega)).trans ((fset_ne (by omega)).trans (fset_ne (by omega)))))) h53 (show du + 1 = du + 1 from rfl) (congrArg (fun g => upd g q _) h39) (congrArg (fun g => upd g q _) h40) (congrArg (fun g => upd g q _) h41) (congrArg (fun g => upd g q _) h42)))⟩
            · exact absurd (show ¬ (0 : Int32) = 0 from c301) (by decide)
          · have c232 : (e.2.2.2.2.2.2.2.2 q) = 2147483647 := Classical.not_not.mp c232
            exact absurd c232 c198
set_option maxRecDepth 100000 in
theorem l_mtl1DS {sc : tm_X} {d : Nat} {f : Nat → Int32} {A : Nat → Nat → Int32} {T : List Tm} {DL : List (Int32 × Int32)} {G Kw : Tm → Prop} {dev : Nat → DV} {sto : Nat → ST} {ws : List (Tm × Int32)} {dir reg : Nat → Tm} {seen : List Tm} {ls : List RL} {lo dt db rt fl ll tl tf tg tm : Nat → Int32} {ck fo du : Int32} {q p hi : Nat} {i : Nat} {e : RL} {cl di : Bool} {Q : MS → Prop} (hM : MT f A T DL G Kw) (hS : RS f A T DL dev sto ws dir reg seen ls lo (dt, db, rt, fl, ll, tl, tf, tg, tm, ck, fo, du)) (hq : q < 6) (hp : p < 6) (he : ls[i]? = some e) (kk : ∀ f1 A1, MT f1 A1 T DL G Kw → f1 16 = f 16 → RS f1 A1 T DL dev sto ws dir reg seen (if e.2.2.2.2.2.2.2.2 q = 2147483647 then ls.set i (rl_take e q ck false) else ls) lo (dt, db, rt, fl, ll, (upd tl q (nI i)), (upd tf q (nI p)), (upd tg q (-1)), (upd tm q (tm q + 1)), ck, (if cl = true ∧ di = false then fo + 1 else fo), (if cl = true ∧ e.2.2.2.2.2.2.2.2 q ≠ 2147483647 then du + 1 else du)) → Q (f1, A1)) : ∀ lv : tm_L, lv.lookup 0 = some (.ref 1482) → lv.lookup 1 = some (.int (nI q)) → lv.lookup 3 = some (.int 0) → lv.lookup 4 = some (.int (nI hi)) → lv.lookup 6 = some (.int (nI p)) → lv.lookup 7 = some (.int (nI i)) → lv.lookup 8 = some (.int (bz cl)) → lv.lookup 9 = some (.int (bz di)) → mg sc (d + 1) 247 152 lv [] (f, A) (fun r s' => r = none ∧ Q s') := by
  intro lv l0 l1 l3 l4 l6 l7 l8 l9
  have h10 := hS.2.2.1.1
  have h24 := hS.2.2.2.2.2.1.1
  have h21c := hS.2.2.2.1.2.1
  have h53 := hS.2.2.2.1.2.2.1
  have h54 := hS.2.2.2.1.2.2.2
  have h39 := hS.2.2.2.2.2.2.1
  have h40 := hS.2.2.2.2.2.2.2.1
  have h41 := hS.2.2.2.2.2.2.2.2.1
  have h42 := hS.2.2.2.2.2.2.2.2.2
  have hi := (List.getElem?_eq_some_iff.mp he).1
  have h700 := h10.1.2
  obtain ⟨a1, a2, a3, a4, a5, a6, a7, a8, a9⟩ := h10.2 i e he
  refine m_ild (pc' := 154) cd_Mo_tells rfl (Or.inl ⟨rfl, rfl⟩) l8 rfl ?_
  refine m_if1 (t := 172) (pc' := 157) cd_Mo_tells rfl rfl rfl (fun c154 => ?_) (fun c154 => ?_)
  · have c154 : cl = false := bz_f c154
    rw [if_neg (show ¬ (cl = true ∧ di = false) from fun q => Bool.noConfusion (c154.symm.trans q.1))] at kk
    exact l_mtl2DS hM hS hq hp he kk lv l0 l1 l3 l4 l6 l7 l8
  · have c154 : cl = true := bz_t c154
    refine m_ild (pc' := 159) cd_Mo_tells rfl (Or.inl ⟨rfl, rfl⟩) l9 rfl ?_
    refine m_if1 (t := 172) (pc' := 162) cd_Mo_tells rfl rfl rfl (fun c159 => ?_) (fun c159 => ?_)
    · have c159 : di = true := bz_t c159
      rw [if_neg (show ¬ (cl = true ∧ di = false) from fun q => Bool.noConfusion (c159.symm.trans q.2))] at kk
      exact l_mtl2DS hM hS hq hp he kk lv l0 l1 l3 l4 l6 l7 l8
    · have c159 : di = false := bz_f (Classical.not_not.mp c159)
      refine m_ald (pc' := 163) cd_Mo_tells rfl (Or.inr ⟨_, rfl, rfl, rfl⟩) l0 rfl rfl ?_
      refine m_pure (pc' := 164) (st' := [.ref 1482, .ref 1482]) cd_Mo_tells rfl rfl (fun _ _ => rfl) ?_
      refine m_fI (k := 53) (x := fo) (pc' := 167) cd_Mo_tells rfl rfl rfl rfl rfl h53 ?_
      refine m_k1 (v := 1) (pc' := 168) cd_Mo_tells rfl (by decide) rfl ?_
      refine m_pure (pc' := 169) (st' := [.int (fo + 1), .ref 1482]) cd_Mo_tells rfl rfl (fun _ _ => rfl) ?_
      refine m_pI (k := 53) (pc' := 172) cd_Mo_tells rfl rfl rfl rfl (by simp [tm_okV, narrow, fits]) rfl rfl ?_
      rw [if_pos (show cl = true ∧ di = false from ⟨c154, c159⟩)] at kk
      refine l_mtl2DS (f := fset f 53 (fo + 1)) (A := A) (fo := fo + 1) (by exact MT_i hM rfl rfl rfl rfl rfl rfl rfl rfl rfl rfl) (RS_t hS ⟨rfl, rfl, rfl, rfl⟩ ⟨rfl, rfl, rfl, rfl, rfl, rfl, rfl, rfl, rfl, rfl, rfl, rfl, rfl, rfl, rfl, rfl, rfl, rfl, rfl⟩ h10 rfl h54 h39 h40 h41 h42) hq hp he (fun f1 A1 q1 q2 q3 => kk f1 A1 q1 q2 q3) lv l0 l1 l3 l4 l6 l7 l8
set_option maxRecDepth 100000 in
theorem l_mtl0DS {sc : tm_X} {d : Nat} {f : Nat → Int32} {A : Nat → Nat → Int32} {T : List Tm} {DL : List (Int32 × Int32)} {G Kw : Tm → Prop} {dev : Nat → DV} {sto : Nat → ST} {ws : List (Tm × Int32)} {dir reg : Nat → Tm} {seen : List Tm} {ls : List RL} {lo dt db rt fl ll tl tf tg tm : Nat → Int32} {ck fo du : Int32} {q p hi : Nat} {i : Nat} {e : RL} {cl : Bool} {Q : MS → Prop} (hM : MT f A T DL G Kw) (hS : RS f A T DL dev sto ws dir reg seen ls lo (dt, db, rt, fl, ll, tl, tf, tg, tm, ck, fo, du)) (hq : q < 6) (hp : p < 6) (he : ls[i]? = some e) (kk : ∀ f1 A1, MT f1 A1 T DL G Kw → f1 16 = f 16 → RS f1 A1 T DL dev sto ws dir reg seen (if e.2.2.2.2.2.2.2.2 q = 2147483647 then ls.set i (rl_take e q ck false) else ls) lo (dt, db, rt, fl, ll, (upd tl q (nI i)), (upd tf q (nI p)), (upd tg q (-1)), (upd tm q (tm q + 1)), ck, (if cl = true ∧ tl_did e (nI q) (nI p) = false then fo + 1 else fo), (if cl = true ∧ e.2.2.2.2.2.2.2.2 q ≠ 2147483647 then du + 1 else du)) → Q (f1, A1)) : ∀ lv : tm_L, lv.lookup 0 = some (.ref 1482) → lv.lookup 1 = some (.int (nI q)) → lv.lookup 3 = some (.int 0) → lv.lookup 4 = some (.int (nI hi)) → lv.lookup 6 = some (.int (nI p)) → lv.lookup 7 = some (.int (nI i)) → lv.lookup 8 = some (.int (bz cl)) → mg sc (d + 1) 247 99 lv [] (f, A) (fun r s' => r = none ∧ Q s') := by
  intro lv l0 l1 l3 l4 l6 l7 l8
  have h10 := hS.2.2.1.1
  have h24 := hS.2.2.2.2.2.1.1
  have h21c := hS.2.2.2.1.2.1
  have h53 := hS.2.2.2.1.2.2.1
  have h54 := hS.2.2.2.1.2.2.2
  have h39 := hS.2.2.2.2.2.2.1
  have h40 := hS.2.2.2.2.2.2.2.1
  have h41 := hS.2.2.2.2.2.2.2.2.1
  have h42 := hS.2.2.2.2.2.2.2.2.2
  have hi := (List.getElem?_eq_some_iff.mp he).1
  have h700 := h10.1.2
  obtain ⟨a1, a2, a3, a4, a5, a6, a7, a8, a9⟩ := h10.2 i e he
  refine m_ild (pc' := 101) cd_Mo_tells rfl (Or.inl ⟨rfl, rfl⟩) l7 rfl ?_
  refine m_k1 (v := (-1)) (pc' := 102) cd_Mo_tells rfl (by decide) rfl ?_
  refine m_if2 (t := 149) (pc' := 105) cd_Mo_tells rfl rfl rfl (fun c102 => ?_) (fun c102 => ?_)
  · have c102 : (nI i) = (-1) := c102
    exact absurd c102 (nI_nm1 (by omega))
  · have c102 : ¬ (nI i) = (-1) := c102
    refine m_ald (pc' := 106) cd_Mo_tells rfl (Or.inr ⟨_, rfl, rfl, rfl⟩) l0 rfl rfl ?_
    refine m_fR (r := 30) (a := 31) (ad := 1513) (pc' := 109) rfl rfl cd_Mo_tells rfl rfl rfl rfl rfl ?_
    refine m_ild (pc' := 111) cd_Mo_tells rfl (Or.inl ⟨rfl, rfl⟩) l7 rfl ?_
    refine m_aI (r := 30) (a := 31) (g := (A 31)) (x := e.2.1) (pc' := 112) rfl rfl cd_Mo_tells rfl rfl rfl (vp_in_nI (by omega) (by decide)) ((congrArg (A 31) (nI_clamp (by omega))).trans a2) ?_
    refine m_ild (pc' := 114) cd_Mo_tells rfl (Or.inl ⟨rfl, rfl⟩) l6 rfl ?_
    refine m_if2 (t := 149) (pc' := 117) cd_Mo_tells rfl rfl rfl (fun c114 => ?_) (fun c114 => ?_)
    · have c114 : ¬ e.2.1 = (nI p) := c114
      refine m_k1 (v := 0) (pc' := 150) cd_Mo_tells rfl (by decide) rfl ?_
      refine m_ist (pc' := 152) cd_Mo_tells rfl (Or.inl ⟨rfl, rfl⟩) (by decide) rfl (fun lv el => ?_)
      have l0 := tm_lk el l0 rfl (by decide)
      have l1 := tm_lk el l1 rfl (by decide)
      have l3 := tm_lk el l3 rfl (by decide)
      have l4 := tm_lk el l4 rfl (by decide)
      have l6 := tm_lk el l6 rfl (by decide)
      have l7 := tm_lk el l7 rfl (by decide)
      have l8 := tm_lk el l8 rfl (by decide)
      have l9 : lv.lookup 9 = some (.int 0) := tm_lks el
      clear el
      have hdi : tl_did e (nI q) (nI p) = false := (by unfold tl_did; rw [decide_eq_false c114]; rfl)
      rw [hdi] at kk
      exact l_mtl1DS (di := false) hM hS hq hp he kk lv l0 l1 l3 l4 l6 l7 l8 l9
    · have c114 : e.2.1 = (nI p) := Classical.not_not.mp c114
      refine m_ald (pc' := 118) cd_Mo_tells rfl (Or.inr ⟨_, rfl, rfl, rfl⟩) l0 rfl rfl ?_
      refine m_fR (r := 31) (a := 32) (ad := 1514) (pc' := 121) rfl rfl cd_Mo_tells rfl rfl rfl rfl rfl ?_
      refine m_ild (pc' := 123) cd_Mo_tells rfl (Or.inl ⟨rfl, rfl⟩) l7 rfl ?_
      refine m_aI (r := 31) (a := 32) (g := (A 32)) (x := e.2.2.1) (pc' := 124) rfl rfl cd_Mo_tells rfl rfl rfl (vp_in_nI (by omega) (by decide)) ((congrArg (A 32) (nI_clamp (by omega))).trans a3) ?_
      refine m_ild (pc' := 125) cd_Mo_tells rfl (Or.inr ⟨_, rfl, rfl, rfl⟩) l3 rfl ?_
      refine m_if1 (t := 141) (pc' := 128) cd_Mo_tells rfl rfl rfl (fun c125 => ?_) (fun c125 => ?_)
      · have c125 : (0 : Int32) = 0 := c125
        refine m_ild (pc' := 142) cd_Mo_tells rfl (Or.inr ⟨_, rfl, rfl, rfl⟩) l1 rfl ?_
        refine m_if2 (t := 149) (pc' := 145) cd_Mo_tells rfl rfl rfl (fun c142 => ?_) (fun c142 => ?_)
        · have c142 : ¬ e.2.2.1 = (nI q) := c142
          refine m_k1 (v := 0) (pc' := 150) cd_Mo_tells rfl (by decide) rfl ?_
          refine m_ist (pc' := 152) cd_Mo_tells rfl (Or.inl ⟨rfl, rfl⟩) (by decide) rfl (fun lv el => ?_)
          have l0 := tm_lk el l0 rfl (by decide)
          have l1 := tm_lk el l1 rfl (by decide)
          have l3 := tm_lk el l3 rfl (by decide)
          have l4 := tm_lk el l4 rfl (by decide)
          have l6 := tm_lk el l6 rfl (by decide)
          have l7 := tm_lk el l7 rfl (by decide)
          have l8 := tm_lk el l8 rfl (by decide)
          have l9 : lv.lookup 9 = some (.int 0) := tm_lks el
          clear el
          have hdi : tl_did e (nI q) (nI p) = false := (by unfold tl_did; rw [decide_eq_false c142, Bool.and_false])
          rw [hdi] at kk
          exact l_mtl1DS (di := false) hM hS hq hp he kk lv l0 l1 l3 l4 l6 l7 l8 l9
        · have c142 : e.2.2.1 = (nI q) := Classical.not_not.mp c142
          refine m_k1 (v := 1) (pc' := 146) cd_Mo_tells rfl (by decide) rfl ?_
          refine m_pure (pc' := 150) (st' := [.int 1]) cd_Mo_tells rfl rfl (fun _ _ => rfl) ?_
          refine m_ist (pc' := 152) cd_Mo_tells rfl (Or.inl ⟨rfl, rfl⟩) (by decide) rfl (fun lv el => ?_)
          have l0 := tm_lk el l0 rfl (by decide)
          have l1 := tm_lk el l1 rfl (by decide)
          have l3 := tm_lk el l3 rfl (by decide)
          have l4 := tm_lk el l4 rfl (by decide)
          have l6 := tm_lk el l6 rfl (by decide)
          have l7 := tm_lk el l7 rfl (by decide)
          have l8 := tm_lk el l8 rfl (by decide)
          have l9 : lv.lookup 9 = some (.int 1) := tm_lks el
          clear el
          have hdi : tl_did e (nI q) (nI p) = true := (by unfold tl_did; rw [decide_eq_true c114, decide_eq_true c142]; rfl)
          rw [hdi] at kk
          exact l_mtl1DS (di := true) hM hS hq hp he kk lv l0 l1 l3 l4 l6 l7 l8 l9
      · exact absurd (show ¬ (0 : Int32) = 0 from c125) (by decide)
set_option maxRecDepth 100000 in
theorem m_tellsDS {sc : tm_X} {d : Nat} {f : Nat → Int32} {A : Nat → Nat → Int32} {T : List Tm} {DL : List (Int32 × Int32)} {G Kw : Tm → Prop} {dev : Nat → DV} {sto : Nat → ST} {ws : List (Tm × Int32)} {dir reg : Nat → Tm} {seen : List Tm} {ls : List RL} {lo dt db rt fl ll tl tf tg tm : Nat → Int32} {ck fo du : Int32} {q p si_ : Nat} {X : Tm} {i m : Nat} {e : RL} {Q : MS → Prop} (hM : MT f A T DL G Kw) (hS : RS f A T DL dev sto ws dir reg seen ls lo (dt, db, rt, fl, ll, tl, tf, tg, tm, ck, fo, du)) (hq : q < 6) (hp : p < 6) (hX : T[si_]? = some X) (kX : kd X = 5) (k7h : kd (pt X 1) = 7) (k7b : kd (pt X 2) = 7) (ep : nu (pt X 1) 0 = nI p) (kY : kd (pt (pt X 2) 0) = 1) (hmk : mk (pt (pt X 2) 0) = nI m) (hm : m < 3000) (hlo : lo m = nI i) (he : ls[i]? = some e) (kk : ∀ f1 A1, MT f1 A1 T DL G Kw → f1 16 = f 16 → RS f1 A1 T DL dev sto ws dir reg seen (if e.2.2.2.2.2.2.2.2 q = 2147483647 then ls.set i (rl_take e q ck false) else ls) lo (dt, db, rt, fl, ll, (upd tl q (nI i)), (upd tf q (nI p)), (upd tg q (-1)), (upd tm q (tm q + 1)), ck, (if tl_cl fl q p = true ∧ tl_did e (nI q) (nI p) = false then fo + 1 else fo), (if tl_cl fl q p = true ∧ e.2.2.2.2.2.2.2.2 q ≠ 2147483647 then du + 1 else du)) → Q (f1, A1)) : mGv sc (d + 1) 247 [.ref 1482, .int (nI q), .int (nI si_), .int 0] (f, A) Q := by
  have hTl := MT_len hM
  have hsi := tv_lt hX
  obtain ⟨hi, ehi, hH⟩ := MT_two hM hX (Or.inr (Or.inl kX))
  obtain ⟨bi, ebi, hbi⟩ := MT_three hM hX kX
  have h13 := hS.2.2.1.2
  have h24 := hS.2.2.2.2.2.1.1
  show mg sc (d + 1) 247 0 [(0, .ref 1482), (1, .int (nI q)), (2, .int (nI si_)), (3, .int 0)] [] (f, A) _
  generalize elv : ([(0, .ref 1482), (1, .int (nI q)), (2, .int (nI si_)), (3, .int 0)] : tm_L) = lv
  have l0 : lv.lookup 0 = some (.ref 1482) := by rw [← elv]; rfl
  have l1 : lv.lookup 1 = some (.int (nI q)) := by rw [← elv]; rfl
  have l2 : lv.lookup 2 = some (.int (nI si_)) := by rw [← elv]; rfl
  have l3 : lv.lookup 3 = some (.int 0) := by rw [← elv]; rfl
  clear elv
  refine m_ald (pc' := 1) cd_Mo_tells rfl (Or.inr ⟨_, rfl, rfl, rfl⟩) l0 rfl rfl ?_
  refine m_fR (r := 2) (a := 3) (ad := 1485) (pc' := 4) rfl rfl cd_Mo_tells rfl rfl rfl rfl rfl ?_
  refine m_ild (pc' := 5) cd_Mo_tells rfl (Or.inr ⟨_, rfl, rfl, rfl⟩) l2 rfl ?_
  refine m_aI (r := 2) (a := 3) (g := (A 3)) (x := nI hi) (pc' := 6) rfl rfl cd_Mo_tells rfl rfl rfl (vp_in_nI (by omega) (by decide)) ((congrArg (A 3) (nI_clamp (by omega))).trans ehi) ?_
  refine m_ist (pc' := 8) cd_Mo_tells rfl (Or.inl ⟨rfl, rfl⟩) (by decide) rfl (fun lv el => ?_)
  have l0 := tm_lk el l0 rfl (by decide)
  have l1 := tm_lk el l1 rfl (by decide)
  have l2 := tm_lk el l2 rfl (by decide)
  have l3 := tm_lk el l3 rfl (by decide)
  have l4 : lv.lookup 4 = some (.int (nI hi)) := tm_lks el
  clear el
  refine m_ald (pc' := 9) cd_Mo_tells rfl (Or.inr ⟨_, rfl, rfl, rfl⟩) l0 rfl rfl ?_
  refine m_ald (pc' := 10) cd_Mo_tells rfl (Or.inr ⟨_, rfl, rfl, rfl⟩) l0 rfl rfl ?_
  refine m_fR (r := 3) (a := 4) (ad := 1486) (pc' := 13) rfl rfl cd_Mo_tells rfl rfl rfl rfl rfl ?_
  refine m_ild (pc' := 14) cd_Mo_tells rfl (Or.inr ⟨_, rfl, rfl, rfl⟩) l2 rfl ?_
  refine m_aI (r := 3) (a := 4) (g := (A 4)) (x := nI bi) (pc' := 15) rfl rfl cd_Mo_tells rfl rfl rfl (vp_in_nI (by omega) (by decide)) ((congrArg (A 4) (nI_clamp (by omega))).trans ebi) ?_
  refine m_k1 (v := 4) (pc' := 16) cd_Mo_tells rfl (by decide) rfl ?_
  refine m_ci (pc' := 19) cd_Mo_tells rfl rfl rfl rfl rfl cd_Mo_cell rfl (Nat.le_of_ble_eq_true rfl) (m_cellP (k := 0) hM hbi k7b (by decide) (fun ro hro => ?_))
  obtain ⟨yi, rfl, hyi⟩ := hro
  have hyil := tv_lt hyi
  have hkY := MT_kd hM hyi
  show mg _ _ _ 19 _ [.int (nI yi)] _ _
  refine m_ist (pc' := 21) cd_Mo_tells rfl (Or.inl ⟨rfl, rfl⟩) (by decide) rfl (fun lv el => ?_)
  have l0 := tm_lk el l0 rfl (by decide)
  have l1 := tm_lk el l1 rfl (by decide)
  have l2 := tm_lk el l2 rfl (by decide)
  have l3 := tm_lk el l3 rfl (by decide)
  have l4 := tm_lk el l4 rfl (by decide)
  have l5 : lv.lookup 5 = some (.int (nI yi)) := tm_lks el
  clear el
  refine m_ald (pc' := 22) cd_Mo_tells rfl (Or.inr ⟨_, rfl, rfl, rfl⟩) l0 rfl rfl ?_
  refine m_ild (pc' := 24) cd_Mo_tells rfl (Or.inl ⟨rfl, rfl⟩) l4 rfl ?_
  refine m_ild (pc' := 25) cd_Mo_tells rfl (Or.inr ⟨_, rfl, rfl, rfl⟩) l3 rfl ?_
  refine m_if1 (t := 32) (pc' := 28) cd_Mo_tells rfl rfl rfl (fun c25 => ?_) (fun c25 => ?_)
  · have c25 : (0 : Int32) = 0 := c25
    refine m_k1 (v := 0) (pc' := 33) cd_Mo_tells rfl (by decide) rfl ?_
    refine m_ci (pc' := 36) cd_Mo_tells rfl rfl rfl rfl rfl cd_Mo_cell rfl (Nat.le_of_ble_eq_true rfl) (m_cellE (k := 0) hM hH k7h (by decide) ep ?_)
    show mg _ _ _ 36 _ [.int (nI p)] _ _
    refine m_ist (pc' := 38) cd_Mo_tells rfl (Or.inl ⟨rfl, rfl⟩) (by decide) rfl (fun lv el => ?_)
    have l0 := tm_lk el l0 rfl (by decide)
    have l1 := tm_lk el l1 rfl (by decide)
    have l2 := tm_lk el l2 rfl (by decide)
    have l3 := tm_lk el l3 rfl (by decide)
    have l4 := tm_lk el l4 rfl (by decide)
    have l5 := tm_lk el l5 rfl (by decide)
    have l6 : lv.lookup 6 = some (.int (nI p)) := tm_lks el
    clear el
    refine m_ald (pc' := 39) cd_Mo_tells rfl (Or.inr ⟨_, rfl, rfl, rfl⟩) l0 rfl rfl ?_
    refine m_fR (r := 0) (a := 1) (ad := 1483) (pc' := 42) rfl rfl cd_Mo_tells rfl rfl rfl rfl rfl ?_
    refine m_ild (pc' := 44) cd_Mo_tells rfl (Or.inl ⟨rfl, rfl⟩) l5 rfl ?_
    refine m_aI (r := 0) (a := 1) (g := (A 1)) (x := (kd (pt (pt X 2) 0))) (pc' := 45) rfl rfl cd_Mo_tells rfl rfl rfl (vp_in_nI (by omega) (by decide)) ((congrArg (A 1) (nI_clamp (by omega))).trans hkY) ?_
    refine m_k1 (v := 1) (pc' := 46) cd_Mo_tells rfl (by decide) rfl ?_
    refine m_if2 (t := 64) (pc' := 49) cd_Mo_tells rfl rfl rfl (fun c46 => ?_) (fun c46 => ?_)
    · have c46 : ¬ (kd (pt (pt X 2) 0)) = 1 := c46
      exact absurd kY c46
    · have c46 : (kd (pt (pt X 2) 0)) = 1 := Classical.not_not.mp c46
      refine m_ald (pc' := 50) cd_Mo_tells rfl (Or.inr ⟨_, rfl, rfl, rfl⟩) l0 rfl rfl ?_
      refine m_fR (r := 12) (a := 13) (ad := 1495) (pc' := 53) rfl rfl cd_Mo_tells rfl rfl rfl rfl rfl ?_
      refine m_ald (pc' := 54) cd_Mo_tells rfl (Or.inr ⟨_, rfl, rfl, rfl⟩) l0 rfl rfl ?_
      refine m_fR (r := 1) (a := 2) (ad := 1484) (pc' := 57) rfl rfl cd_Mo_tells rfl rfl rfl rfl rfl ?_
      refine m_ild (pc' := 59) cd_Mo_tells rfl (Or.inl ⟨rfl, rfl⟩) l5 rfl ?_
      refine m_aI (r := 1) (a := 2) (g := (A 2)) (x := nI m) (pc' := 60) rfl rfl cd_Mo_tells rfl rfl rfl (vp_in_nI (by omega) (by decide)) ((congrArg (A 2) (nI_clamp (by omega))).trans ((MT_mk hM hyi (Or.inl c46)).trans hmk)) ?_
      refine m_aI (r := 12) (a := 13) (g := (A 13)) (x := nI i) (pc' := 61) rfl rfl cd_Mo_tells rfl rfl rfl (vp_in_nI (by omega) (by decide)) ((congrArg (A 13) (nI_clamp (by omega))).trans ((congrFun h13 _).trans hlo)) ?_
      refine m_pure (pc' := 65) (st' := [.int (nI i)]) cd_Mo_tells rfl rfl (fun _ _ => rfl) ?_
      refine m_ist (pc' := 67) cd_Mo_tells rfl (Or.inl ⟨rfl, rfl⟩) (by decide) rfl (fun lv el => ?_)
      have l0 := tm_lk el l0 rfl (by decide)
      have l1 := tm_lk el l1 rfl (by decide)
      have l2 := tm_lk el l2 rfl (by decide)
      have l3 := tm_lk el l3 rfl (by decide)
      have l4 := tm_lk el l4 rfl (by decide)
      have l5 := tm_lk el l5 rfl (by decide)
      have l6 := tm_lk el l6 rfl (by decide)
      have l7 : lv.lookup 7 = some (.int (nI i)) := tm_lks el
      clear el
      refine m_ald (pc' := 68) cd_Mo_tells rfl (Or.inr ⟨_, rfl, rfl, rfl⟩) l0 rfl rfl ?_
      refine m_fR (r := 23) (a := 24) (ad := 1506) (pc' := 71) rfl rfl cd_Mo_tells rfl rfl rfl rfl rfl ?_
      refine m_ild (pc' := 72) cd_Mo_tells rfl (Or.inr ⟨_, rfl, rfl, rfl⟩) l1 rfl ?_
      refine m_aI (r := 23) (a := 24) (g := (A 24)) (x := (fl q)) (pc' := 73) rfl rfl cd_Mo_tells rfl rfl rfl (vp_in_nI (by omega) (by decide)) ((congrArg (A 24) (nI_clamp (by omega))).trans (congrFun h24 _)) ?_
      refine m_ldcw (pc' := 76) cd_Mo_tells rfl rfl rfl ?_
      refine m_if2 (t := 96) (pc' := 79) cd_Mo_tells rfl rfl rfl (fun c76 => ?_) (fun c76 => ?_)
      · have c76 : ¬ (fl q) = 2147483647 := c76
        refine m_k1 (v := 0) (pc' := 97) cd_Mo_tells rfl (by decide) rfl ?_
        refine m_ist (pc' := 99) cd_Mo_tells rfl (Or.inl ⟨rfl, rfl⟩) (by decide) rfl (fun lv el => ?_)
        have l0 := tm_lk el l0 rfl (by decide)
        have l1 := tm_lk el l1 rfl (by decide)
        have l2 := tm_lk el l2 rfl (by decide)
        have l3 := tm_lk el l3 rfl (by decide)
        have l4 := tm_lk el l4 rfl (by decide)
        have l5 := tm_lk el l5 rfl (by decide)
        have l6 := tm_lk el l6 rfl (by decide)
        have l7 := tm_lk el l7 rfl (by decide)
        have l8 : lv.lookup 8 = some (.int 0) := tm_lks el
        clear el
        have hcl : tl_cl fl q p = false := (by unfold tl_cl; rw [decide_eq_false c76]; rfl)
        rw [hcl] at kk
        exact l_mtl0DS (cl := false) (hi := hi) hM hS hq hp he kk lv l0 l1 l3 l4 l6 l7 l8
      · have c76 : (fl q) = 2147483647 := Classical.not_not.mp c76
        refine m_ald (pc' := 80) cd_Mo_tells rfl (Or.inr ⟨_, rfl, rfl, rfl⟩) l0 rfl rfl ?_
        refine m_fR (r := 23) (a := 24) (ad := 1506) (pc' := 83) rfl rfl cd_Mo_tells rfl rfl rfl rfl rfl ?_
        refine m_ild (pc' := 85) cd_Mo_tells rfl (Or.inl ⟨rfl, rfl⟩) l6 rfl ?_
        refine m_aI (r := 23) (a := 24) (g := (A 24)) (x := (fl p)) (pc' := 86) rfl rfl cd_Mo_tells rfl rfl rfl (vp_in_nI (by omega) (by decide)) ((congrArg (A 24) (nI_clamp (by omega))).trans (congrFun h24 _)) ?_
        refine m_ldcw (pc' := 89) cd_Mo_tells rfl rfl rfl ?_
        refine m_if2 (t := 96) (pc' := 92) cd_Mo_tells rfl rfl rfl (fun c89 => ?_) (fun c89 => ?_)
        · have c89 : ¬ (fl p) = 2147483647 := c89
          refine m_k1 (v := 0) (pc' := 97) cd_Mo_tells rfl (by decide) rfl ?_
          refine m_ist (pc' := 99) cd_Mo_tells rfl (Or.inl ⟨rfl, rfl⟩) (by decide) rfl (fun lv el => ?_)
          have l0 := tm_lk el l0 rfl (by decide)
          have l1 := tm_lk el l1 rfl (by decide)
          have l2 := tm_lk el l2 rfl (by decide)
          have l3 := tm_lk el l3 rfl (by decide)
          have l4 := tm_lk el l4 rfl (by decide)
          have l5 := tm_lk el l5 rfl (by decide)
          have l6 := tm_lk el l6 rfl (by decide)
          have l7 := tm_lk el l7 rfl (by decide)
          have l8 : lv.lookup 8 = some (.int 0) := tm_lks el
          clear el
          have hcl : tl_cl fl q p = false := (by unfold tl_cl; rw [decide_eq_false c89, Bool.and_false])
          rw [hcl] at kk
          exact l_mtl0DS (cl := false) (hi := hi) hM hS hq hp he kk lv l0 l1 l3 l4 l6 l7 l8
        · have c89 : (fl p) = 2147483647 := Classical.not_not.mp c89
          refine m_k1 (v := 1) (pc' := 93) cd_Mo_tells rfl (by decide) rfl ?_
          refine m_pure (pc' := 97) (st' := [.int 1]) cd_Mo_tells rfl rfl (fun _ _ => rfl) ?_
          refine m_ist (pc' := 99) cd_Mo_tells rfl (Or.inl ⟨rfl, rfl⟩) (by decide) rfl (fun lv el => ?_)
          have l0 := tm_lk el l0 rfl (by decide)
          have l1 := tm_lk el l1 rfl (by decide)
          have l2 := tm_lk el l2 rfl (by decide)
          have l3 := tm_lk el l3 rfl (by decide)
          have l4 := tm_lk el l4 rfl (by decide)
          have l5 := tm_lk el l5 rfl (by decide)
          have l6 := tm_lk el l6 rfl (by decide)
          have l7 := tm_lk el l7 rfl (by decide)
          have l8 : lv.lookup 8 = some (.int 1) := tm_lks el
          clear el
          have hcl : tl_cl fl q p = true := (by unfold tl_cl; rw [decide_eq_true c76, decide_eq_true c89]; rfl)
          rw [hcl] at kk
          exact l_mtl0DS (cl := true) (hi := hi) hM hS hq hp he kk lv l0 l1 l3 l4 l6 l7 l8
  · exact absurd (show ¬ (0 : Int32) = 0 from c25) (by decide)
set_option maxRecDepth 100000 in
theorem l_mtl2PN {sc : tm_X} {d : Nat} {f : Nat → Int32} {A : Nat → Nat → Int32} {T : List Tm} {DL : List (Int32 × Int32)} {G Kw : Tm → Prop} {dev : Nat → DV} {sto : Nat → ST} {ws : List (Tm × Int32)} {dir reg : Nat → Tm} {seen : List Tm} {ls : List RL} {lo dt db rt fl ll tl tf tg tm : Nat → Int32} {ck fo du : Int32} {q p hi : Nat} {H : Tm} {oc : Bool} {cl : Bool} {Q : MS → Prop} (hM : MT f A T DL G Kw) (hS : RS f A T DL dev sto ws dir reg seen ls lo (dt, db, rt, fl, ll, tl, tf, tg, tm, ck, fo, du)) (hq : q < 6) (hp : p < 6) (hH : T[hi]? = some H) (k7 : kd H = 7) (h21 : A 44 21 = bz oc) (kk : ∀ f1 A1, MT f1 A1 T DL G Kw → f1 16 = f 16 → RS f1 A1 T DL dev sto ws dir reg seen ls lo (dt, db, rt, fl, ll, (upd tl q (-1)), (upd tf q (nI p)), (upd tg q (nu H 0)), (upd tm q (tm q + 1)), ck, fo, du) → Q (f1, A1)) : ∀ lv : tm_L, lv.lookup 0 = some (.ref 1482) → lv.lookup 1 = some (.int (nI q)) → lv.lookup 3 = some (.int 1) → lv.lookup 4 = some (.int (nI hi)) → lv.lookup 6 = some (.int (nI p)) → lv.lookup 7 = some (.int (-1)) → lv.lookup 8 = some (.int (bz cl)) → mg sc (d + 1) 247 172 lv [] (f, A) (fun r s' => r = none ∧ Q s') := by
  intro lv l0 l1 l3 l4 l6 l7 l8
  have h10 := hS.2.2.1.1
  have h24 := hS.2.2.2.2.2.1.1
  have h21c := hS.2.2.2.1.2.1
  have h53 := hS.2.2.2.1.2.2.1
  have h54 := hS.2.2.2.1.2.2.2
  have h39 := hS.2.2.2.2.2.2.1
  have h40 := hS.2.2.2.2.2.2.2.1
  have h41 := hS.2.2.2.2.2.2.2.2.1
  have h42 := hS.2.2.2.2.2.2.2.2.2
  refine m_ild (pc' := 174) cd_Mo_tells rfl (Or.inl ⟨rfl, rfl⟩) l8 rfl ?_
  refine m_if1 (t := 211) (pc' := 177) cd_Mo_tells rfl rfl rfl (fun c174 => ?_) (fun c174 => ?_)
  · have c174 : cl = false := bz_f c174
    refine m_ild (pc' := 213) cd_Mo_tells rfl (Or.inl ⟨rfl, rfl⟩) l7 rfl ?_
    refine m_k1 (v := (-1)) (pc' := 214) cd_Mo_tells rfl (by decide) rfl ?_
    refine m_if2 (t := 279) (pc' := 217) cd_Mo_tells rfl rfl rfl (fun c214 => ?_) (fun c214 => ?_)
    · have c214 : ((-1) : Int32) = (-1) := c214
      refine m_ald (pc' := 280) cd_Mo_tells rfl (Or.inr ⟨_, rfl, rfl, rfl⟩) l0 rfl rfl ?_
      refine m_fR (r := 38) (a := 39) (ad := 1521) (pc' := 283) rfl rfl cd_Mo_tells rfl rfl rfl rfl rfl ?_
      refine m_ild (pc' := 284) cd_Mo_tells rfl (Or.inr ⟨_, rfl, rfl, rfl⟩) l1 rfl ?_
      refine m_ild (pc' := 286) cd_Mo_tells rfl (Or.inl ⟨rfl, rfl⟩) l7 rfl ?_
      refine m_aS (r := 38) (a := 39) (g := (A 39)) (p := q) (pc' := 287) rfl rfl cd_Mo_tells rfl rfl rfl (vp_in_nI (by omega) (by decide)) (nI_clamp (by omega)) ?_
      refine m_ald (pc' := 288) cd_Mo_tells rfl (Or.inr ⟨_, rfl, rfl, rfl⟩) l0 rfl rfl ?_
      refine m_fR (r := 39) (a := 40) (ad := 1522) (pc' := 291) rfl rfl cd_Mo_tells rfl rfl rfl rfl rfl ?_
      refine m_ild (pc' := 292) cd_Mo_tells rfl (Or.inr ⟨_, rfl, rfl, rfl⟩) l1 rfl ?_
      refine m_ild (pc' := 294) cd_Mo_tells rfl (Or.inl ⟨rfl, rfl⟩) l6 rfl ?_
      refine m_aS (r := 39) (a := 40) (g := (A 40)) (p := q) (pc' := 295) rfl rfl cd_Mo_tells rfl rfl rfl (vp_in_nI (by omega) (by decide)) (nI_clamp (by omega)) ?_
      refine m_ald (pc' := 296) cd_Mo_tells rfl (Or.inr ⟨_, rfl, rfl, rfl⟩) l0 rfl rfl ?_
      refine m_fR (r := 40) (a := 41) (ad := 1523) (pc' := 299) rfl rfl cd_Mo_tells rfl rfl rfl rfl rfl ?_
      refine m_ild (pc' := 300) cd_Mo_tells rfl (Or.inr ⟨_, rfl, rfl, rfl⟩) l1 rfl ?_
      refine m_ild (pc' := 301) cd_Mo_tells rfl (Or.inr ⟨_, rfl, rfl, rfl⟩) l3 rfl ?_
      refine m_if1 (t := 314) (pc' := 304) cd_Mo_tells rfl rfl rfl (fun c301 => ?_) (fun c301 => ?_)
      · exact absurd (show (1 : Int32) = 0 from c301) (by decide)
      · have c301 : ¬ (1 : Int32) = 0 := c301
        refine m_ald (pc' := 305) cd_Mo_tells rfl (Or.inr ⟨_, rfl, rfl, rfl⟩) l0 rfl rfl ?_
        refine m_ild (pc' := 307) cd_Mo_tells rfl (Or.inl ⟨rfl, rfl⟩) l4 rfl ?_
        refine m_k1 (v := 0) (pc' := 308) cd_Mo_tells rfl (by decide) rfl ?_
        refine m_ci (pc' := 311) cd_Mo_tells rfl rfl rfl rfl rfl cd_Mo_cell rfl (Nat.le_of_ble_eq_true rfl) (m_cellN (k := 0) (by exact MT_i hM rfl rfl rfl rfl rfl rfl rfl rfl rfl rfl) hH k7 (by decide) ?_)
        show mg _ _ _ 311 _ [.int (nu H 0), .int (nI q), .ref 1523] _ _
        refine m_pure (pc' := 315) (st' := [.int (nu H 0), .int (nI q), .ref 1523]) cd_Mo_tells rfl rfl (fun _ _ => rfl) ?_
        refine m_aS (r := 40) (a := 41) (g := (A 41)) (p := q) (pc' := 316) rfl rfl cd_Mo_tells rfl rfl rfl (vp_in_nI (by omega) (by decide)) (nI_clamp (by omega)) ?_
        refine m_ald (pc' := 317) cd_Mo_tells rfl (Or.inr ⟨_, rfl, rfl, rfl⟩) l0 rfl rfl ?_
        refine m_fR (r := 41) (a := 42) (ad := 1524) (pc' := 320) rfl rfl cd_Mo_tells rfl rfl rfl rfl rfl ?_
        refine m_ild (pc' := 321) cd_Mo_tells rfl (Or.inr ⟨_, rfl, rfl, rfl⟩) l1 rfl ?_
        refine m_pure (pc' := 322) (st' := [.int (nI q), .ref 1524, .int (nI q), .ref 1524]) cd_Mo_tells rfl rfl (fun _ _ => rfl) ?_
        refine m_aI (r := 41) (a := 42) (g := (A 42)) (x := (tm q)) (pc' := 323) rfl rfl cd_Mo_tells rfl rfl rfl (vp_in_nI (by omega) (by decide)) ((congrArg (A 42) (nI_clamp (by omega))).trans (congrFun h42 _)) ?_
        refine m_k1 (v := 1) (pc' := 324) cd_Mo_tells rfl (by decide) rfl ?_
        refine m_pure (pc' := 325) (st' := [.int ((tm q) + 1), .int (nI q), .ref 1524]) cd_Mo_tells rfl rfl (fun _ _ => rfl) ?_
        refine m_aS (r := 41) (a := 42) (g := (A 42)) (p := q) (pc' := 326) rfl rfl cd_Mo_tells rfl rfl rfl (vp_in_nI (by omega) (by decide)) (nI_clamp (by omega)) ?_
        exact m_retv cd_Mo_tells rfl ⟨rfl, (kk _ _ (by exact MT_i hM rfl rfl rfl rfl rfl rfl rfl rfl rfl rfl) rfl (RS_t hS ⟨rfl, rfl, rfl, rfl⟩ ⟨rfl, rfl, rfl, rfl, rfl, rfl, rfl, rfl, rfl, rfl, rfl, rfl, rfl, rfl, rfl, rfl, rfl, rfl, rfl⟩ (qLs_same h10 rfl (fun j j1 j2 => (fset_ne (by omega)).trans ((fset_ne (by omega)).trans ((fset_ne (by omega)).trans (fset_ne (by omega)))))) h53 h54 (congrArg (fun g => upd g q _) h39) (congrArg (fun g => upd g q _) h40) (congrArg (fun g => upd g q _) h41) (congrArg (fun g => upd g q _) h42)))⟩
    · exact absurd (show ¬ ((-1) : Int32) = (-1) from c214) (by decide)
  · have c174 : cl = true := bz_t c174
    refine m_ild (pc' := 179) cd_Mo_tells rfl (Or.inl ⟨rfl, rfl⟩) l7 rfl ?_
    refine m_k1 (v := (-1)) (pc' := 180) cd_Mo_tells rfl (by decide) rfl ?_
    refine m_if2 (t := 211) (pc' := 183) cd_Mo_tells rfl rfl rfl (fun c180 => ?_) (fun c180 => ?_)
    · have c180 : ((-1) : Int32) = (-1) := c180
      refine m_ild (pc' := 213) cd_Mo_tells rfl (Or.inl ⟨rfl, rfl⟩) l7 rfl ?_
      refine m_k1 (v := (-1)) (pc' := 214) cd_Mo_tells rfl (by decide) rfl ?_
      refine m_if2 (t := 279) (pc' := 217) cd_Mo_tells rfl rfl rfl (fun c214 => ?_) (fun c214 => ?_)
      · have c214 : ((-1) : Int32) = (-1) := c214
        refine m_ald (pc' := 280) cd_Mo_tells rfl (Or.inr ⟨_, rfl, rfl, rfl⟩) l0 rfl rfl ?_
        refine m_fR (r := 38) (a := 39) (ad := 1521) (pc' := 283) rfl rfl cd_Mo_tells rfl rfl rfl rfl rfl ?_
        refine m_ild (pc' := 284) cd_Mo_tells rfl (Or.inr ⟨_, rfl, rfl, rfl⟩) l1 rfl ?_
        refine m_ild (pc' := 286) cd_Mo_tells rfl (Or.inl ⟨rfl, rfl⟩) l7 rfl ?_
        refine m_aS (r := 38) (a := 39) (g := (A 39)) (p := q) (pc' := 287) rfl rfl cd_Mo_tells rfl rfl rfl (vp_in_nI (by omega) (by decide)) (nI_clamp (by omega)) ?_
        refine m_ald (pc' := 288) cd_Mo_tells rfl (Or.inr ⟨_, rfl, rfl, rfl⟩) l0 rfl rfl ?_
        refine m_fR (r := 39) (a := 40) (ad := 1522) (pc' := 291) rfl rfl cd_Mo_tells rfl rfl rfl rfl rfl ?_
        refine m_ild (pc' := 292) cd_Mo_tells rfl (Or.inr ⟨_, rfl, rfl, rfl⟩) l1 rfl ?_
        refine m_ild (pc' := 294) cd_Mo_tells rfl (Or.inl ⟨rfl, rfl⟩) l6 rfl ?_
        refine m_aS (r := 39) (a := 40) (g := (A 40)) (p := q) (pc' := 295) rfl rfl cd_Mo_tells rfl rfl rfl (vp_in_nI (by omega) (by decide)) (nI_clamp (by omega)) ?_
        refine m_ald (pc' := 296) cd_Mo_tells rfl (Or.inr ⟨_, rfl, rfl, rfl⟩) l0 rfl rfl ?_
        refine m_fR (r := 40) (a := 41) (ad := 1523) (pc' := 299) rfl rfl cd_Mo_tells rfl rfl rfl rfl rfl ?_
        refine m_ild (pc' := 300) cd_Mo_tells rfl (Or.inr ⟨_, rfl, rfl, rfl⟩) l1 rfl ?_
        refine m_ild (pc' := 301) cd_Mo_tells rfl (Or.inr ⟨_, rfl, rfl, rfl⟩) l3 rfl ?_
        refine m_if1 (t := 314) (pc' := 304) cd_Mo_tells rfl rfl rfl (fun c301 => ?_) (fun c301 => ?_)
        · exact absurd (show (1 : Int32) = 0 from c301) (by decide)
        · have c301 : ¬ (1 : Int32) = 0 := c301
          refine m_ald (pc' := 305) cd_Mo_tells rfl (Or.inr ⟨_, rfl, rfl, rfl⟩) l0 rfl rfl ?_
          refine m_ild (pc' := 307) cd_Mo_tells rfl (Or.inl ⟨rfl, rfl⟩) l4 rfl ?_
          refine m_k1 (v := 0) (pc' := 308) cd_Mo_tells rfl (by decide) rfl ?_
          refine m_ci (pc' := 311) cd_Mo_tells rfl rfl rfl rfl rfl cd_Mo_cell rfl (Nat.le_of_ble_eq_true rfl) (m_cellN (k := 0) (by exact MT_i hM rfl rfl rfl rfl rfl rfl rfl rfl rfl rfl) hH k7 (by decide) ?_)
          show mg _ _ _ 311 _ [.int (nu H 0), .int (nI q), .ref 1523] _ _
          refine m_pure (pc' := 315) (st' := [.int (nu H 0), .int (nI q), .ref 1523]) cd_Mo_tells rfl rfl (fun _ _ => rfl) ?_
          refine m_aS (r := 40) (a := 41) (g := (A 41)) (p := q) (pc' := 316) rfl rfl cd_Mo_tells rfl rfl rfl (vp_in_nI (by omega) (by decide)) (nI_clamp (by omega)) ?_
          refine m_ald (pc' := 317) cd_Mo_tells rfl (Or.inr ⟨_, rfl, rfl, rfl⟩) l0 rfl rfl ?_
          refine m_fR (r := 41) (a := 42) (ad := 1524) (pc' := 320) rfl rfl cd_Mo_tells rfl rfl rfl rfl rfl ?_
          refine m_ild (pc' := 321) cd_Mo_tells rfl (Or.inr ⟨_, rfl, rfl, rfl⟩) l1 rfl ?_
          refine m_pure (pc' := 322) (st' := [.int (nI q), .ref 1524, .int (nI q), .ref 1524]) cd_Mo_tells rfl rfl (fun _ _ => rfl) ?_
          refine m_aI (r := 41) (a := 42) (g := (A 42)) (x := (tm q)) (pc' := 323) rfl rfl cd_Mo_tells rfl rfl rfl (vp_in_nI (by omega) (by decide)) ((congrArg (A 42) (nI_clamp (by omega))).trans (congrFun h42 _)) ?_
          refine m_k1 (v := 1) (pc' := 324) cd_Mo_tells rfl (by decide) rfl ?_
          refine m_pure (pc' := 325) (st' := [.int ((tm q) + 1), .int (nI q), .ref 1524]) cd_Mo_tells rfl rfl (fun _ _ => rfl) ?_
          refine m_aS (r := 41) (a := 42) (g := (A 42)) (p := q) (pc' := 326) rfl rfl cd_Mo_tells rfl rfl rfl (vp_in_nI (by omega) (by decide)) (nI_clamp (by omega)) ?_
          exact m_retv cd_Mo_tells rfl ⟨rfl, (kk _ _ (by exact MT_i hM rfl rfl rfl rfl rfl rfl rfl rfl rfl rfl) rfl (RS_t hS ⟨rfl, rfl, rfl, rfl⟩ ⟨rfl, rfl, rfl, rfl, rfl, rfl, rfl, rfl, rfl, rfl, rfl, rfl, rfl, rfl, rfl, rfl, rfl, rfl, rfl⟩ (qLs_same h10 rfl (fun j j1 j2 => (fset_ne (by omega)).trans ((fset_ne (by omega)).trans ((fset_ne (by omega)).trans (fset_ne (by omega)))))) h53 h54 (congrArg (fun g => upd g q _) h39) (congrArg (fun g => upd g q _) h40) (congrArg (fun g => upd g q _) h41) (congrArg (fun g => upd g q _) h42)))⟩
      · exact absurd (show ¬ ((-1) : Int32) = (-1) from c214) (by decide)
    · exact absurd (show ¬ ((-1) : Int32) = (-1) from c180) (by decide)
set_option maxRecDepth 100000 in
theorem l_mtl1PN {sc : tm_X} {d : Nat} {f : Nat → Int32} {A : Nat → Nat → Int32} {T : List Tm} {DL : List (Int32 × Int32)} {G Kw : Tm → Prop} {dev : Nat → DV} {sto : Nat → ST} {ws : List (Tm × Int32)} {dir reg : Nat → Tm} {seen : List Tm} {ls : List RL} {lo dt db rt fl ll tl tf tg tm : Nat → Int32} {ck fo du : Int32} {q p hi : Nat} {H : Tm} {oc : Bool} {cl : Bool} {Q : MS → Prop} (hM : MT f A T DL G Kw) (hS : RS f A T DL dev sto ws dir reg seen ls lo (dt, db, rt, fl, ll, tl, tf, tg, tm, ck, fo, du)) (hq : q < 6) (hp : p < 6) (hH : T[hi]? = some H) (k7 : kd H = 7) (h21 : A 44 21 = bz oc) (kk : ∀ f1 A1, MT f1 A1 T DL G Kw → f1 16 = f 16 → RS f1 A1 T DL dev sto ws dir reg seen ls lo (dt, db, rt, fl, ll, (upd tl q (-1)), (upd tf q (nI p)), (upd tg q (nu H 0)), (upd tm q (tm q + 1)), ck, (if cl = true then fo + 1 else fo), du) → Q (f1, A1)) : ∀ lv : tm_L, lv.lookup 0 = some (.ref 1482) → lv.lookup 1 = some (.int (nI q)) → lv.lookup 3 = some (.int 1) → lv.lookup 4 = some (.int (nI hi)) → lv.lookup 6 = some (.int (nI p)) → lv.lookup 7 = some (.int (-1)) → lv.lookup 8 = some (.int (bz cl)) → lv.lookup 9 = some (.int 0) → mg sc (d + 1) 247 152 lv [] (f, A) (fun r s' => r = none ∧ Q s') := by
  intro lv l0 l1 l3 l4 l6 l7 l8 l9
  have h10 := hS.2.2.1.1
  have h24 := hS.2.2.2.2.2.1.1
  have h21c := hS.2.2.2.1.2.1
  have h53 := hS.2.2.2.1.2.2.1
  have h54 := hS.2.2.2.1.2.2.2
  have h39 := hS.2.2.2.2.2.2.1
  have h40 := hS.2.2.2.2.2.2.2.1
  have h41 := hS.2.2.2.2.2.2.2.2.1
  have h42 := hS.2.2.2.2.2.2.2.2.2
  refine m_ild (pc' := 154) cd_Mo_tells rfl (Or.inl ⟨rfl, rfl⟩) l8 rfl ?_
  refine m_if1 (t := 172) (pc' := 157) cd_Mo_tells rfl rfl rfl (fun c154 => ?_) (fun c154 => ?_)
  · have c154 : cl = false := bz_f c154
    rw [if_neg (fun q => Bool.noConfusion (c154.symm.trans q))] at kk
    exact l_mtl2PN hM hS hq hp hH k7 h21 kk lv l0 l1 l3 l4 l6 l7 l8
  · have c154 : cl = true := bz_t c154
    refine m_ild (pc' := 159) cd_Mo_tells rfl (Or.inl ⟨rfl, rfl⟩) l9 rfl ?_
    refine m_if1 (t := 172) (pc' := 162) cd_Mo_tells rfl rfl rfl (fun c159 => ?_) (fun c159 => ?_)
    · exact absurd (show ¬ (0 : Int32) = 0 from c159) (by decide)
    · have c159 : (0 : Int32) = 0 := Classical.not_not.mp c159
      refine m_ald (pc' := 163) cd_Mo_tells rfl (Or.inr ⟨_, rfl, rfl, rfl⟩) l0 rfl rfl ?_
      refine m_pure (pc' := 164) (st' := [.ref 1482, .ref 1482]) cd_Mo_tells rfl rfl (fun _ _ => rfl) ?_
      refine m_fI (k := 53) (x := fo) (pc' := 167) cd_Mo_tells rfl rfl rfl rfl rfl h53 ?_
      refine m_k1 (v := 1) (pc' := 168) cd_Mo_tells rfl (by decide) rfl ?_
      refine m_pure (pc' := 169) (st' := [.int (fo + 1), .ref 1482]) cd_Mo_tells rfl rfl (fun _ _ => rfl) ?_
      refine m_pI (k := 53) (pc' := 172) cd_Mo_tells rfl rfl rfl rfl (by simp [tm_okV, narrow, fits]) rfl rfl ?_
      rw [if_pos c154] at kk
      refine l_mtl2PN (f := fset f 53 (fo + 1)) (A := A) (fo := fo + 1) (by exact MT_i hM rfl rfl rfl rfl rfl rfl rfl rfl rfl rfl) (RS_t hS ⟨rfl, rfl, rfl, rfl⟩ ⟨rfl, rfl, rfl, rfl, rfl, rfl, rfl, rfl, rfl, rfl, rfl, rfl, rfl, rfl, rfl, rfl, rfl, rfl, rfl⟩ h10 rfl h54 h39 h40 h41 h42) hq hp hH k7 h21 (fun f1 A1 q1 q2 q3 => kk f1 A1 q1 q2 q3) lv l0 l1 l3 l4 l6 l7 l8
set_option maxRecDepth 100000 in
theorem l_mtl0PN {sc : tm_X} {d : Nat} {f : Nat → Int32} {A : Nat → Nat → Int32} {T : List Tm} {DL : List (Int32 × Int32)} {G Kw : Tm → Prop} {dev : Nat → DV} {sto : Nat → ST} {ws : List (Tm × Int32)} {dir reg : Nat → Tm} {seen : List Tm} {ls : List RL} {lo dt db rt fl ll tl tf tg tm : Nat → Int32} {ck fo du : Int32} {q p hi : Nat} {H : Tm} {oc : Bool} {cl : Bool} {Q : MS → Prop} (hM : MT f A T DL G Kw) (hS : RS f A T DL dev sto ws dir reg seen ls lo (dt, db, rt, fl, ll, tl, tf, tg, tm, ck, fo, du)) (hq : q < 6) (hp : p < 6) (hH : T[hi]? = some H) (k7 : kd H = 7) (h21 : A 44 21 = bz oc) (kk : ∀ f1 A1, MT f1 A1 T DL G Kw → f1 16 = f 16 → RS f1 A1 T DL dev sto ws dir reg seen ls lo (dt, db, rt, fl, ll, (upd tl q (-1)), (upd tf q (nI p)), (upd tg q (nu H 0)), (upd tm q (tm q + 1)), ck, (if cl = true then fo + 1 else fo), du) → Q (f1, A1)) : ∀ lv : tm_L, lv.lookup 0 = some (.ref 1482) → lv.lookup 1 = some (.int (nI q)) → lv.lookup 3 = some (.int 1) → lv.lookup 4 = some (.int (nI hi)) → lv.lookup 6 = some (.int (nI p)) → lv.lookup 7 = some (.int (-1)) → lv.lookup 8 = some (.int (bz cl)) → mg sc (d + 1) 247 99 lv [] (f, A) (fun r s' => r = none ∧ Q s') := by
  intro lv l0 l1 l3 l4 l6 l7 l8
  have h10 := hS.2.2.1.1
  have h24 := hS.2.2.2.2.2.1.1
  have h21c := hS.2.2.2.1.2.1
  have h53 := hS.2.2.2.1.2.2.1
  have h54 := hS.2.2.2.1.2.2.2
  have h39 := hS.2.2.2.2.2.2.1
  have h40 := hS.2.2.2.2.2.2.2.1
  have h41 := hS.2.2.2.2.2.2.2.2.1
  have h42 := hS.2.2.2.2.2.2.2.2.2
  refine m_ild (pc' := 101) cd_Mo_tells rfl (Or.inl ⟨rfl, rfl⟩) l7 rfl ?_
  refine m_k1 (v := (-1)) (pc' := 102) cd_Mo_tells rfl (by decide) rfl ?_
  refine m_if2 (t := 149) (pc' := 105) cd_Mo_tells rfl rfl rfl (fun c102 => ?_) (fun c102 => ?_)
  · have c102 : ((-1) : Int32) = (-1) := c102
    refine m_k1 (v := 0) (pc' := 150) cd_Mo_tells rfl (by decide) rfl ?_
    refine m_ist (pc' := 152) cd_Mo_tells rfl (Or.inl ⟨rfl, rfl⟩) (by decide) rfl (fun lv el => ?_)
    have l0 := tm_lk el l0 rfl (by decide)
    have l1 := tm_lk el l1 rfl (by decide)
    have l3 := tm_lk el l3 rfl (by decide)
    have l4 := tm_lk el l4 rfl (by decide)
    have l6 := tm_lk el l6 rfl (by decide)
    have l7 := tm_lk el l7 rfl (by decide)
    have l8 := tm_lk el l8 rfl (by decide)
    have l9 : lv.lookup 9 = some (.int 0) := tm_lks el
    clear el
    exact l_mtl1PN hM hS hq hp hH k7 h21 kk lv l0 l1 l3 l4 l6 l7 l8 l9
  · exact absurd (show ¬ ((-1) : Int32) = (-1) from c102) (by decide)
set_option maxRecDepth 100000 in
theorem m_tellsPN {sc : tm_X} {d : Nat} {f : Nat → Int32} {A : Nat → Nat → Int32} {T : List Tm} {DL : List (Int32 × Int32)} {G Kw : Tm → Prop} {dev : Nat → DV} {sto : Nat → ST} {ws : List (Tm × Int32)} {dir reg : Nat → Tm} {seen : List Tm} {ls : List RL} {lo dt db rt fl ll tl tf tg tm : Nat → Int32} {ck fo du : Int32} {q p si_ : Nat} {X : Tm} {oc : Bool} {Q : MS → Prop} (hM : MT f A T DL G Kw) (hS : RS f A T DL dev sto ws dir reg seen ls lo (dt, db, rt, fl, ll, tl, tf, tg, tm, ck, fo, du)) (hq : q < 6) (hp : p < 6) (hX : T[si_]? = some X) (kX : kd X = 5) (k7h : kd (pt X 1) = 7) (k7b : kd (pt X 2) = 7) (ep : nu (pt X 1) 1 = nI p) (hln : kd (pt (pt X 2) 0) = 1 → ∃ m, mk (pt (pt X 2) 0) = nI m ∧ m < 3000 ∧ lo m = -1) (h21 : A 44 21 = bz oc) (kk : ∀ f1 A1, MT f1 A1 T DL G Kw → f1 16 = f 16 → RS f1 A1 T DL dev sto ws dir reg seen ls lo (dt, db, rt, fl, ll, (upd tl q (-1)), (upd tf q (nI p)), (upd tg q (nu (pt X 1) 0)), (upd tm q (tm q + 1)), ck, (if tl_cl fl q p = true then fo + 1 else fo), du) → Q (f1, A1)) : mGv sc (d + 1) 247 [.ref 1482, .int (nI q), .int (nI si_), .int 1] (f, A) Q := by
  have hTl := MT_len hM
  have hsi := tv_lt hX
  obtain ⟨hi, ehi, hH⟩ := MT_two hM hX (Or.inr (Or.inl kX))
  obtain ⟨bi, ebi, hbi⟩ := MT_three hM hX kX
  have h13 := hS.2.2.1.2
  have h24 := hS.2.2.2.2.2.1.1
  show mg sc (d + 1) 247 0 [(0, .ref 1482), (1, .int (nI q)), (2, .int (nI si_)), (3, .int 1)] [] (f, A) _
  generalize elv : ([(0, .ref 1482), (1, .int (nI q)), (2, .int (nI si_)), (3, .int 1)] : tm_L) = lv
  have l0 : lv.lookup 0 = some (.ref 1482) := by rw [← elv]; rfl
  have l1 : lv.lookup 1 = some (.int (nI q)) := by rw [← elv]; rfl
  have l2 : lv.lookup 2 = some (.int (nI si_)) := by rw [← elv]; rfl
  have l3 : lv.lookup 3 = some (.int 1) := by rw [← elv]; rfl
  clear elv
  refine m_ald (pc' := 1) cd_Mo_tells rfl (Or.inr ⟨_, rfl, rfl, rfl⟩) l0 rfl rfl ?_
  refine m_fR (r := 2) (a := 3) (ad := 1485) (pc' := 4) rfl rfl cd_Mo_tells rfl rfl rfl rfl rfl ?_
  refine m_ild (pc' := 5) cd_Mo_tells rfl (Or.inr ⟨_, rfl, rfl, rfl⟩) l2 rfl ?_
  refine m_aI (r := 2) (a := 3) (g := (A 3)) (x := nI hi) (pc' := 6) rfl rfl cd_Mo_tells rfl rfl rfl (vp_in_nI (by omega) (by decide)) ((congrArg (A 3) (nI_clamp (by omega))).trans ehi) ?_
  refine m_ist (pc' := 8) cd_Mo_tells rfl (Or.inl ⟨rfl, rfl⟩) (by decide) rfl (fun lv el => ?_)
  have l0 := tm_lk el l0 rfl (by decide)
  have l1 := tm_lk el l1 rfl (by decide)
  have l2 := tm_lk el l2 rfl (by decide)
  have l3 := tm_lk el l3 rfl (by decide)
  have l4 : lv.lookup 4 = some (.int (nI hi)) := tm_lks el
  clear el
  refine m_ald (pc' := 9) cd_Mo_tells rfl (Or.inr ⟨_, rfl, rfl, rfl⟩) l0 rfl rfl ?_
  refine m_ald (pc' := 10) cd_Mo_tells rfl (Or.inr ⟨_, rfl, rfl, rfl⟩) l0 rfl rfl ?_
  refine m_fR (r := 3) (a := 4) (ad := 1486) (pc' := 13) rfl rfl cd_Mo_tells rfl rfl rfl rfl rfl ?_
  refine m_ild (pc' := 14) cd_Mo_tells rfl (Or.inr ⟨_, rfl, rfl, rfl⟩) l2 rfl ?_
  refine m_aI (r := 3) (a := 4) (g := (A 4)) (x := nI bi) (pc' := 15) rfl rfl cd_Mo_tells rfl rfl rfl (vp_in_nI (by omega) (by decide)) ((congrArg (A 4) (nI_clamp (by omega))).trans ebi) ?_
  refine m_k1 (v := 4) (pc' := 16) cd_Mo_tells rfl (by decide) rfl ?_
  refine m_ci (pc' := 19) cd_Mo_tells rfl rfl rfl rfl rfl cd_Mo_cell rfl (Nat.le_of_ble_eq_true rfl) (m_cellP (k := 0) hM hbi k7b (by decide) (fun ro hro => ?_))
  obtain ⟨yi, rfl, hyi⟩ := hro
  have hyil := tv_lt hyi
  have hkY := MT_kd hM hyi
  show mg _ _ _ 19 _ [.int (nI yi)] _ _
  refine m_ist (pc' := 21) cd_Mo_tells rfl (Or.inl ⟨rfl, rfl⟩) (by decide) rfl (fun lv el => ?_)
  have l0 := tm_lk el l0 rfl (by decide)
  have l1 := tm_lk el l1 rfl (by decide)
  have l2 := tm_lk el l2 rfl (by decide)
  have l3 := tm_lk el l3 rfl (by decide)
  have l4 := tm_lk el l4 rfl (by decide)
  have l5 : lv.lookup 5 = some (.int (nI yi)) := tm_lks el
  clear el
  refine m_ald (pc' := 22) cd_Mo_tells rfl (Or.inr ⟨_, rfl, rfl, rfl⟩) l0 rfl rfl ?_
  refine m_ild (pc' := 24) cd_Mo_tells rfl (Or.inl ⟨rfl, rfl⟩) l4 rfl ?_
  refine m_ild (pc' := 25) cd_Mo_tells rfl (Or.inr ⟨_, rfl, rfl, rfl⟩) l3 rfl ?_
  refine m_if1 (t := 32) (pc' := 28) cd_Mo_tells rfl rfl rfl (fun c25 => ?_) (fun c25 => ?_)
  · exact absurd (show (1 : Int32) = 0 from c25) (by decide)
  · have c25 : ¬ (1 : Int32) = 0 := c25
    refine m_k1 (v := 1) (pc' := 29) cd_Mo_tells rfl (by decide) rfl ?_
    refine m_pure (pc' := 33) (st' := [.int 1, .int (nI hi), .ref 1482]) cd_Mo_tells rfl rfl (fun _ _ => rfl) ?_
    refine m_ci (pc' := 36) cd_Mo_tells rfl rfl rfl rfl rfl cd_Mo_cell rfl (Nat.le_of_ble_eq_true rfl) (m_cellE (k := 1) hM hH k7h (by decide) ep ?_)
    show mg _ _ _ 36 _ [.int (nI p)] _ _
    refine m_ist (pc' := 38) cd_Mo_tells rfl (Or.inl ⟨rfl, rfl⟩) (by decide) rfl (fun lv el => ?_)
    have l0 := tm_lk el l0 rfl (by decide)
    have l1 := tm_lk el l1 rfl (by decide)
    have l2 := tm_lk el l2 rfl (by decide)
    have l3 := tm_lk el l3 rfl (by decide)
    have l4 := tm_lk el l4 rfl (by decide)
    have l5 := tm_lk el l5 rfl (by decide)
    have l6 : lv.lookup 6 = some (.int (nI p)) := tm_lks el
    clear el
    refine m_ald (pc' := 39) cd_Mo_tells rfl (Or.inr ⟨_, rfl, rfl, rfl⟩) l0 rfl rfl ?_
    refine m_fR (r := 0) (a := 1) (ad := 1483) (pc' := 42) rfl rfl cd_Mo_tells rfl rfl rfl rfl rfl ?_
    refine m_ild (pc' := 44) cd_Mo_tells rfl (Or.inl ⟨rfl, rfl⟩) l5 rfl ?_
    refine m_aI (r := 0) (a := 1) (g := (A 1)) (x := (kd (pt (pt X 2) 0))) (pc' := 45) rfl rfl cd_Mo_tells rfl rfl rfl (vp_in_nI (by omega) (by decide)) ((congrArg (A 1) (nI_clamp (by omega))).trans hkY) ?_
    refine m_k1 (v := 1) (pc' := 46) cd_Mo_tells rfl (by decide) rfl ?_
    refine m_if2 (t := 64) (pc' := 49) cd_Mo_tells rfl rfl rfl (fun c46 => ?_) (fun c46 => ?_)
    · have c46 : ¬ (kd (pt (pt X 2) 0)) = 1 := c46
      refine m_k1 (v := (-1)) (pc' := 65) cd_Mo_tells rfl (by decide) rfl ?_
      refine m_ist (pc' := 67) cd_Mo_tells rfl (Or.inl ⟨rfl, rfl⟩) (by decide) rfl (fun lv el => ?_)
      have l0 := tm_lk el l0 rfl (by decide)
      have l1 := tm_lk el l1 rfl (by decide)
      have l2 := tm_lk el l2 rfl (by decide)
      have l3 := tm_lk el l3 rfl (by decide)
      have l4 := tm_lk el l4 rfl (by decide)
      have l5 := tm_lk el l5 rfl (by decide)
      have l6 := tm_lk el l6 rfl (by decide)
      have l7 : lv.lookup 7 = some (.int (-1)) := tm_lks el
      clear el
      refine m_ald (pc' := 68) cd_Mo_tells rfl (Or.inr ⟨_, rfl, rfl, rfl⟩) l0 rfl rfl ?_
      refine m_fR (r := 23) (a := 24) (ad := 1506) (pc' := 71) rfl rfl cd_Mo_tells rfl rfl rfl rfl rfl ?_
      refine m_ild (pc' := 72) cd_Mo_tells rfl (Or.inr ⟨_, rfl, rfl, rfl⟩) l1 rfl ?_
      refine m_aI (r := 23) (a := 24) (g := (A 24)) (x := (fl q)) (pc' := 73) rfl rfl cd_Mo_tells rfl rfl rfl (vp_in_nI (by omega) (by decide)) ((congrArg (A 24) (nI_clamp (by omega))).trans (congrFun h24 _)) ?_
      refine m_ldcw (pc' := 76) cd_Mo_tells rfl rfl rfl ?_
      refine m_if2 (t := 96) (pc' := 79) cd_Mo_tells rfl rfl rfl (fun c76 => ?_) (fun c76 => ?_)
      · have c76 : ¬ (fl q) = 2147483647 := c76
        refine m_k1 (v := 0) (pc' := 97) cd_Mo_tells rfl (by decide) rfl ?_
        refine m_ist (pc' := 99) cd_Mo_tells rfl (Or.inl ⟨rfl, rfl⟩) (by decide) rfl (fun lv el => ?_)
        have l0 := tm_lk el l0 rfl (by decide)
        have l1 := tm_lk el l1 rfl (by decide)
        have l2 := tm_lk el l2 rfl (by decide)
        have l3 := tm_lk el l3 rfl (by decide)
        have l4 := tm_lk el l4 rfl (by decide)
        have l5 := tm_lk el l5 rfl (by decide)
        have l6 := tm_lk el l6 rfl (by decide)
        have l7 := tm_lk el l7 rfl (by decide)
        have l8 : lv.lookup 8 = some (.int 0) := tm_lks el
        clear el
        have hcl : tl_cl fl q p = false := (by unfold tl_cl; rw [decide_eq_false c76]; rfl)
        rw [hcl] at kk
        exact l_mtl0PN (cl := false) (hi := hi) (H := pt X 1) hM hS hq hp hH k7h h21 kk lv l0 l1 l3 l4 l6 l7 l8
      · have c76 : (fl q) = 2147483647 := Classical.not_not.mp c76
        refine m_ald (pc' := 80) cd_Mo_tells rfl (Or.inr ⟨_, rfl, rfl, rfl⟩) l0 rfl rfl ?_
        refine m_fR (r := 23) (a := 24) (ad := 1506) (pc' := 83) rfl rfl cd_Mo_tells rfl rfl rfl rfl rfl ?_
        refine m_ild (pc' := 85) cd_Mo_tells rfl (Or.inl ⟨rfl, rfl⟩) l6 rfl ?_
        refine m_aI (r := 23) (a := 24) (g := (A 24)) (x := (fl p)) (pc' := 86) rfl rfl cd_Mo_tells rfl rfl rfl (vp_in_nI (by omega) (by decide)) ((congrArg (A 24) (nI_clamp (by omega))).trans (congrFun h24 _)) ?_
        refine m_ldcw (pc' := 89) cd_Mo_tells rfl rfl rfl ?_
        refine m_if2 (t := 96) (pc' := 92) cd_Mo_tells rfl rfl rfl (fun c89 => ?_) (fun c89 => ?_)
        · have c89 : ¬ (fl p) = 2147483647 := c89
          refine m_k1 (v := 0) (pc' := 97) cd_Mo_tells rfl (by decide) rfl ?_
          refine m_ist (pc' := 99) cd_Mo_tells rfl (Or.inl ⟨rfl, rfl⟩) (by decide) rfl (fun lv el => ?_)
          have l0 := tm_lk el l0 rfl (by decide)
          have l1 := tm_lk el l1 rfl (by decide)
          have l2 := tm_lk el l2 rfl (by decide)
          have l3 := tm_lk el l3 rfl (by decide)
          have l4 := tm_lk el l4 rfl (by decide)
          have l5 := tm_lk el l5 rfl (by decide)
          have l6 := tm_lk el l6 rfl (by decide)
          have l7 := tm_lk el l7 rfl (by decide)
          have l8 : lv.lookup 8 = some (.int 0) := tm_lks el
          clear el
          have hcl : tl_cl fl q p = false := (by unfold tl_cl; rw [decide_eq_false c89, Bool.and_false])
          rw [hcl] at kk
          exact l_mtl0PN (cl := false) (hi := hi) (H := pt X 1) hM hS hq hp hH k7h h21 kk lv l0 l1 l3 l4 l6 l7 l8
        · have c89 : (fl p) = 2147483647 := Classical.not_not.mp c89
          refine m_k1 (v := 1) (pc' := 93) cd_Mo_tells rfl (by decide) rfl ?_
          refine m_pure (pc' := 97) (st' := [.int 1]) cd_Mo_tells rfl rfl (fun _ _ => rfl) ?_
          refine m_ist (pc' := 99) cd_Mo_tells rfl (Or.inl ⟨rfl, rfl⟩) (by decide) rfl (fun lv el => ?_)
          have l0 := tm_lk el l0 rfl (by decide)
          have l1 := tm_lk el l1 rfl (by decide)
          have l2 := tm_lk el l2 rfl (by decide)
          have l3 := tm_lk el l3 rfl (by decide)
          have l4 := tm_lk el l4 rfl (by decide)
          have l5 := tm_lk el l5 rfl (by decide)
          have l6 := tm_lk el l6 rfl (by decide)
          have l7 := tm_lk el l7 rfl (by decide)
          have l8 : lv.lookup 8 = some (.int 1) := tm_lks el
          clear el
          have hcl : tl_cl fl q p = true := (by unfold tl_cl; rw [decide_eq_true c76, decide_eq_true c89]; rfl)
          rw [hcl] at kk
          exact l_mtl0PN (cl := true) (hi := hi) (H := pt X 1) hM hS hq hp hH k7h h21 kk lv l0 l1 l3 l4 l6 l7 l8
    · have c46 : (kd (pt (pt X 2) 0)) = 1 := Classical.not_not.mp c46
      obtain ⟨m, hmk, hm, hlo⟩ := hln c46
      refine m_ald (pc' := 50) cd_Mo_tells rfl (Or.inr ⟨_, rfl, rfl, rfl⟩) l0 rfl rfl ?_
      refine m_fR (r := 12) (a := 13) (ad := 1495) (pc' := 53) rfl rfl cd_Mo_tells rfl rfl rfl rfl rfl ?_
      refine m_ald (pc' := 54) cd_Mo_tells rfl (Or.inr ⟨_, rfl, rfl, rfl⟩) l0 rfl rfl ?_
      refine m_fR (r := 1) (a := 2) (ad := 1484) (pc' := 57) rfl rfl cd_Mo_tells rfl rfl rfl rfl rfl ?_
      refine m_ild (pc' := 59) cd_Mo_tells rfl (Or.inl ⟨rfl, rfl⟩) l5 rfl ?_
      refine m_aI (r := 1) (a := 2) (g := (A 2)) (x := nI m) (pc' := 60) rfl rfl cd_Mo_tells rfl rfl rfl (vp_in_nI (by omega) (by decide)) ((congrArg (A 2) (nI_clamp (by omega))).trans ((MT_mk hM hyi (Or.inl c46)).trans hmk)) ?_
      refine m_aI (r := 12) (a := 13) (g := (A 13)) (x := (-1)) (pc' := 61) rfl rfl cd_Mo_tells rfl rfl rfl (vp_in_nI (by omega) (by decide)) ((congrArg (A 13) (nI_clamp (by omega))).trans ((congrFun h13 _).trans hlo)) ?_
      refine m_pure (pc' := 65) (st' := [.int (-1)]) cd_Mo_tells rfl rfl (fun _ _ => rfl) ?_
      refine m_ist (pc' := 67) cd_Mo_tells rfl (Or.inl ⟨rfl, rfl⟩) (by decide) rfl (fun lv el => ?_)
      have l0 := tm_lk el l0 rfl (by decide)
      have l1 := tm_lk el l1 rfl (by decide)
      have l2 := tm_lk el l2 rfl (by decide)
      have l3 := tm_lk el l3 rfl (by decide)
      have l4 := tm_lk el l4 rfl (by decide)
      have l5 := tm_lk el l5 rfl (by decide)
      have l6 := tm_lk el l6 rfl (by decide)
      have l7 : lv.lookup 7 = some (.int (-1)) := tm_lks el
      clear el
      refine m_ald (pc' := 68) cd_Mo_tells rfl (Or.inr ⟨_, rfl, rfl, rfl⟩) l0 rfl rfl ?_
      refine m_fR (r := 23) (a := 24) (ad := 1506) (pc' := 71) rfl rfl cd_Mo_tells rfl rfl rfl rfl rfl ?_
      refine m_ild (pc' := 72) cd_Mo_tells rfl (Or.inr ⟨_, rfl, rfl, rfl⟩) l1 rfl ?_
      refine m_aI (r := 23) (a := 24) (g := (A 24)) (x := (fl q)) (pc' := 73) rfl rfl cd_Mo_tells rfl rfl rfl (vp_in_nI (by omega) (by decide)) ((congrArg (A 24) (nI_clamp (by omega))).trans (congrFun h24 _)) ?_
      refine m_ldcw (pc' := 76) cd_Mo_tells rfl rfl rfl ?_
      refine m_if2 (t := 96) (pc' := 79) cd_Mo_tells rfl rfl rfl (fun c76 => ?_) (fun c76 => ?_)
      · have c76 : ¬ (fl q) = 2147483647 := c76
        refine m_k1 (v := 0) (pc' := 97) cd_Mo_tells rfl (by decide) rfl ?_
        refine m_ist (pc' := 99) cd_Mo_tells rfl (Or.inl ⟨rfl, rfl⟩) (by decide) rfl (fun lv el => ?_)
        have l0 := tm_lk el l0 rfl (by decide)
        have l1 := tm_lk el l1 rfl (by decide)
        have l2 := tm_lk el l2 rfl (by decide)
        have l3 := tm_lk el l3 rfl (by decide)
        have l4 := tm_lk el l4 rfl (by decide)
        have l5 := tm_lk el l5 rfl (by decide)
        have l6 := tm_lk el l6 rfl (by decide)
        have l7 := tm_lk el l7 rfl (by decide)
        have l8 : lv.lookup 8 = some (.int 0) := tm_lks el
        clear el
        have hcl : tl_cl fl q p = false := (by unfold tl_cl; rw [decide_eq_false c76]; rfl)
        rw [hcl] at kk
        exact l_mtl0PN (cl := false) (hi := hi) (H := pt X 1) hM hS hq hp hH k7h h21 kk lv l0 l1 l3 l4 l6 l7 l8
      · have c76 : (fl q) = 2147483647 := Classical.not_not.mp c76
        refine m_ald (pc' := 80) cd_Mo_tells rfl (Or.inr ⟨_, rfl, rfl, rfl⟩) l0 rfl rfl ?_
        refine m_fR (r := 23) (a := 24) (ad := 1506) (pc' := 83) rfl rfl cd_Mo_tells rfl rfl rfl rfl rfl ?_
        refine m_ild (pc' := 85) cd_Mo_tells rfl (Or.inl ⟨rfl, rfl⟩) l6 rfl ?_
        refine m_aI (r := 23) (a := 24) (g := (A 24)) (x := (fl p)) (pc' := 86) rfl rfl cd_Mo_tells rfl rfl rfl (vp_in_nI (by omega) (by decide)) ((congrArg (A 24) (nI_clamp (by omega))).trans (congrFun h24 _)) ?_
        refine m_ldcw (pc' := 89) cd_Mo_tells rfl rfl rfl ?_
        refine m_if2 (t := 96) (pc' := 92) cd_Mo_tells rfl rfl rfl (fun c89 => ?_) (fun c89 => ?_)
        · have c89 : ¬ (fl p) = 2147483647 := c89
          refine m_k1 (v := 0) (pc' := 97) cd_Mo_tells rfl (by decide) rfl ?_
          refine m_ist (pc' := 99) cd_Mo_tells rfl (Or.inl ⟨rfl, rfl⟩) (by decide) rfl (fun lv el => ?_)
          have l0 := tm_lk el l0 rfl (by decide)
          have l1 := tm_lk el l1 rfl (by decide)
          have l2 := tm_lk el l2 rfl (by decide)
          have l3 := tm_lk el l3 rfl (by decide)
          have l4 := tm_lk el l4 rfl (by decide)
          have l5 := tm_lk el l5 rfl (by decide)
          have l6 := tm_lk el l6 rfl (by decide)
          have l7 := tm_lk el l7 rfl (by decide)
          have l8 : lv.lookup 8 = some (.int 0) := tm_lks el
          clear el
          have hcl : tl_cl fl q p = false := (by unfold tl_cl; rw [decide_eq_false c89, Bool.and_false])
          rw [hcl] at kk
          exact l_mtl0PN (cl := false) (hi := hi) (H := pt X 1) hM hS hq hp hH k7h h21 kk lv l0 l1 l3 l4 l6 l7 l8
        · have c89 : (fl p) = 2147483647 := Classical.not_not.mp c89
          refine m_k1 (v := 1) (pc' := 93) cd_Mo_tells rfl (by decide) rfl ?_
          refine m_pure (pc' := 97) (st' := [.int 1]) cd_Mo_tells rfl rfl (fun _ _ => rfl) ?_
          refine m_ist (pc' := 99) cd_Mo_tells rfl (Or.inl ⟨rfl, rfl⟩) (by decide) rfl (fun lv el => ?_)
          have l0 := tm_lk el l0 rfl (by decide)
          have l1 := tm_lk el l1 rfl (by decide)
          have l2 := tm_lk el l2 rfl (by decide)
          have l3 := tm_lk el l3 rfl (by decide)
          have l4 := tm_lk el l4 rfl (by decide)
          have l5 := tm_lk el l5 rfl (by decide)
          have l6 := tm_lk el l6 rfl (by decide)
          have l7 := tm_lk el l7 rfl (by decide)
          have l8 : lv.lookup 8 = some (.int 1) := tm_lks el
          clear el
          have hcl : tl_cl fl q p = true := (by unfold tl_cl; rw [decide_eq_true c76, decide_eq_true c89]; rfl)
          rw [hcl] at kk
          exact l_mtl0PN (cl := true) (hi := hi) (H := pt X 1) hM hS hq hp hH k7h h21 kk lv l0 l1 l3 l4 l6 l7 l8
set_option maxRecDepth 100000 in
theorem l_mtl2PS {sc : tm_X} {d : Nat} {f : Nat → Int32} {A : Nat → Nat → Int32} {T : List Tm} {DL : List (Int32 × Int32)} {G Kw : Tm → Prop} {dev : Nat → DV} {sto : Nat → ST} {ws : List (Tm × Int32)} {dir reg : Nat → Tm} {seen : List Tm} {ls : List RL} {lo dt db rt fl ll tl tf tg tm : Nat → Int32} {ck fo du : Int32} {q p hi : Nat} {H : Tm} {i : Nat} {e : RL} {oc : Bool} {cl : Bool} {Q : MS → Prop} (hM : MT f A T DL G Kw) (hS : RS f A T DL dev sto ws dir reg seen ls lo (dt, db, rt, fl, ll, tl, tf, tg, tm, ck, fo, du)) (hq : q < 6) (hp : p < 6) (he : ls[i]? = some e) (hH : T[hi]? = some H) (k7 : kd H = 7) (h21 : A 44 21 = bz oc) (kk : ∀ f1 A1, MT f1 A1 T DL G Kw → f1 16 = f 16 → RS f1 A1 T DL dev sto ws dir reg seen (if e.2.2.2.2.2.2.2.2 q = 2147483647 then ls.set i (rl_take e q ck oc) else ls) lo (dt, db, rt, fl, ll, (upd tl q (nI i)), (upd tf q (nI p)), (upd tg q (nu H 0)), (upd tm q (tm q + 1)), ck, fo, (if cl = true ∧ e.2.2.2.2.2.2.2.2 q ≠ 2147483647 then du + 1 else du)) → Q (f1, A1)) : ∀ lv : tm_L, lv.lookup 0 = some (.ref 1482) → lv.lookup 1 = some (.int (nI q)) → lv.lookup 3 = some (.int 1) → lv.lookup 4 = some (.int (nI hi)) → lv.lookup 6 = some (.int (nI p)) → lv.lookup 7 = some (.int (nI i)) → lv.lookup 8 = some (.int (bz cl)) → mg sc (d + 1) 247 172 lv [] (f, A) (fun r s' => r = none ∧ Q s') := by
  intro lv l0 l1 l3 l4 l6 l7 l8
  have h10 := hS.2.2.1.1
  have h24 := hS.2.2.2.2.2.1.1
  have h21c := hS.2.2.2.1.2.1
  have h53 := hS.2.2.2.1.2.2.1
  have h54 := hS.2.2.2.1.2.2.2
  have h39 := hS.2.2.2.2.2.2.1
  have h40 := hS.2.2.2.2.2.2.2.1
  have h41 := hS.2.2.2.2.2.2.2.2.1
  have h42 := hS.2.2.2.2.2.2.2.2.2
  have hi := (List.getElem?_eq_some_iff.mp he).1
  have h700 := h10.1.2
  obtain ⟨a1, a2, a3, a4, a5, a6, a7, a8, a9⟩ := h10.2 i e he
  refine m_ild (pc' := 174) cd_Mo_tells rfl (Or.inl ⟨rfl, rfl⟩) l8 rfl ?_
  refine m_if1 (t := 211) (pc' := 177) cd_Mo_tells rfl rfl rfl (fun c174 => ?_) (fun c174 => ?_)
  · have c174 : cl = false := bz_f c174
    refine m_ild (pc' := 213) cd_Mo_tells rfl (Or.inl ⟨rfl, rfl⟩) l7 rfl ?_
    refine m_k1 (v := (-1)) (pc' := 214) cd_Mo_tells rfl (by decide) rfl ?_
    refine m_if2 (t := 279) (pc' := 217) cd_Mo_tells rfl rfl rfl (fun c214 => ?_) (fun c214 => ?_)
    · have c214 : (nI i) = (-1) := c214
      exact absurd c214 (nI_nm1 (by omega))
    · have c214 : ¬ (nI i) = (-1) := c214
      refine m_ald (pc' := 218) cd_Mo_tells rfl (Or.inr ⟨_, rfl, rfl, rfl⟩) l0 rfl rfl ?_
      refine m_fR (r := 36) (a := 37) (ad := 1519) (pc' := 221) rfl rfl cd_Mo_tells rfl rfl rfl rfl rfl ?_
      refine m_k2 (v := 6) (pc' := 223) cd_Mo_tells rfl (by decide) rfl ?_
      refine m_ild (pc' := 225) cd_Mo_tells rfl (Or.inl ⟨rfl, rfl⟩) l7 rfl ?_
      refine m_pure (pc' := 226) (st' := [.int ((6 : Int32) * (nI i)), .ref 1519]) cd_Mo_tells rfl rfl (fun _ _ => rfl) ?_
      refine m_eq (show ((6 : Int32) * (nI i) : Int32) = nI (6 * i) from pk_mul 6 i) ?_
      refine m_ild (pc' := 227) cd_Mo_tells rfl (Or.inr ⟨_, rfl, rfl, rfl⟩) l1 rfl ?_
      refine m_pure (pc' := 228) (st' := [.int ((nI (6 * i)) + (nI q)), .ref 1519]) cd_Mo_tells rfl rfl (fun _ _ => rfl) ?_
      refine m_eq (show ((nI (6 * i)) + (nI q) : Int32) = nI ((6 * i) + q) from nI_add (6 * i) q) ?_
      refine m_aI (r := 36) (a := 37) (g := (A 37)) (x := (e.2.2.2.2.2.2.2.2 q)) (pc' := 229) rfl rfl cd_Mo_tells rfl rfl rfl (vp_in_nI (by omega) (by decide)) ((congrArg (A 37) (nI_clamp (by omega))).trans (a9 q hq)) ?_
      refine m_ldcw (pc' := 232) cd_Mo_tells rfl rfl rfl ?_
      refine m_if2 (t := 279) (pc' := 235) cd_Mo_tells rfl rfl rfl (fun c232 => ?_) (fun c232 => ?_)
      · have c232 : ¬ (e.2.2.2.2.2.2.2.2 q) = 2147483647 := c232
        refine m_ald (pc' := 280) cd_Mo_tells rfl (Or.inr ⟨_, rfl, rfl, rfl⟩) l0 rfl rfl ?_
        refine m_fR (r := 38) (a := 39) (ad := 1521) (pc' := 283) rfl rfl cd_Mo_tells rfl rfl rfl rfl rfl ?_
        refine m_ild (pc' := 284) cd_Mo_tells rfl (Or.inr ⟨_, rfl, rfl, rfl⟩) l1 rfl ?_
        refine m_ild (pc' := 286) cd_Mo_tells rfl (Or.inl ⟨rfl, rfl⟩) l7 rfl ?_
        refine m_aS (r := 38) (a := 39) (g := (A 39)) (p := q) (pc' := 287) rfl rfl cd_Mo_tells rfl rfl rfl (vp_in_nI (by omega) (by decide)) (nI_clamp (by omega)) ?_
        refine m_ald (pc' := 288) cd_Mo_tells rfl (Or.inr ⟨_, rfl, rfl, rfl⟩) l0 rfl rfl ?_
        refine m_fR (r := 39) (a := 40) (ad := 1522) (pc' := 291) rfl rfl cd_Mo_tells rfl rfl rfl rfl rfl ?_
        refine m_ild (pc' := 292) cd_Mo_tells rfl (Or.inr ⟨_, rfl, rfl, rfl⟩) l1 rfl ?_
        refine m_ild (pc' := 294) cd_Mo_tells rfl (Or.inl ⟨rfl, rfl⟩) l6 rfl ?_
        refine m_aS (r := 39) (a := 40) (g := (A 40)) (p := q) (pc' := 295) rfl rfl cd_Mo_tells rfl rfl rfl (vp_in_nI (by omega) (by decide)) (nI_clamp (by omega)) ?_
        refine m_ald (pc' := 296) cd_Mo_tells rfl (Or.inr ⟨_, rfl, rfl, rfl⟩) l0 rfl rfl ?_
        refine m_fR (r := 40) (a := 41) (ad := 1523) (pc' := 299) rfl rfl cd_Mo_tells rfl rfl rfl rfl rfl ?_
        refine m_ild (pc' := 300) cd_Mo_tells rfl (Or.inr ⟨_, rfl, rfl, rfl⟩) l1 rfl ?_
        refine m_ild (pc' := 301) cd_Mo_tells rfl (Or.inr ⟨_, rfl, rfl, rfl⟩) l3 rfl ?_
        refine m_if1 (t := 314) (pc' := 304) cd_Mo_tells rfl rfl rfl (fun c301 => ?_) (fun c301 => ?_)
        · exact absurd (show (1 : Int32) = 0 from c301) (by decide)
        · have c301 : ¬ (1 : Int32) = 0 := c301
          refine m_ald (pc' := 305) cd_Mo_tells rfl (Or.inr ⟨_, rfl, rfl, rfl⟩) l0 rfl rfl ?_
          refine m_ild (pc' := 307) cd_Mo_tells rfl (Or.inl ⟨rfl, rfl⟩) l4 rfl ?_
          refine m_k1 (v := 0) (pc' := 308) cd_Mo_tells rfl (by decide) rfl ?_
          refine m_ci (pc' := 311) cd_Mo_tells rfl rfl rfl rfl rfl cd_Mo_cell rfl (Nat.le_of_ble_eq_true rfl) (m_cellN (k := 0) (by exact MT_i hM rfl rfl rfl rfl rfl rfl rfl rfl rfl rfl) hH k7 (by decide) ?_)
          show mg _ _ _ 311 _ [.int (nu H 0), .int (nI q), .ref 1523] _ _
          refine m_pure (pc' := 315) (st' := [.int (nu H 0), .int (nI q), .ref 1523]) cd_Mo_tells rfl rfl (fun _ _ => rfl) ?_
          refine m_aS (r := 40) (a := 41) (g := (A 41)) (p := q) (pc' := 316) rfl rfl cd_Mo_tells rfl rfl rfl (vp_in_nI (by omega) (by decide)) (nI_clamp (by omega)) ?_
          refine m_ald (pc' := 317) cd_Mo_tells rfl (Or.inr ⟨_, rfl, rfl, rfl⟩) l0 rfl rfl ?_
          refine m_fR (r := 41) (a := 42) (ad := 1524) (pc' := 320) rfl rfl cd_Mo_tells rfl rfl rfl rfl rfl ?_
          refine m_ild (pc' := 321) cd_Mo_tells rfl (Or.inr ⟨_, rfl, rfl, rfl⟩) l1 rfl ?_
          refine m_pure (pc' := 322) (st' := [.int (nI q), .ref 1524, .int (nI q), .ref 1524]) cd_Mo_tells rfl rfl (fun _ _ => rfl) ?_
          refine m_aI (r := 41) (a := 42) (g := (A 42)) (x := (tm q)) (pc' := 323) rfl rfl cd_Mo_tells rfl rfl rfl (vp_in_nI (by omega) (by decide)) ((congrArg (A 42) (nI_clamp (by omega))).trans (congrFun h42 _)) ?_
          refine m_k1 (v := 1) (pc' := 324) cd_Mo_tells rfl (by decide) rfl ?_
          refine m_pure (pc' := 325) (st' := [.int ((tm q) + 1), .int (nI q), .ref 1524]) cd_Mo_tells rfl rfl (fun _ _ => rfl) ?_
          refine m_aS (r := 41) (a := 42) (g := (A 42)) (p := q) (pc' := 326) rfl rfl cd_Mo_tells rfl rfl rfl (vp_in_nI (by omega) (by decide)) (nI_clamp (by omega)) ?_
          rw [if_neg c232, if_neg (fun q => Bool.noConfusion (c174.symm.trans q.1))] at kk
          exact m_retv cd_Mo_tells rfl ⟨rfl, (kk _ _ (by exact MT_i hM rfl rfl rfl rfl rfl rfl rfl rfl rfl rfl) rfl (RS_t hS ⟨rfl, rfl, rfl, rfl⟩ ⟨rfl, rfl, rfl, rfl, rfl, rfl, rfl, rfl, rfl, rfl, rfl, rfl, rfl, rfl, rfl, rfl, rfl, rfl, rfl⟩ (qLs_same h10 rfl (fun j j1 j2 => (fset_ne (by omega)).trans ((fset_ne (by omega)).trans ((fset_ne (by omega)).trans (fset_ne (by omega)))))) h53 h54 (congrArg (fun g => upd g q _) h39) (congrArg (fun g => upd g q _) h40) (congrArg (fun g => upd g q _) h41) (congrArg (fun g => upd g q _) h42)))⟩
      · have c232 : (e.2.2.2.2.2.2.2.2 q) = 2147483647 := Classical.not_not.mp c232
        refine m_ald (pc' := 236) cd_Mo_tells rfl (Or.inr ⟨_, rfl, rfl, rfl⟩) l0 rfl rfl ?_
        refine m_fR (r := 36) (a := 37) (ad := 1519) (pc' := 239) rfl rfl cd_Mo_tells rfl rfl rfl rfl rfl ?_
        refine m_k2 (v := 6) (pc' := 241) cd_Mo_tells rfl (by decide) rfl ?_
        refine m_ild (pc' := 243) cd_Mo_tells rfl (Or.inl ⟨rfl, rfl⟩) l7 rfl ?_
        refine m_pure (pc' := 244) (st' := [.int ((6 : Int32) * (nI i)), .ref 1519]) cd_Mo_tells rfl rfl (fun _ _ => rfl) ?_
        refine m_eq (show ((6 : Int32) * (nI i) : Int32) = nI (6 * i) from pk_mul 6 i) ?_
        refine m_ild (pc' := 245) cd_Mo_tells rfl (Or.inr ⟨_, rfl, rfl, rfl⟩) l1 rfl ?_
        refine m_pure (pc' := 246) (st' := [.int ((nI (6 * i)) + (nI q)), .ref 1519]) cd_Mo_tells rfl rfl (fun _ _ => rfl) ?_
        refine m_eq (show ((nI (6 * i)) + (nI q) : Int32) = nI ((6 * i) + q) from nI_add (6 * i) q) ?_
        refine m_ald (pc' := 247) cd_Mo_tells rfl (Or.inr ⟨_, rfl, rfl, rfl⟩) l0 rfl rfl ?_
        refine m_fI (k := 21) (x := ck) (pc' := 250) cd_Mo_tells rfl rfl rfl rfl rfl h21c ?_
        refine m_aS (r := 36) (a := 37) (g := (A 37)) (p := ((6 * i) + q)) (pc' := 251) rfl rfl cd_Mo_tells rfl rfl rfl (vp_in_nI (by omega) (by decide)) (nI_clamp (by omega)) ?_
        refine m_ild (pc' := 252) cd_Mo_tells rfl (Or.inr ⟨_, rfl, rfl, rfl⟩) l3 rfl ?_
        refine m_if1 (t := 279) (pc' := 255) cd_Mo_tells rfl rfl rfl (fun c252 => ?_) (fun c252 => ?_)
        · exact absurd (show (1 : Int32) = 0 from c252) (by decide)
        · have c252 : ¬ (1 : Int32) = 0 := c252
          refine m_ald (pc' := 256) cd_Mo_tells rfl (Or.inr ⟨_, rfl, rfl, rfl⟩) l0 rfl rfl ?_
          refine m_fR (r := 43) (a := 44) (ad := 1526) (pc' := 259) rfl rfl cd_Mo_tells rfl rfl rfl rfl rfl ?_
          refine m_k2 (v := 21) (pc' := 261) cd_Mo_tells rfl (by decide) rfl ?_
          refine m_aI (r := 43) (a := 44) (g := (A 44)) (x := bz oc) (pc' := 262) rfl rfl cd_Mo_tells rfl rfl rfl (vp_in_nI (n := 21) (by decide) (by decide)) ((congrArg (A 44) (show (21 : Int32).toNatClampNeg = 21 by decide)).trans h21) ?_
          refine m_k1 (v := 1) (pc' := 263) cd_Mo_tells rfl (by decide) rfl ?_
          refine m_if2 (t := 279) (pc' := 266) cd_Mo_tells rfl rfl rfl (fun c263 => ?_) (fun c263 => ?_)
          · have c263 : ¬ (bz oc) = 1 := c263
            refine m_ald (pc' := 280) cd_Mo_tells rfl (Or.inr ⟨_, rfl, rfl, rfl⟩) l0 rfl rfl ?_
            refine m_fR (r := 38) (a := 39) (ad := 1521) (pc' := 283) rfl rfl cd_Mo_tells rfl rfl rfl rfl rfl ?_
            refine m_ild (pc' := 284) cd_Mo_tells rfl (Or.inr ⟨_, rfl, rfl, rfl⟩) l1 rfl ?_
            refine m_ild (pc' := 286) cd_Mo_tells rfl (Or.inl ⟨rfl, rfl⟩) l7 rfl ?_
            refine m_aS (r := 38) (a := 39) (g := (A 39)) (p := q) (pc' := 287) rfl rfl cd_Mo_tells rfl rfl rfl (vp_in_nI (by omega) (by decide)) (nI_clamp (by omega)) ?_
            refine m_ald (pc' := 288) cd_Mo_tells rfl (Or.inr ⟨_, rfl, rfl, rfl⟩) l0 rfl rfl ?_
            refine m_fR (r := 39) (a := 40) (ad := 1522) (pc' := 291) rfl rfl cd_Mo_tells rfl rfl rfl rfl rfl ?_
            refine m_ild (pc' := 292) cd_Mo_tells rfl (Or.inr ⟨_, rfl, rfl, rfl⟩) l1 rfl ?_
            refine m_ild (pc' := 294) cd_Mo_tells rfl (Or.inl ⟨rfl, rfl⟩) l6 rfl ?_
            refine m_aS (r := 39) (a := 40) (g := (A 40)) (p := q) (pc' := 295) rfl rfl cd_Mo_tells rfl rfl rfl (vp_in_nI (by omega) (by decide)) (nI_clamp (by omega)) ?_
            refine m_ald (pc' := 296) cd_Mo_tells rfl (Or.inr ⟨_, rfl, rfl, rfl⟩) l0 rfl rfl ?_
            refine m_fR (r := 40) (a := 41) (ad := 1523) (pc' := 299) rfl rfl cd_Mo_tells rfl rfl rfl rfl rfl ?_
            refine m_ild (pc' := 300) cd_Mo_tells rfl (Or.inr ⟨_, rfl, rfl, rfl⟩) l1 rfl ?_
            refine m_ild (pc' := 301) cd_Mo_tells rfl (Or.inr ⟨_, rfl, rfl, rfl⟩) l3 rfl ?_
            refine m_if1 (t := 314) (pc' := 304) cd_Mo_tells rfl rfl rfl (fun c301 => ?_) (fun c301 => ?_)
            · exact absurd (show (1 : Int32) = 0 from c301) (by decide)
            · have c301 : ¬ (1 : Int32) = 0 := c301
              refine m_ald (pc' := 305) cd_Mo_tells rfl (Or.inr ⟨_, rfl, rfl, rfl⟩) l0 rfl rfl ?_
              refine m_ild (pc' := 307) cd_Mo_tells rfl (Or.inl ⟨rfl, rfl⟩) l4 rfl ?_
              refine m_k1 (v := 0) (pc' := 308) cd_Mo_tells rfl (by decide) rfl ?_
              refine m_ci (pc' := 311) cd_Mo_tells rfl rfl rfl rfl rfl cd_Mo_cell rfl (Nat.le_of_ble_eq_true rfl) (m_cellN (k := 0) (by exact MT_i hM rfl rfl rfl rfl rfl rfl rfl rfl rfl rfl) hH k7 (by decide) ?_)
              show mg _ _ _ 311 _ [.int (nu H 0), .int (nI q), .ref 1523] _ _
              refine m_pure (pc' := 315) (st' := [.int (nu H 0), .int (nI q), .ref 1523]) cd_Mo_tells rfl rfl (fun _ _ => rfl) ?_
              refine m_aS (r := 40) (a := 41) (g := (A 41)) (p := q) (pc' := 316) rfl rfl cd_Mo_tells rfl rfl rfl (vp_in_nI (by omega) (by decide)) (nI_clamp (by omega)) ?_
              refine m_ald (pc' := 317) cd_Mo_tells rfl (Or.inr ⟨_, rfl, rfl, rfl⟩) l0 rfl rfl ?_
              refine m_fR (r := 41) (a := 42) (ad := 1524) (pc' := 320) rfl rfl cd_Mo_tells rfl rfl rfl rfl rfl ?_
              refine m_ild (pc' := 321) cd_Mo_tells rfl (Or.inr ⟨_, rfl, rfl, rfl⟩) l1 rfl ?_
              refine m_pure (pc' := 322) (st' := [.int (nI q), .ref 1524, .int (nI q), .ref 1524]) cd_Mo_tells rfl rfl (fun _ _ => rfl) ?_
              refine m_aI (r := 41) (a := 42) (g := (A 42)) (x := (tm q)) (pc' := 323) rfl rfl cd_Mo_tells rfl rfl rfl (vp_in_nI (by omega) (by decide)) ((congrArg (A 42) (nI_clamp (by omega))).trans (congrFun h42 _)) ?_
              refine m_k1 (v := 1) (pc' := 324) cd_Mo_tells rfl (by decide) rfl ?_
              refine m_pure (pc' := 325) (st' := [.int ((tm q) + 1), .int (nI q), .ref 1524]) cd_Mo_tells rfl rfl (fun _ _ => rfl) ?_
              refine m_aS (r := 41) (a := 42) (g := (A 42)) (p := q) (pc' := 326) rfl rfl cd_Mo_tells rfl rfl rfl (vp_in_nI (by omega) (by decide)) (nI_clamp (by omega)) ?_
              rw [if_pos c232, if_neg (fun q => Bool.noConfusion (c174.symm.trans q.1))] at kk
              have hoc : oc = false := (by cases oc; rfl; exact absurd rfl c263)
              rw [hoc] at kk
              exact m_retv cd_Mo_tells rfl ⟨rfl, (kk _ _ (by exact MT_i hM rfl rfl rfl rfl rfl rfl rfl rfl rfl rfl) rfl (RS_t hS ⟨rfl, rfl, rfl, rfl⟩ ⟨rfl, rfl, rfl, rfl, rfl, rfl, rfl, rfl, rfl, rfl, rfl, rfl, rfl, rfl, rfl, rfl, rfl, rfl, rfl⟩ (qLs_take hq he h10 rfl (fun j j1 j2 => by simp only [fset]; rw [if_neg (by omega), if_neg (by omega), if_neg (by omega), if_neg (by omega), if_neg (by omega)]) rfl (fun k => by rw [if_neg (fun q => nomatch q.2)]; rfl)) h53 h54 (congrArg (fun g => upd g q _) h39) (congrArg (fun g => upd g q _) h40) (congrArg (fun g => upd g q _) h41) (congrArg (fun g => upd g q _) h42)))⟩
          · have c263 : (bz oc) = 1 := Classical.not_not.mp c263
            refine m_ald (pc' := 267) cd_Mo_tells rfl (Or.inr ⟨_, rfl, rfl, rfl⟩) l0 rfl rfl ?_
            refine m_fR (r := 37) (a := 38) (ad := 1520) (pc' := 270) rfl rfl cd_Mo_tells rfl rfl rfl rfl rfl ?_
            refine m_ild (pc' := 272) cd_Mo_tells rfl (Or.inl ⟨rfl, rfl⟩) l7 rfl ?_
            refine m_pure (pc' := 273) (st' := [.int (nI i), .ref 1520, .int (nI i), .ref 1520]) cd_Mo_tells rfl rfl (fun _ _ => rfl) ?_
            refine m_aI (r := 37) (a := 38) (g := (A 38)) (x := ((A 38) i)) (pc' := 274) rfl rfl cd_Mo_tells rfl rfl rfl (vp_in_nI (by omega) (by decide)) (congrArg (A 38) (nI_clamp (by omega))) ?_
            refine m_k1 (v := 1) (pc' := 275) cd_Mo_tells rfl (by decide) rfl ?_
            refine m_ild (pc' := 276) cd_Mo_tells rfl (Or.inr ⟨_, rfl, rfl, rfl⟩) l1 rfl ?_
            refine m_pure (pc' := 277) (st' := [.int ((1 : Int32) <<< ((nI q) &&& 31)), .int (((A 38) i)), .int (nI i), .ref 1520]) cd_Mo_tells rfl rfl (fun _ _ => rfl) ?_
            refine m_pure (pc' := 278) (st' := [.int (((A 38) i) ||| ((1 : Int32) <<< ((nI q) &&& 31))), .int (nI i), .ref 1520]) cd_Mo_tells rfl rfl (fun _ _ => rfl) ?_
            refine m_aS (r := 37) (a := 38) (g := (A 38)) (p := i) (pc' := 279) rfl rfl cd_Mo_tells rfl rfl rfl (vp_in_nI (by omega) (by decide)) (nI_clamp (by omega)) ?_
            refine m_ald (pc' := 280) cd_Mo_tells rfl (Or.inr ⟨_, rfl, rfl, rfl⟩) l0 rfl rfl ?_
            refine m_fR (r := 38) (a := 39) (ad := 1521) (pc' := 283) rfl rfl cd_Mo_tells rfl rfl rfl rfl rfl ?_
            refine m_ild (pc' := 284) cd_Mo_tells rfl (Or.inr ⟨_, rfl, rfl, rfl⟩) l1 rfl ?_
            refine m_ild (pc' := 286) cd_Mo_tells rfl (Or.inl ⟨rfl, rfl⟩) l7 rfl ?_
            refine m_aS (r := 38) (a := 39) (g := (A 39)) (p := q) (pc' := 287) rfl rfl cd_Mo_tells rfl rfl rfl (vp_in_nI (by omega) (by decide)) (nI_clamp (by omega)) ?_
            refine m_ald (pc' := 288) cd_Mo_tells rfl (Or.inr ⟨_, rfl, rfl, rfl⟩) l0 rfl rfl ?_
            refine m_fR (r := 39) (a := 40) (ad := 1522) (pc' := 291) rfl rfl cd_Mo_tells rfl rfl rfl rfl rfl ?_
            refine m_ild (pc' := 292) cd_Mo_tells rfl (Or.inr ⟨_, rfl, rfl, rfl⟩) l1 rfl ?_
            refine m_ild (pc' := 294) cd_Mo_tells rfl (Or.inl ⟨rfl, rfl⟩) l6 rfl ?_
            refine m_aS (r := 39) (a := 40) (g := (A 40)) (p := q) (pc' := 295) rfl rfl cd_Mo_tells rfl rfl rfl (vp_in_nI (by omega) (by decide)) (nI_clamp (by omega)) ?_
            refine m_ald (pc' := 296) cd_Mo_tells rfl (Or.inr ⟨_, rfl, rfl, rfl⟩) l0 rfl rfl ?_
            refine m_fR (r := 40) (a := 41) (ad := 1523) (pc' := 299) rfl rfl cd_Mo_tells rfl rfl rfl rfl rfl ?_
            refine m_ild (pc' := 300) cd_Mo_tells rfl (Or.inr ⟨_, rfl, rfl, rfl⟩) l1 rfl ?_
            refine m_ild (pc' := 301) cd_Mo_tells rfl (Or.inr ⟨_, rfl, rfl, rfl⟩) l3 rfl ?_
            refine m_if1 (t := 314) (pc' := 304) cd_Mo_tells rfl rfl rfl (fun c301 => ?_) (fun c301 => ?_)
            · exact absurd (show (1 : Int32) = 0 from c301) (by decide)
            · have c301 : ¬ (1 : Int32) = 0 := c301
              refine m_ald (pc' := 305) cd_Mo_tells rfl (Or.inr ⟨_, rfl, rfl, rfl⟩) l0 rfl rfl ?_
              refine m_ild (pc' := 307) cd_Mo_tells rfl (Or.inl ⟨rfl, rfl⟩) l4 rfl ?_
              refine m_k1 (v := 0) (pc' := 308) cd_Mo_tells rfl (by decide) rfl ?_
              refine m_ci (pc' := 311) cd_Mo_tells rfl rfl rfl rfl rfl cd_Mo_cell rfl (Nat.le_of_ble_eq_true rfl) (m_cellN (k := 0) (by exact MT_i hM rfl rfl rfl rfl rfl rfl rfl rfl rfl rfl) hH k7 (by decide) ?_)
              show mg _ _ _ 311 _ [.int (nu H 0), .int (nI q), .ref 1523] _ _
              refine m_pure (pc' := 315) (st' := [.int (nu H 0), .int (nI q), .ref 1523]) cd_Mo_tells rfl rfl (fun _ _ => rfl) ?_
              refine m_aS (r := 40) (a := 41) (g := (A 41)) (p := q) (pc' := 316) rfl rfl cd_Mo_tells rfl rfl rfl (vp_in_nI (by omega) (by decide)) (nI_clamp (by omega)) ?_
              refine m_ald (pc' := 317) cd_Mo_tells rfl (Or.inr ⟨_, rfl, rfl, rfl⟩) l0 rfl rfl ?_
              refine m_fR (r := 41) (a := 42) (ad := 1524) (pc' := 320) rfl rfl cd_Mo_tells rfl rfl rfl rfl rfl ?_
              refine m_ild (pc' := 321) cd_Mo_tells rfl (Or.inr ⟨_, rfl, rfl, rfl⟩) l1 rfl ?_
              refine m_pure (pc' := 322) (st' := [.int (nI q), .ref 1524, .int (nI q), .ref 1524]) cd_Mo_tells rfl rfl (fun _ _ => rfl) ?_
              refine m_aI (r := 41) (a := 42) (g := (A 42)) (x := (tm q)) (pc' := 323) rfl rfl cd_Mo_tells rfl rfl rfl (vp_in_nI (by omega) (by decide)) ((congrArg (A 42) (nI_clamp (by omega))).trans (congrFun h42 _)) ?_
              refine m_k1 (v := 1) (pc' := 324) cd_Mo_tells rfl (by decide) rfl ?_
              refine m_pure (pc' := 325) (st' := [.int ((tm q) + 1), .int (nI q), .ref 1524]) cd_Mo_tells rfl rfl (fun _ _ => rfl) ?_
              refine m_aS (r := 41) (a := 42) (g := (A 42)) (p := q) (pc' := 326) rfl rfl cd_Mo_tells rfl rfl rfl (vp_in_nI (by omega) (by decide)) (nI_clamp (by omega)) ?_
              rw [if_pos c232, if_neg (fun q => Bool.noConfusion (c174.symm.trans q.1))] at kk
              have hoc : oc = true := (by cases oc; exact absurd c263 (by decide); rfl)
              rw [hoc] at kk
              exact m_retv cd_Mo_tells rfl ⟨rfl, (kk _ _ (by exact MT_i hM rfl rfl rfl rfl rfl rfl rfl rfl rfl rfl) rfl (RS_t hS ⟨rfl, rfl, rfl, rfl⟩ ⟨rfl, rfl, rfl, rfl, rfl, rfl, rfl, rfl, rfl, rfl, rfl, rfl, rfl, rfl, rfl, rfl, rfl, rfl, rfl⟩ (qLs_take hq he h10 rfl (fun j j1 j2 => by simp only [fset]; rw [if_neg (by omega), if_neg (by omega), if_neg (by omega), if_neg (by omega), if_neg (by omega), if_neg (by omega)]) rfl (fun k => by show upd (A 38) i _ k = _; by_cases ck_ : k = i; rw [ck_, upd_same, if_pos ⟨rfl, rfl⟩]; rw [upd_ne ck_, if_neg (fun q => ck_ q.1)])) h53 h54 (congrArg (fun g => upd g q _) h39) (congrArg (fun g => upd g q _) h40) (congrArg (fun g => upd g q _) h41) (congrArg (fun g => upd g q _) h42)))⟩
  · have c174 : cl = true := bz_t c174
    refine m_ild (pc' := 179) cd_Mo_tells rfl (Or.inl ⟨rfl, rfl⟩) l7 rfl ?_
    refine m_k1 (v := (-1)) (pc' := 180) cd_Mo_tells rfl (by decide) rfl ?_
    refine m_if2 (t := 211) (pc' := 183) cd_Mo_tells rfl rfl rfl (fun c180 => ?_) (fun c180 => ?_)
    · have c180 : (nI i) = (-1) := c180
      exact absurd c180 (nI_nm1 (by omega))
    · have c180 : ¬ (nI i) = (-1) := c180
      refine m_ald (pc' := 184) cd_Mo_tells rfl (Or.inr ⟨_, rfl, rfl, rfl⟩) l0 rfl rfl ?_
      refine m_fR (r := 36) (a := 37) (ad := 1519) (pc' := 187) rfl rfl cd_Mo_tells rfl rfl rfl rfl rfl ?_
      refine m_k2 (v := 6) (pc' := 189) cd_Mo_tells rfl (by decide) rfl ?_
      refine m_ild (pc' := 191) cd_Mo_tells rfl (Or.inl ⟨rfl, rfl⟩) l7 rfl ?_
      refine m_pure (pc' := 192) (st' := [.int ((6 : Int32) * (nI i)), .ref 1519]) cd_Mo_tells rfl rfl (fun _ _ => rfl) ?_
      refine m_eq (show ((6 : Int32) * (nI i) : Int32) = nI (6 * i) from pk_mul 6 i) ?_
      refine m_ild (pc' := 193) cd_Mo_tells rfl (Or.inr ⟨_, rfl, rfl, rfl⟩) l1 rfl ?_
      refine m_pure (pc' := 194) (st' := [.int ((nI (6 * i)) + (nI q)), .ref 1519]) cd_Mo_tells rfl rfl (fun _ _ => rfl) ?_
      refine m_eq (show ((nI (6 * i)) + (nI q) : Int32) = nI ((6 * i) + q) from nI_add (6 * i) q) ?_
      refine m_aI (r := 36) (a := 37) (g := (A 37)) (x := (e.2.2.2.2.2.2.2.2 q)) (pc' := 195) rfl rfl cd_Mo_tells rfl rfl rfl (vp_in_nI (by omega) (by decide)) ((congrArg (A 37) (nI_clamp (by omega))).trans (a9 q hq)) ?_
      refine m_ldcw (pc' := 198) cd_Mo_tells rfl rfl rfl ?_
      refine m_if2 (t := 211) (pc' := 201) cd_Mo_tells rfl rfl rfl (fun c198 => ?_) (fun c198 => ?_)
      · have c198 : (e.2.2.2.2.2.2.2.2 q) = 2147483647 := c198
        refine m_ild (pc' := 213) cd_Mo_tells rfl (Or.inl ⟨rfl, rfl⟩) l7 rfl ?_
        refine m_k1 (v := (-1)) (pc' := 214) cd_Mo_tells rfl (by decide) rfl ?_
        refine m_if2 (t := 279) (pc' := 217) cd_Mo_tells rfl rfl rfl (fun c214 => ?_) (fun c214 => ?_)
        · have c214 : (nI i) = (-1) := c214
          exact absurd c214 (nI_nm1 (by omega))
        · have c214 : ¬ (nI i) = (-1) := c214
          refine m_ald (pc' := 218) cd_Mo_tells rfl (Or.inr ⟨_, rfl, rfl, rfl⟩) l0 rfl rfl ?_
          refine m_fR (r := 36) (a := 37) (ad := 1519) (pc' := 221) rfl rfl cd_Mo_tells rfl rfl rfl rfl rfl ?_
          refine m_k2 (v := 6) (pc' := 223) cd_Mo_tells rfl (by decide) rfl ?_
          refine m_ild (pc' := 225) cd_Mo_tells rfl (Or.inl ⟨rfl, rfl⟩) l7 rfl ?_
          refine m_pure (pc' := 226) (st' := [.int ((6 : Int32) * (nI i)), .ref 1519]) cd_Mo_tells rfl rfl (fun _ _ => rfl) ?_
          refine m_eq (show ((6 : Int32) * (nI i) : Int32) = nI (6 * i) from pk_mul 6 i) ?_
          refine m_ild (pc' := 227) cd_Mo_tells rfl (Or.inr ⟨_, rfl, rfl, rfl⟩) l1 rfl ?_
          refine m_pure (pc' := 228) (st' := [.int ((nI (6 * i)) + (nI q)), .ref 1519]) cd_Mo_tells rfl rfl (fun _ _ => rfl) ?_
          refine m_eq (show ((nI (6 * i)) + (nI q) : Int32) = nI ((6 * i) + q) from nI_add (6 * i) q) ?_
          refine m_aI (r := 36) (a := 37) (g := (A 37)) (x := (e.2.2.2.2.2.2.2.2 q)) (pc' := 229) rfl rfl cd_Mo_tells rfl rfl rfl (vp_in_nI (by omega) (by decide)) ((congrArg (A 37) (nI_clamp (by omega))).trans (a9 q hq)) ?_
          refine m_ldcw (pc' := 232) cd_Mo_tells rfl rfl rfl ?_
          refine m_if2 (t := 279) (pc' := 235) cd_Mo_tells rfl rfl rfl (fun c232 => ?_) (fun c232 => ?_)
          · have c232 : ¬ (e.2.2.2.2.2.2.2.2 q) = 2147483647 := c232
            exact absurd c198 c232
          · have c232 : (e.2.2.2.2.2.2.2.2 q) = 2147483647 := Classical.not_not.mp c232
            refine m_ald (pc' := 236) cd_Mo_tells rfl (Or.inr ⟨_, rfl, rfl, rfl⟩) l0 rfl rfl ?_
            refine m_fR (r := 36) (a := 37) (ad := 1519) (pc' := 239) rfl rfl cd_Mo_tells rfl rfl rfl rfl rfl ?_
            refine m_k2 (v := 6) (pc' := 241) cd_Mo_tells rfl (by decide) rfl ?_
            refine m_ild (pc' := 243) cd_Mo_tells rfl (Or.inl ⟨rfl, rfl⟩) l7 rfl ?_
            refine m_pure (pc' := 244) (st' := [.int ((6 : Int32) * (nI i)), .ref 1519]) cd_Mo_tells rfl rfl (fun _ _ => rfl) ?_
            refine m_eq (show ((6 : Int32) * (nI i) : Int32) = nI (6 * i) from pk_mul 6 i) ?_
            refine m_ild (pc' := 245) cd_Mo_tells rfl (Or.inr ⟨_, rfl, rfl, rfl⟩) l1 rfl ?_
            refine m_pure (pc' := 246) (st' := [.int ((nI (6 * i)) + (nI q)), .ref 1519]) cd_Mo_tells rfl rfl (fun _ _ => rfl) ?_
            refine m_eq (show ((nI (6 * i)) + (nI q) : Int32) = nI ((6 * i) + q) from nI_add (6 * i) q) ?_
            refine m_ald (pc' := 247) cd_Mo_tells rfl (Or.inr ⟨_, rfl, rfl, rfl⟩) l0 rfl rfl ?_
            refine m_fI (k := 21) (x := ck) (pc' := 250) cd_Mo_tells rfl rfl rfl rfl rfl h21c ?_
            refine m_aS (r := 36) (a := 37) (g := (A 37)) (p := ((6 * i) + q)) (pc' := 251) rfl rfl cd_Mo_tells rfl rfl rfl (vp_in_nI (by omega) (by decide)) (nI_clamp (by omega)) ?_
            refine m_ild (pc' := 252) cd_Mo_tells rfl (Or.inr ⟨_, rfl, rfl, rfl⟩) l3 rfl ?_
            refine m_if1 (t := 279) (pc' := 255) cd_Mo_tells rfl rfl rfl (fun c252 => ?_) (fun c252 => ?_)
            · exact absurd (show (1 : Int32) = 0 from c252) (by decide)
            · have c252 : ¬ (1 : Int32) = 0 := c252
              refine m_ald (pc' := 256) cd_Mo_tells rfl (Or.inr ⟨_, rfl, rfl, rfl⟩) l0 rfl rfl ?_
              refine m_fR (r := 43) (a := 44) (ad := 1526) (pc' := 259) rfl rfl cd_Mo_tells rfl rfl rfl rfl rfl ?_
              refine m_k2 (v := 21) (pc' := 261) cd_Mo_tells rfl (by decide) rfl ?_
              refine m_aI (r := 43) (a := 44) (g := (A 44)) (x := bz oc) (pc' := 262) rfl rfl cd_Mo_tells rfl rfl rfl (vp_in_nI (n := 21) (by decide) (by decide)) ((congrArg (A 44) (show (21 : Int32).toNatClampNeg = 21 by decide)).trans h21) ?_
              refine m_k1 (v := 1) (pc' := 263) cd_Mo_tells rfl (by decide) rfl ?_
              refine m_if2 (t := 279) (pc' := 266) cd_Mo_tells rfl rfl rfl (fun c263 => ?_) (fun c263 => ?_)
              · have c263 : ¬ (bz oc) = 1 := c263
                refine m_ald (pc' := 280) cd_Mo_tells rfl (Or.inr ⟨_, rfl, rfl, rfl⟩) l0 rfl rfl ?_
                refine m_fR (r := 38) (a := 39) (ad := 1521) (pc' := 283) rfl rfl cd_Mo_tells rfl rfl rfl rfl rfl ?_
                refine m_ild (pc' := 284) cd_Mo_tells rfl (Or.inr ⟨_, rfl, rfl, rfl⟩) l1 rfl ?_
                refine m_ild (pc' := 286) cd_Mo_tells rfl (Or.inl ⟨rfl, rfl⟩) l7 rfl ?_
                refine m_aS (r := 38) (a := 39) (g := (A 39)) (p := q) (pc' := 287) rfl rfl cd_Mo_tells rfl rfl rfl (vp_in_nI (by omega) (by decide)) (nI_clamp (by omega)) ?_
                refine m_ald (pc' := 288) cd_Mo_tells rfl (Or.inr ⟨_, rfl, rfl, rfl⟩) l0 rfl rfl ?_
                refine m_fR (r := 39) (a := 40) (ad := 1522) (pc' := 291) rfl rfl cd_Mo_tells rfl rfl rfl rfl rfl ?_
                refine m_ild (pc' := 292) cd_Mo_tells rfl (Or.inr ⟨_, rfl, rfl, rfl⟩) l1 rfl ?_
                refine m_ild (pc' := 294) cd_Mo_tells rfl (Or.inl ⟨rfl, rfl⟩) l6 rfl ?_
                refine m_aS (r := 39) (a := 40) (g := (A 40)) (p := q) (pc' := 295) rfl rfl cd_Mo_tells rfl rfl rfl (vp_in_nI (by omega) (by decide)) (nI_clamp (by omega)) ?_
                refine m_ald (pc' := 296) cd_Mo_tells rfl (Or.inr ⟨_, rfl, rfl, rfl⟩) l0 rfl rfl ?_
                refine m_fR (r := 40) (a := 41) (ad := 1523) (pc' := 299) rfl rfl cd_Mo_tells rfl rfl rfl rfl rfl ?_
                refine m_ild (pc' := 300) cd_Mo_tells rfl (Or.inr ⟨_, rfl, rfl, rfl⟩) l1 rfl ?_
                refine m_ild (pc' := 301) cd_Mo_tells rfl (Or.inr ⟨_, rfl, rfl, rfl⟩) l3 rfl ?_
                refine m_if1 (t := 314) (pc' := 304) cd_Mo_tells rfl rfl rfl (fun c301 => ?_) (fun c301 => ?_)
                · exact absurd (show (1 : Int32) = 0 from c301) (by decide)
                · have c301 : ¬ (1 : Int32) = 0 := c301
                  refine m_ald (pc' := 305) cd_Mo_tells rfl (Or.inr ⟨_, rfl, rfl, rfl⟩) l0 rfl rfl ?_
                  refine m_ild (pc' := 307) cd_Mo_tells rfl (Or.inl ⟨rfl, rfl⟩) l4 rfl ?_
                  refine m_k1 (v := 0) (pc' := 308) cd_Mo_tells rfl (by decide) rfl ?_
                  refine m_ci (pc' := 311) cd_Mo_tells rfl rfl rfl rfl rfl cd_Mo_cell rfl (Nat.le_of_ble_eq_true rfl) (m_cellN (k := 0) (by exact MT_i hM rfl rfl rfl rfl rfl rfl rfl rfl rfl rfl) hH k7 (by decide) ?_)
                  show mg _ _ _ 311 _ [.int (nu H 0), .int (nI q), .ref 1523] _ _
                  refine m_pure (pc' := 315) (st' := [.int (nu H 0), .int (nI q), .ref 1523]) cd_Mo_tells rfl rfl (fun _ _ => rfl) ?_
                  refine m_aS (r := 40) (a := 41) (g := (A 41)) (p := q) (pc' := 316) rfl rfl cd_Mo_tells rfl rfl rfl (vp_in_nI (by omega) (by decide)) (nI_clamp (by omega)) ?_
                  refine m_ald (pc' := 317) cd_Mo_tells rfl (Or.inr ⟨_, rfl, rfl, rfl⟩) l0 rfl rfl ?_
                  refine m_fR (r := 41) (a := 42) (ad := 1524) (pc' := 320) rfl rfl cd_Mo_tells rfl rfl rfl rfl rfl ?_
                  refine m_ild (pc' := 321) cd_Mo_tells rfl (Or.inr ⟨_, rfl, rfl, rfl⟩) l1 rfl ?_
                  refine m_pure (pc' := 322) (st' := [.int (nI q), .ref 1524, .int (nI q), .ref 1524]) cd_Mo_tells rfl rfl (fun _ _ => rfl) ?_
                  refine m_aI (r := 41) (a := 42) (g := (A 42)) (x := (tm q)) (pc' := 323) rfl rfl cd_Mo_tells rfl rfl rfl (vp_in_nI (by omega) (by decide)) ((congrArg (A 42) (nI_clamp (by omega))).trans (congrFun h42 _)) ?_
                  refine m_k1 (v := 1) (pc' := 324) cd_Mo_tells rfl (by decide) rfl ?_
                  refine m_pure (pc' := 325) (st' := [.int ((tm q) + 1), .int (nI q), .ref 1524]) cd_Mo_tells rfl rfl (fun _ _ => rfl) ?_
                  refine m_aS (r := 41) (a := 42) (g := (A 42)) (p := q) (pc' := 326) rfl rfl cd_Mo_tells rfl rfl rfl (vp_in_nI (by omega) (by decide)) (nI_clamp (by omega)) ?_
                  rw [if_pos c232, if_neg (fun q => q.2 c198)] at kk
                  have hoc : oc = false := (by cases oc; rfl; exact absurd rfl c263)
                  rw [hoc] at kk
                  exact m_retv cd_Mo_tells rfl ⟨rfl, (kk _ _ (by exact MT_i hM rfl rfl rfl rfl rfl rfl rfl rfl rfl rfl) rfl (RS_t hS ⟨rfl, rfl, rfl, rfl⟩ ⟨rfl, rfl, rfl, rfl, rfl, rfl, rfl, rfl, rfl, rfl, rfl, rfl, rfl, rfl, rfl, rfl, rfl, rfl, rfl⟩ (qLs_take hq he h10 rfl (fun j j1 j2 => by simp only [fset]; rw [if_neg (by omega), if_neg (by omega), if_neg (by omega), if_neg (by omega), if_neg (by omega)]) rfl (fun k => by rw [if_neg (fun q => nomatch q.2)]; rfl)) h53 h54 (congrArg (fun g => upd g q _) h39) (congrArg (fun g => upd g q _) h40) (congrArg (fun g => upd g q _) h41) (congrArg (fun g => upd g q _) h42)))⟩
              · have c263 : (bz oc) = 1 := Classical.not_not.mp c263
                refine m_ald (pc' := 267) cd_Mo_tells rfl (Or.inr ⟨_, rfl, rfl, rfl⟩) l0 rfl rfl ?_
                refine m_fR (r := 37) (a := 38) (ad := 1520) (pc' := 270) rfl rfl cd_Mo_tells rfl rfl rfl rfl rfl ?_
                refine m_ild (pc' := 272) cd_Mo_tells rfl (Or.inl ⟨rfl, rfl⟩) l7 rfl ?_
                refine m_pure (pc' := 273) (st' := [.int (nI i), .ref 1520, .int (nI i), .ref 1520]) cd_Mo_tells rfl rfl (fun _ _ => rfl) ?_
                refine m_aI (r := 37) (a := 38) (g := (A 38)) (x := ((A 38) i)) (pc' := 274) rfl rfl cd_Mo_tells rfl rfl rfl (vp_in_nI (by omega) (by decide)) (congrArg (A 38) (nI_clamp (by omega))) ?_
                refine m_k1 (v := 1) (pc' := 275) cd_Mo_tells rfl (by decide) rfl ?_
                refine m_ild (pc' := 276) cd_Mo_tells rfl (Or.inr ⟨_, rfl, rfl, rfl⟩) l1 rfl ?_
                refine m_pure (pc' := 277) (st' := [.int ((1 : Int32) <<< ((nI q) &&& 31)), .int (((A 38) i)), .int (nI i), .ref 1520]) cd_Mo_tells rfl rfl (fun _ _ => rfl) ?_
                refine m_pure (pc' := 278) (st' := [.int (((A 38) i) ||| ((1 : Int32) <<< ((nI q) &&& 31))), .int (nI i), .ref 1520]) cd_Mo_tells rfl rfl (fun _ _ => rfl) ?_
                refine m_aS (r := 37) (a := 38) (g := (A 38)) (p := i) (pc' := 279) rfl rfl cd_Mo_tells rfl rfl rfl (vp_in_nI (by omega) (by decide)) (nI_clamp (by omega)) ?_
                refine m_ald (pc' := 280) cd_Mo_tells rfl (Or.inr ⟨_, rfl, rfl, rfl⟩) l0 rfl rfl ?_
                refine m_fR (r := 38) (a := 39) (ad := 1521) (pc' := 283) rfl rfl cd_Mo_tells rfl rfl rfl rfl rfl ?_
                refine m_ild (pc' := 284) cd_Mo_tells rfl (Or.inr ⟨_, rfl, rfl, rfl⟩) l1 rfl ?_
                refine m_ild (pc' := 286) cd_Mo_tells rfl (Or.inl ⟨rfl, rfl⟩) l7 rfl ?_
                refine m_aS (r := 38) (a := 39) (g := (A 39)) (p := q) (pc' := 287) rfl rfl cd_Mo_tells rfl rfl rfl (vp_in_nI (by omega) (by decide)) (nI_clamp (by omega)) ?_
                refine m_ald (pc' := 288) cd_Mo_tells rfl (Or.inr ⟨_, rfl, rfl, rfl⟩) l0 rfl rfl ?_
                refine m_fR (r := 39) (a := 40) (ad := 1522) (pc' := 291) rfl rfl cd_Mo_tells rfl rfl rfl rfl rfl ?_
                refine m_ild (pc' := 292) cd_Mo_tells rfl (Or.inr ⟨_, rfl, rfl, rfl⟩) l1 rfl ?_
                refine m_ild (pc' := 294) cd_Mo_tells rfl (Or.inl ⟨rfl, rfl⟩) l6 rfl ?_
                refine m_aS (r := 39) (a := 40) (g := (A 40)) (p := q) (pc' := 295) rfl rfl cd_Mo_tells rfl rfl rfl (vp_in_nI (by omega) (by decide)) (nI_clamp (by omega)) ?_
                refine m_ald (pc' := 296) cd_Mo_tells rfl (Or.inr ⟨_, rfl, rfl, rfl⟩) l0 rfl rfl ?_
                refine m_fR (r := 40) (a := 41) (ad := 1523) (pc' := 299) rfl rfl cd_Mo_tells rfl rfl rfl rfl rfl ?_
                refine m_ild (pc' := 300) cd_Mo_tells rfl (Or.inr ⟨_, rfl, rfl, rfl⟩) l1 rfl ?_
                refine m_ild (pc' := 301) cd_Mo_tells rfl (Or.inr ⟨_, rfl, rfl, rfl⟩) l3 rfl ?_
                refine m_if1 (t := 314) (pc' := 304) cd_Mo_tells rfl rfl rfl (fun c301 => ?_) (fun c301 => ?_)
                · exact absurd (show (1 : Int32) = 0 from c301) (by decide)
                · have c301 : ¬ (1 : Int32) = 0 := c301
                  refine m_ald (pc' := 305) cd_Mo_tells rfl (Or.inr ⟨_, rfl, rfl, rfl⟩) l0 rfl rfl ?_
                  refine m_ild (pc' := 307) cd_Mo_tells rfl (Or.inl ⟨rfl, rfl⟩) l4 rfl ?_
                  refine m_k1 (v := 0) (pc' := 308) cd_Mo_tells rfl (by decide) rfl ?_
                  refine m_ci (pc' := 311) cd_Mo_tells rfl rfl rfl rfl rfl cd_Mo_cell rfl (Nat.le_of_ble_eq_true rfl) (m_cellN (k := 0) (by exact MT_i hM rfl rfl rfl rfl rfl rfl rfl rfl rfl rfl) hH k7 (by decide) ?_)
                  show mg _ _ _ 311 _ [.int (nu H 0), .int (nI q), .ref 1523] _ _
                  refine m_pure (pc' := 315) (st' := [.int (nu H 0), .int (nI q), .ref 1523]) cd_Mo_tells rfl rfl (fun _ _ => rfl) ?_
                  refine m_aS (r := 40) (a := 41) (g := (A 41)) (p := q) (pc' := 316) rfl rfl cd_Mo_tells rfl rfl rfl (vp_in_nI (by omega) (by decide)) (nI_clamp (by omega)) ?_
                  refine m_ald (pc' := 317) cd_Mo_tells rfl (Or.inr ⟨_, rfl, rfl, rfl⟩) l0 rfl rfl ?_
                  refine m_fR (r := 41) (a := 42) (ad := 1524) (pc' := 320) rfl rfl cd_Mo_tells rfl rfl rfl rfl rfl ?_
                  refine m_ild (pc' := 321) cd_Mo_tells rfl (Or.inr ⟨_, rfl, rfl, rfl⟩) l1 rfl ?_
                  refine m_pure (pc' := 322) (st' := [.int (nI q), .ref 1524, .int (nI q), .ref 1524]) cd_Mo_tells rfl rfl (fun _ _ => rfl) ?_
                  refine m_aI (r := 41) (a := 42) (g := (A 42)) (x := (tm q)) (pc' := 323) rfl rfl cd_Mo_tells rfl rfl rfl (vp_in_nI (by omega) (by decide)) ((congrArg (A 42) (nI_clamp (by omega))).trans (congrFun h42 _)) ?_
                  refine m_k1 (v := 1) (pc' := 324) cd_Mo_tells rfl (by decide) rfl ?_
                  refine m_pure (pc' := 325) (st' := [.int ((tm q) + 1), .int (nI q), .ref 1524]) cd_Mo_tells rfl rfl (fun _ _ => rfl) ?_
                  refine m_aS (r := 41) (a := 42) (g := (A 42)) (p := q) (pc' := 326) rfl rfl cd_Mo_tells rfl rfl rfl (vp_in_nI (by omega) (by decide)) (nI_clamp (by omega)) ?_
                  rw [if_pos c232, if_neg (fun q => q.2 c198)] at kk
                  have hoc : oc = true := (by cases oc; exact absurd c263 (by decide); rfl)
                  rw [hoc] at kk
                  exact m_retv cd_Mo_tells rfl ⟨rfl, (kk _ _ (by exact MT_i hM rfl rfl rfl rfl rfl rfl rfl rfl rfl rfl) rfl (RS_t hS ⟨rfl, rfl, rfl, rfl⟩ ⟨rfl, rfl, rfl, rfl, rfl, rfl, rfl, rfl, rfl, rfl, rfl, rfl, rfl, rfl, rfl, rfl, rfl, rfl, rfl⟩ (qLs_take hq he h10 rfl (fun j j1 j2 => by simp only [fset]; rw [if_neg (by omega), if_neg (by omega), if_neg (by omega), if_neg (by omega), if_neg (by omega), if_neg (by omega)]) rfl (fun k => by show upd (A 38) i _ k = _; by_cases ck_ : k = i; rw [ck_, upd_same, if_pos ⟨rfl, rfl⟩]; rw [upd_ne ck_, if_neg (fun q => ck_ q.1)])) h53 h54 (congrArg (fun g => upd g q _) h39) (congrArg (fun g => upd g q _) h40) (congrArg (fun g => upd g q _) h41) (congrArg (fun g => upd g q _) h42)))⟩
      · have c198 : ¬ (e.2.2.2.2.2.2.2.2 q) = 2147483647 := c198
        refine m_ald (pc' := 202) cd_Mo_tells rfl (Or.inr ⟨_, rfl, rfl, rfl⟩) l0 rfl rfl ?_
        refine m_pure (pc' := 203) (st' := [.ref 1482, .ref 1482]) cd_Mo_tells rfl rfl (fun _ _ => rfl) ?_
        refine m_fI (k := 54) (x := du) (pc' := 206) cd_Mo_tells rfl rfl rfl rfl rfl h54 ?_
        refine m_k1 (v := 1) (pc' := 207) cd_Mo_tells rfl (by decide) rfl ?_
        refine m_pure (pc' := 208) (st' := [.int (du + 1), .ref 1482]) cd_Mo_tells rfl rfl (fun _ _ => rfl) ?_
        refine m_pI (k := 54) (pc' := 211) cd_Mo_tells rfl rfl rfl rfl (by simp [tm_okV, narrow, fits]) rfl rfl ?_
        refine m_ild (pc' := 213) cd_Mo_tells rfl (Or.inl ⟨rfl, rfl⟩) l7 rfl ?_
        refine m_k1 (v := (-1)) (pc' := 214) cd_Mo_tells rfl (by decide) rfl ?_
        refine m_if2 (t := 279) (pc' := 217) cd_Mo_tells rfl rfl rfl (fun c214 => ?_) (fun c214 => ?_)
        · have c214 : (nI i) = (-1) := c214
          exact absurd c214 (nI_nm1 (by omega))
        · have c214 : ¬ (nI i) = (-1) := c214
          refine m_ald (pc' := 218) cd_Mo_tells rfl (Or.inr ⟨_, rfl, rfl, rfl⟩) l0 rfl rfl ?_
          refine m_fR (r := 36) (a := 37) (ad := 1519) (pc' := 221) rfl rfl cd_Mo_tells rfl rfl rfl rfl rfl ?_
          refine m_k2 (v := 6) (pc' := 223) cd_Mo_tells rfl (by decide) rfl ?_
          refine m_ild (pc' := 225) cd_Mo_tells rfl (Or.inl ⟨rfl, rfl⟩) l7 rfl ?_
          refine m_pure (pc' := 226) (st' := [.int ((6 : Int32) * (nI i)), .ref 1519]) cd_Mo_tells rfl rfl (fun _ _ => rfl) ?_
          refine m_eq (show ((6 : Int32) * (nI i) : Int32) = nI (6 * i) from pk_mul 6 i) ?_
          refine m_ild (pc' := 227) cd_Mo_tells rfl (Or.inr ⟨_, rfl, rfl, rfl⟩) l1 rfl ?_
          refine m_pure (pc' := 228) (st' := [.int ((nI (6 * i)) + (nI q)), .ref 1519]) cd_Mo_tells rfl rfl (fun _ _ => rfl) ?_
          refine m_eq (show ((nI (6 * i)) + (nI q) : Int32) = nI ((6 * i) + q) from nI_add (6 * i) q) ?_
          refine m_aI (r := 36) (a := 37) (g := (A 37)) (x := (e.2.2.2.2.2.2.2.2 q)) (pc' := 229) rfl rfl cd_Mo_tells rfl rfl rfl (vp_in_nI (by omega) (by decide)) ((congrArg (A 37) (nI_clamp (by omega))).trans (a9 q hq)) ?_
          refine m_ldcw (pc' := 232) cd_Mo_tells rfl rfl rfl ?_
          refine m_if2 (t := 279) (pc' := 235) cd_Mo_tells rfl rfl rfl (fun c232 => ?_) (fun c232 => ?_)
          · have c232 : ¬ (e.2.2.2.2.2.2.2.2 q) = 2147483647 := c232
            refine m_ald (pc' := 280) cd_Mo_tells rfl (Or.inr ⟨_, rfl, rfl, rfl⟩) l0 rfl rfl ?_
            refine m_fR (r := 38) (a := 39) (ad := 1521) (pc' := 283) rfl rfl cd_Mo_tells rfl rfl rfl rfl rfl ?_
            refine m_ild (pc' := 284) cd_Mo_tells rfl (Or.inr ⟨_, rfl, rfl, rfl⟩) l1 rfl ?_
            refine m_ild (pc' := 286) cd_Mo_tells rfl (Or.inl ⟨rfl, rfl⟩) l7 rfl ?_
            refine m_aS (r := 38) (a := 39) (g := (A 39)) (p := q) (pc' := 287) rfl rfl cd_Mo_tells rfl rfl rfl (vp_in_nI (by omega) (by decide)) (nI_clamp (by omega)) ?_
            refine m_ald (pc' := 288) cd_Mo_tells rfl (Or.inr ⟨_, rfl, rfl, rfl⟩) l0 rfl rfl ?_
            refine m_fR (r := 39) (a := 40) (ad := 1522) (pc' := 291) rfl rfl cd_Mo_tells rfl rfl rfl rfl rfl ?_
            refine m_ild (pc' := 292) cd_Mo_tells rfl (Or.inr ⟨_, rfl, rfl, rfl⟩) l1 rfl ?_
            refine m_ild (pc' := 294) cd_Mo_tells rfl (Or.inl ⟨rfl, rfl⟩) l6 rfl ?_
            refine m_aS (r := 39) (a := 40) (g := (A 40)) (p := q) (pc' := 295) rfl rfl cd_Mo_tells rfl rfl rfl (vp_in_nI (by omega) (by decide)) (nI_clamp (by omega)) ?_
            refine m_ald (pc' := 296) cd_Mo_tells rfl (Or.inr ⟨_, rfl, rfl, rfl⟩) l0 rfl rfl ?_
            refine m_fR (r := 40) (a := 41) (ad := 1523) (pc' := 299) rfl rfl cd_Mo_tells rfl rfl rfl rfl rfl ?_
            refine m_ild (pc' := 300) cd_Mo_tells rfl (Or.inr ⟨_, rfl, rfl, rfl⟩) l1 rfl ?_
            refine m_ild (pc' := 301) cd_Mo_tells rfl (Or.inr ⟨_, rfl, rfl, rfl⟩) l3 rfl ?_
            refine m_if1 (t := 314) (pc' := 304) cd_Mo_tells rfl rfl rfl (fun c301 => ?_) (fun c301 => ?_)
            · exact absurd (show (1 : Int32) = 0 from c301) (by decide)
            · have c301 : ¬ (1 : Int32) = 0 := c301
              refine m_ald (pc' := 305) cd_Mo_tells rfl (Or.inr ⟨_, rfl, rfl, rfl⟩) l0 rfl rfl ?_
              refine m_ild (pc' := 307) cd_Mo_tells rfl (Or.inl ⟨rfl, rfl⟩) l4 rfl ?_
              refine m_k1 (v := 0) (pc' := 308) cd_Mo_tells rfl (by decide) rfl ?_
              refine m_ci (pc' := 311) cd_Mo_tells rfl rfl rfl rfl rfl cd_Mo_cell rfl (Nat.le_of_ble_eq_true rfl) (m_cellN (k := 0) (by exact MT_i hM rfl rfl rfl rfl rfl rfl rfl rfl rfl rfl) hH k7 (by decide) ?_)
              show mg _ _ _ 311 _ [.int (nu H 0), .int (nI q), .ref 1523] _ _
              refine m_pure (pc' := 315) (st' := [.int (nu H 0), .int (nI q), .ref 1523]) cd_Mo_tells rfl rfl (fun _ _ => rfl) ?_
              refine m_aS (r := 40) (a := 41) (g := (A 41)) (p := q) (pc' := 316) rfl rfl cd_Mo_tells rfl rfl rfl (vp_in_nI (by omega) (by decide)) (nI_clamp (by omega)) ?_
              refine m_ald (pc' := 317) cd_Mo_tells rfl (Or.inr ⟨_, rfl, rfl, rfl⟩) l0 rfl rfl ?_
              refine m_fR (r := 41) (a := 42) (ad := 1524) (pc' := 320) rfl rfl cd_Mo_tells rfl rfl rfl rfl rfl ?_
              refine m_ild (pc' := 321) cd_Mo_tells rfl (Or.inr ⟨_, rfl, rfl, rfl⟩) l1 rfl ?_
              refine m_pure (pc' := 322) (st' := [.int (nI q), .ref 1524, .int (nI q), .ref 1524]) cd_Mo_tells rfl rfl (fun _ _ => rfl) ?_
              refine m_aI (r := 41) (a := 42) (g := (A 42)) (x := (tm q)) (pc' := 323) rfl rfl cd_Mo_tells rfl rfl rfl (vp_in_nI (by omega) (by decide)) ((congrArg (A 42) (nI_clamp (by omega))).trans (congrFun h42 _)) ?_
              refine m_k1 (v := 1) (pc' := 324) cd_Mo_tells rfl (by decide) rfl ?_
              refine m_pure (pc' := 325) (st' := [.int ((tm q) + 1), .int (nI q), .ref 1524]) cd_Mo_tells rfl rfl (fun _ _ => rfl) ?_
              refine m_aS (r := 41) (a := 42) (g := (A 42)) (p := q) (pc' := 326) rfl rfl cd_Mo_tells rfl rfl rfl (vp_in_nI (by omega) (by decide)) (nI_clamp (by omega)) ?_
              rw [if_neg c232, if_pos ⟨c174, c198⟩] at kk
              exact m_retv cd_Mo_tells rfl ⟨rfl, (kk _ _ (by exact MT_i hM rfl rfl rfl rfl rfl rfl rfl rfl rfl rfl) rfl (RS_t hS ⟨rfl, rfl, rfl, rfl⟩ ⟨rfl, rfl, rfl, rfl, rfl, rfl, rfl, rfl, rfl, rfl, rfl, rfl, rfl, rfl, rfl, rfl, rfl, rfl, rfl⟩ (qLs_same h10 rfl (fun j j1 j2 => (fset_ne (by omega)).trans ((fset_ne (by omega)).trans ((fset_ne (by omega)).trans (fset_ne (by omega)))))) h53 (show du + 1 = du + 1 from rfl) (congrArg (fun g => upd g q _) h39) (congrArg (fun g => upd g q _) h40) (congrArg (fun g => upd g q _) h41) (congrArg (fun g => upd g q _) h42)))⟩
          · have c232 : (e.2.2.2.2.2.2.2.2 q) = 2147483647 := Classical.not_not.mp c232
            exact absurd c232 c198
set_option maxRecDepth 100000 in
theorem l_mtl1PS {sc : tm_X} {d : Nat} {f : Nat → Int32} {A : Nat → Nat → Int32} {T : List Tm} {DL : List (Int32 × Int32)} {G Kw : Tm → Prop} {dev : Nat → DV} {sto : Nat → ST} {ws : List (Tm × Int32)} {dir reg : Nat → Tm} {seen : List Tm} {ls : List RL} {lo dt db rt fl ll tl tf tg tm : Nat → Int32} {ck fo du : Int32} {q p hi : Nat} {H : Tm} {i : Nat} {e : RL} {oc : Bool} {cl di : Bool} {Q : MS → Prop} (hM : MT f A T DL G Kw) (hS : RS f A T DL dev sto ws dir reg seen ls lo (dt, db, rt, fl, ll, tl, tf, tg, tm, ck, fo, du)) (hq : q < 6) (hp : p < 6) (he : ls[i]? = some e) (hH : T[hi]? = some H) (k7 : kd H = 7) (h21 : A 44 21 = bz oc) (kk : ∀ f1 A1, MT f1 A1 T DL G Kw → f1 16 = f 16 → RS f1 A1 T DL dev sto ws dir reg seen (if e.2.2.2.2.2.2.2.2 q = 2147483647 then ls.set i (rl_take e q ck oc) else ls) lo (dt, db, rt, fl, ll, (upd tl q (nI i)), (upd tf q (nI p)), (upd tg q (nu H 0)), (upd tm q (tm q + 1)), ck, (if cl = true ∧ di = false then fo + 1 else fo), (if cl = true ∧ e.2.2.2.2.2.2.2.2 q ≠ 2147483647 then du + 1 else du)) → Q (f1, A1)) : ∀ lv : tm_L, lv.lookup 0 = some (.ref 1482) → lv.lookup 1 = some (.int (nI q)) → lv.lookup 3 = some (.int 1) → lv.lookup 4 = some (.int (nI hi)) → lv.lookup 6 = some (.int (nI p)) → lv.lookup 7 = some (.int (nI i)) → lv.lookup 8 = some (.int (bz cl)) → lv.lookup 9 = some (.int (bz di)) → mg sc (d + 1) 247 152 lv [] (f, A) (fun r s' => r = none ∧ Q s') := by
  intro lv l0 l1 l3 l4 l6 l7 l8 l9
  have h10 := hS.2.2.1.1
  have h24 := hS.2.2.2.2.2.1.1
  have h21c := hS.2.2.2.1.2.1
  have h53 := hS.2.2.2.1.2.2.1
  have h54 := hS.2.2.2.1.2.2.2
  have h39 := hS.2.2.2.2.2.2.1
  have h40 := hS.2.2.2.2.2.2.2.1
  have h41 := hS.2.2.2.2.2.2.2.2.1
  have h42 := hS.2.2.2.2.2.2.2.2.2
  have hi := (List.getElem?_eq_some_iff.mp he).1
  have h700 := h10.1.2
  obtain ⟨a1, a2, a3, a4, a5, a6, a7, a8, a9⟩ := h10.2 i e he
  refine m_ild (pc' := 154) cd_Mo_tells rfl (Or.inl ⟨rfl, rfl⟩) l8 rfl ?_
  refine m_if1 (t := 172) (pc' := 157) cd_Mo_tells rfl rfl rfl (fun c154 => ?_) (fun c154 => ?_)
  · have c154 : cl = false := bz_f c154
    rw [if_neg (show ¬ (cl = true ∧ di = false) from fun q => Bool.noConfusion (c154.symm.trans q.1))] at kk
    exact l_mtl2PS hM hS hq hp he hH k7 h21 kk lv l0 l1 l3 l4 l6 l7 l8
  · have c154 : cl = true := bz_t c154
    refine m_ild (pc' := 159) cd_Mo_tells rfl (Or.inl ⟨rfl, rfl⟩) l9 rfl ?_
    refine m_if1 (t := 172) (pc' := 162) cd_Mo_tells rfl rfl rfl (fun c159 => ?_) (fun c159 => ?_)
    · have c159 : di = true := bz_t c159
      rw [if_neg (show ¬ (cl = true ∧ di = false) from fun q => Bool.noConfusion (c159.symm.trans q.2))] at kk
      exact l_mtl2PS hM hS hq hp he hH k7 h21 kk lv l0 l1 l3 l4 l6 l7 l8
    · have c159 : di = false := bz_f (Classical.not_not.mp c159)
      refine m_ald (pc' := 163) cd_Mo_tells rfl (Or.inr ⟨_, rfl, rfl, rfl⟩) l0 rfl rfl ?_
      refine m_pure (pc' := 164) (st' := [.ref 1482, .ref 1482]) cd_Mo_tells rfl rfl (fun _ _ => rfl) ?_
      refine m_fI (k := 53) (x := fo) (pc' := 167) cd_Mo_tells rfl rfl rfl rfl rfl h53 ?_
      refine m_k1 (v := 1) (pc' := 168) cd_Mo_tells rfl (by decide) rfl ?_
      refine m_pure (pc' := 169) (st' := [.int (fo + 1), .ref 1482]) cd_Mo_tells rfl rfl (fun _ _ => rfl) ?_
      refine m_pI (k := 53) (pc' := 172) cd_Mo_tells rfl rfl rfl rfl (by simp [tm_okV, narrow, fits]) rfl rfl ?_
      rw [if_pos (show cl = true ∧ di = false from ⟨c154, c159⟩)] at kk
      refine l_mtl2PS (f := fset f 53 (fo + 1)) (A := A) (fo := fo + 1) (by exact MT_i hM rfl rfl rfl rfl rfl rfl rfl rfl rfl rfl) (RS_t hS ⟨rfl, rfl, rfl, rfl⟩ ⟨rfl, rfl, rfl, rfl, rfl, rfl, rfl, rfl, rfl, rfl, rfl, rfl, rfl, rfl, rfl, rfl, rfl, rfl, rfl⟩ h10 rfl h54 h39 h40 h41 h42) hq hp he hH k7 h21 (fun f1 A1 q1 q2 q3 => kk f1 A1 q1 q2 q3) lv l0 l1 l3 l4 l6 l7 l8
set_option maxRecDepth 100000 in
theorem l_mtl0PS {sc : tm_X} {d : Nat} {f : Nat → Int32} {A : Nat → Nat → Int32} {T : List Tm} {DL : List (Int32 × Int32)} {G Kw : Tm → Prop} {dev : Nat → DV} {sto : Nat → ST} {ws : List (Tm × Int32)} {dir reg : Nat → Tm} {seen : List Tm} {ls : List RL} {lo dt db rt fl ll tl tf tg tm : Nat → Int32} {ck fo du : Int32} {q p hi : Nat} {H : Tm} {i : Nat} {e : RL} {oc : Bool} {cl : Bool} {Q : MS → Prop} (hM : MT f A T DL G Kw) (hS : RS f A T DL dev sto ws dir reg seen ls lo (dt, db, rt, fl, ll, tl, tf, tg, tm, ck, fo, du)) (hq : q < 6) (hp : p < 6) (he : ls[i]? = some e) (hH : T[hi]? = some H) (k7 : kd H = 7) (h21 : A 44 21 = bz oc) (kk : ∀ f1 A1, MT f1 A1 T DL G Kw → f1 16 = f 16 → RS f1 A1 T DL dev sto ws dir reg seen (if e.2.2.2.2.2.2.2.2 q = 2147483647 then ls.set i (rl_take e q ck oc) else ls) lo (dt, db, rt, fl, ll, (upd tl q (nI i)), (upd tf q (nI p)), (upd tg q (nu H 0)), (upd tm q (tm q + 1)), ck, (if cl = true ∧ tl_did e (16 + nu H 0) (nI p) = false then fo + 1 else fo), (if cl = true ∧ e.2.2.2.2.2.2.2.2 q ≠ 2147483647 then du + 1 else du)) → Q (f1, A1)) : ∀ lv : tm_L, lv.lookup 0 = some (.ref 1482) → lv.lookup 1 = some (.int (nI q)) → lv.lookup 3 = some (.int 1) → lv.lookup 4 = some (.int (nI hi)) → lv.lookup 6 = some (.int (nI p)) → lv.lookup 7 = some (.int (nI i)) → lv.lookup 8 = some (.int (bz cl)) → mg sc (d + 1) 247 99 lv [] (f, A) (fun r s' => r = none ∧ Q s') := by
  intro lv l0 l1 l3 l4 l6 l7 l8
  have h10 := hS.2.2.1.1
  have h24 := hS.2.2.2.2.2.1.1
  have h21c := hS.2.2.2.1.2.1
  have h53 := hS.2.2.2.1.2.2.1
  have h54 := hS.2.2.2.1.2.2.2
  have h39 := hS.2.2.2.2.2.2.1
  have h40 := hS.2.2.2.2.2.2.2.1
  have h41 := hS.2.2.2.2.2.2.2.2.1
  have h42 := hS.2.2.2.2.2.2.2.2.2
  have hi := (List.getElem?_eq_some_iff.mp he).1
  have h700 := h10.1.2
  obtain ⟨a1, a2, a3, a4, a5, a6, a7, a8, a9⟩ := h10.2 i e he
  refine m_ild (pc' := 101) cd_Mo_tells rfl (Or.inl ⟨rfl, rfl⟩) l7 rfl ?_
  refine m_k1 (v := (-1)) (pc' := 102) cd_Mo_tells rfl (by decide) rfl ?_
  refine m_if2 (t := 149) (pc' := 105) cd_Mo_tells rfl rfl rfl (fun c102 => ?_) (fun c102 => ?_)
  · have c102 : (nI i) = (-1) := c102
    exact absurd c102 (nI_nm1 (by omega))
  · have c102 : ¬ (nI i) = (-1) := c102
    refine m_ald (pc' := 106) cd_Mo_tells rfl (Or.inr ⟨_, rfl, rfl, rfl⟩) l0 rfl rfl ?_
    refine m_fR (r := 30) (a := 31) (ad := 1513) (pc' := 109) rfl rfl cd_Mo_tells rfl rfl rfl rfl rfl ?_
    refine m_ild (pc' := 111) cd_Mo_tells rfl (Or.inl ⟨rfl, rfl⟩) l7 rfl ?_
    refine m_aI (r := 30) (a := 31) (g := (A 31)) (x := e.2.1) (pc' := 112) rfl rfl cd_Mo_tells rfl rfl rfl (vp_in_nI (by omega) (by decide)) ((congrArg (A 31) (nI_clamp (by omega))).trans a2) ?_
    refine m_ild (pc' := 114) cd_Mo_tells rfl (Or.inl ⟨rfl, rfl⟩) l6 rfl ?_
    refine m_if2 (t := 149) (pc' := 117) cd_Mo_tells rfl rfl rfl (fun c114 => ?_) (fun c114 => ?_)
    · have c114 : ¬ e.2.1 = (nI p) := c114
      refine m_k1 (v := 0) (pc' := 150) cd_Mo_tells rfl (by decide) rfl ?_
      refine m_ist (pc' := 152) cd_Mo_tells rfl (Or.inl ⟨rfl, rfl⟩) (by decide) rfl (fun lv el => ?_)
      have l0 := tm_lk el l0 rfl (by decide)
      have l1 := tm_lk el l1 rfl (by decide)
      have l3 := tm_lk el l3 rfl (by decide)
      have l4 := tm_lk el l4 rfl (by decide)
      have l6 := tm_lk el l6 rfl (by decide)
      have l7 := tm_lk el l7 rfl (by decide)
      have l8 := tm_lk el l8 rfl (by decide)
      have l9 : lv.lookup 9 = some (.int 0) := tm_lks el
      clear el
      have hdi : tl_did e (16 + nu H 0) (nI p) = false := (by unfold tl_did; rw [decide_eq_false c114]; rfl)
      rw [hdi] at kk
      exact l_mtl1PS (di := false) hM hS hq hp he hH k7 h21 kk lv l0 l1 l3 l4 l6 l7 l8 l9
    · have c114 : e.2.1 = (nI p) := Classical.not_not.mp c114
      refine m_ald (pc' := 118) cd_Mo_tells rfl (Or.inr ⟨_, rfl, rfl, rfl⟩) l0 rfl rfl ?_
      refine m_fR (r := 31) (a := 32) (ad := 1514) (pc' := 121) rfl rfl cd_Mo_tells rfl rfl rfl rfl rfl ?_
      refine m_ild (pc' := 123) cd_Mo_tells rfl (Or.inl ⟨rfl, rfl⟩) l7 rfl ?_
      refine m_aI (r := 31) (a := 32) (g := (A 32)) (x := e.2.2.1) (pc' := 124) rfl rfl cd_Mo_tells rfl rfl rfl (vp_in_nI (by omega) (by decide)) ((congrArg (A 32) (nI_clamp (by omega))).trans a3) ?_
      refine m_ild (pc' := 125) cd_Mo_tells rfl (Or.inr ⟨_, rfl, rfl, rfl⟩) l3 rfl ?_
      refine m_if1 (t := 141) (pc' := 128) cd_Mo_tells rfl rfl rfl (fun c125 => ?_) (fun c125 => ?_)
      · exact absurd (show (1 : Int32) = 0 from c125) (by decide)
      · have c125 : ¬ (1 : Int32) = 0 := c125
        refine m_k2 (v := 16) (pc' := 130) cd_Mo_tells rfl (by decide) rfl ?_
        refine m_ald (pc' := 131) cd_Mo_tells rfl (Or.inr ⟨_, rfl, rfl, rfl⟩) l0 rfl rfl ?_
        refine m_ild (pc' := 133) cd_Mo_tells rfl (Or.inl ⟨rfl, rfl⟩) l4 rfl ?_
        refine m_k1 (v := 0) (pc' := 134) cd_Mo_tells rfl (by decide) rfl ?_
        refine m_ci (pc' := 137) cd_Mo_tells rfl rfl rfl rfl rfl cd_Mo_cell rfl (Nat.le_of_ble_eq_true rfl) (m_cellN (k := 0) (by exact MT_i hM rfl rfl rfl rfl rfl rfl rfl rfl rfl rfl) hH k7 (by decide) ?_)
        show mg _ _ _ 137 _ [.int (nu H 0), .int 16, .int e.2.2.1] _ _
        refine m_pure (pc' := 138) (st' := [.int ((16 : Int32) + (nu H 0)), .int e.2.2.1]) cd_Mo_tells rfl rfl (fun _ _ => rfl) ?_
        refine m_pure (pc' := 142) (st' := [.int ((16 : Int32) + (nu H 0)), .int e.2.2.1]) cd_Mo_tells rfl rfl (fun _ _ => rfl) ?_
        refine m_if2 (t := 149) (pc' := 145) cd_Mo_tells rfl rfl rfl (fun c142 => ?_) (fun c142 => ?_)
        · have c142 : ¬ e.2.2.1 = ((16 : Int32) + (nu H 0)) := c142
          refine m_k1 (v := 0) (pc' := 150) cd_Mo_tells rfl (by decide) rfl ?_
          refine m_ist (pc' := 152) cd_Mo_tells rfl (Or.inl ⟨rfl, rfl⟩) (by decide) rfl (fun lv el => ?_)
          have l0 := tm_lk el l0 rfl (by decide)
          have l1 := tm_lk el l1 rfl (by decide)
          have l3 := tm_lk el l3 rfl (by decide)
          have l4 := tm_lk el l4 rfl (by decide)
          have l6 := tm_lk el l6 rfl (by decide)
          have l7 := tm_lk el l7 rfl (by decide)
          have l8 := tm_lk el l8 rfl (by decide)
          have l9 : lv.lookup 9 = some (.int 0) := tm_lks el
          clear el
          have hdi : tl_did e (16 + nu H 0) (nI p) = false := (by unfold tl_did; rw [decide_eq_false c142, Bool.and_false])
          rw [hdi] at kk
          exact l_mtl1PS (di := false) hM hS hq hp he hH k7 h21 kk lv l0 l1 l3 l4 l6 l7 l8 l9
        · have c142 : e.2.2.1 = ((16 : Int32) + (nu H 0)) := Classical.not_not.mp c142
          refine m_k1 (v := 1) (pc' := 146) cd_Mo_tells rfl (by decide) rfl ?_
          refine m_pure (pc' := 150) (st' := [.int 1]) cd_Mo_tells rfl rfl (fun _ _ => rfl) ?_
          refine m_ist (pc' := 152) cd_Mo_tells rfl (Or.inl ⟨rfl, rfl⟩) (by decide) rfl (fun lv el => ?_)
          have l0 := tm_lk el l0 rfl (by decide)
          have l1 := tm_lk el l1 rfl (by decide)
          have l3 := tm_lk el l3 rfl (by decide)
          have l4 := tm_lk el l4 rfl (by decide)
          have l6 := tm_lk el l6 rfl (by decide)
          have l7 := tm_lk el l7 rfl (by decide)
          have l8 := tm_lk el l8 rfl (by decide)
          have l9 : lv.lookup 9 = some (.int 1) := tm_lks el
          clear el
          have hdi : tl_did e (16 + nu H 0) (nI p) = true := (by unfold tl_did; rw [decide_eq_true c114, decide_eq_true c142]; rfl)
          rw [hdi] at kk
          exact l_mtl1PS (di := true) hM hS hq hp he hH k7 h21 kk lv l0 l1 l3 l4 l6 l7 l8 l9
set_option maxRecDepth 100000 in
theorem m_tellsPS {sc : tm_X} {d : Nat} {f : Nat → Int32} {A : Nat → Nat → Int32} {T : List Tm} {DL : List (Int32 × Int32)} {G Kw : Tm → Prop} {dev : Nat → DV} {sto : Nat → ST} {ws : List (Tm × Int32)} {dir reg : Nat → Tm} {seen : List Tm} {ls : List RL} {lo dt db rt fl ll tl tf tg tm : Nat → Int32} {ck fo du : Int32} {q p si_ : Nat} {X : Tm} {i m : Nat} {e : RL} {oc : Bool} {Q : MS → Prop} (hM : MT f A T DL G Kw) (hS : RS f A T DL dev sto ws dir reg seen ls lo (dt, db, rt, fl, ll, tl, tf, tg, tm, ck, fo, du)) (hq : q < 6) (hp : p < 6) (hX : T[si_]? = some X) (kX : kd X = 5) (k7h : kd (pt X 1) = 7) (k7b : kd (pt X 2) = 7) (ep : nu (pt X 1) 1 = nI p) (kY : kd (pt (pt X 2) 0) = 1) (hmk : mk (pt (pt X 2) 0) = nI m) (hm : m < 3000) (hlo : lo m = nI i) (he : ls[i]? = some e) (h21 : A 44 21 = bz oc) (kk : ∀ f1 A1, MT f1 A1 T DL G Kw → f1 16 = f 16 → RS f1 A1 T DL dev sto ws dir reg seen (if e.2.2.2.2.2.2.2.2 q = 2147483647 then ls.set i (rl_take e q ck oc) else ls) lo (dt, db, rt, fl, ll, (upd tl q (nI i)), (upd tf q (nI p)), (upd tg q (nu (pt X 1) 0)), (upd tm q (tm q + 1)), ck, (if tl_cl fl q p = true ∧ tl_did e (16 + nu (pt X 1) 0) (nI p) = false then fo + 1 else fo), (if tl_cl fl q p = true ∧ e.2.2.2.2.2.2.2.2 q ≠ 2147483647 then du + 1 else du)) → Q (f1, A1)) : mGv sc (d + 1) 247 [.ref 1482, .int (nI q), .int (nI si_), .int 1] (f, A) Q := by
  have hTl := MT_len hM
  have hsi := tv_lt hX
  obtain ⟨hi, ehi, hH⟩ := MT_two hM hX (Or.inr (Or.inl kX))
  obtain ⟨bi, ebi, hbi⟩ := MT_three hM hX kX
  have h13 := hS.2.2.1.2
  have h24 := hS.2.2.2.2.2.1.1
  show mg sc (d + 1) 247 0 [(0, .ref 1482), (1, .int (nI q)), (2, .int (nI si_)), (3, .int 1)] [] (f, A) _
  generalize elv : ([(0, .ref 1482), (1, .int (nI q)), (2, .int (nI si_)), (3, .int 1)] : tm_L) = lv
  have l0 : lv.lookup 0 = some (.ref 1482) := by rw [← elv]; rfl
  have l1 : lv.lookup 1 = some (.int (nI q)) := by rw [← elv]; rfl
  have l2 : lv.lookup 2 = some (.int (nI si_)) := by rw [← elv]; rfl
  have l3 : lv.lookup 3 = some (.int 1) := by rw [← elv]; rfl
  clear elv
  refine m_ald (pc' := 1) cd_Mo_tells rfl (Or.inr ⟨_, rfl, rfl, rfl⟩) l0 rfl rfl ?_
  refine m_fR (r := 2) (a := 3) (ad := 1485) (pc' := 4) rfl rfl cd_Mo_tells rfl rfl rfl rfl rfl ?_
  refine m_ild (pc' := 5) cd_Mo_tells rfl (Or.inr ⟨_, rfl, rfl, rfl⟩) l2 rfl ?_
  refine m_aI (r := 2) (a := 3) (g := (A 3)) (x := nI hi) (pc' := 6) rfl rfl cd_Mo_tells rfl rfl rfl (vp_in_nI (by omega) (by decide)) ((congrArg (A 3) (nI_clamp (by omega))).trans ehi) ?_
  refine m_ist (pc' := 8) cd_Mo_tells rfl (Or.inl ⟨rfl, rfl⟩) (by decide) rfl (fun lv el => ?_)
  have l0 := tm_lk el l0 rfl (by decide)
  have l1 := tm_lk el l1 rfl (by decide)
  have l2 := tm_lk el l2 rfl (by decide)
  have l3 := tm_lk el l3 rfl (by decide)
  have l4 : lv.lookup 4 = some (.int (nI hi)) := tm_lks el
  clear el
  refine m_ald (pc' := 9) cd_Mo_tells rfl (Or.inr ⟨_, rfl, rfl, rfl⟩) l0 rfl rfl ?_
  refine m_ald (pc' := 10) cd_Mo_tells rfl (Or.inr ⟨_, rfl, rfl, rfl⟩) l0 rfl rfl ?_
  refine m_fR (r := 3) (a := 4) (ad := 1486) (pc' := 13) rfl rfl cd_Mo_tells rfl rfl rfl rfl rfl ?_
  refine m_ild (pc' := 14) cd_Mo_tells rfl (Or.inr ⟨_, rfl, rfl, rfl⟩) l2 rfl ?_
  refine m_aI (r := 3) (a := 4) (g := (A 4)) (x := nI bi) (pc' := 15) rfl rfl cd_Mo_tells rfl rfl rfl (vp_in_nI (by omega) (by decide)) ((congrArg (A 4) (nI_clamp (by omega))).trans ebi) ?_
  refine m_k1 (v := 4) (pc' := 16) cd_Mo_tells rfl (by decide) rfl ?_
  refine m_ci (pc' := 19) cd_Mo_tells rfl rfl rfl rfl rfl cd_Mo_cell rfl (Nat.le_of_ble_eq_true rfl) (m_cellP (k := 0) hM hbi k7b (by decide) (fun ro hro => ?_))
  obtain ⟨yi, rfl, hyi⟩ := hro
  have hyil := tv_lt hyi
  have hkY := MT_kd hM hyi
  show mg _ _ _ 19 _ [.int (nI yi)] _ _
  refine m_ist (pc' := 21) cd_Mo_tells rfl (Or.inl ⟨rfl, rfl⟩) (by decide) rfl (fun lv el => ?_)
  have l0 := tm_lk el l0 rfl (by decide)
  have l1 := tm_lk el l1 rfl (by decide)
  have l2 := tm_lk el l2 rfl (by decide)
  have l3 := tm_lk el l3 rfl (by decide)
  have l4 := tm_lk el l4 rfl (by decide)
  have l5 : lv.lookup 5 = some (.int (nI yi)) := tm_lks el
  clear el
  refine m_ald (pc' := 22) cd_Mo_tells rfl (Or.inr ⟨_, rfl, rfl, rfl⟩) l0 rfl rfl ?_
  refine m_ild (pc' := 24) cd_Mo_tells rfl (Or.inl ⟨rfl, rfl⟩) l4 rfl ?_
  refine m_ild (pc' := 25) cd_Mo_tells rfl (Or.inr ⟨_, rfl, rfl, rfl⟩) l3 rfl ?_
  refine m_if1 (t := 32) (pc' := 28) cd_Mo_tells rfl rfl rfl (fun c25 => ?_) (fun c25 => ?_)
  · exact absurd (show (1 : Int32) = 0 from c25) (by decide)
  · have c25 : ¬ (1 : Int32) = 0 := c25
    refine m_k1 (v := 1) (pc' := 29) cd_Mo_tells rfl (by decide) rfl ?_
    refine m_pure (pc' := 33) (st' := [.int 1, .int (nI hi), .ref 1482]) cd_Mo_tells rfl rfl (fun _ _ => rfl) ?_
    refine m_ci (pc' := 36) cd_Mo_tells rfl rfl rfl rfl rfl cd_Mo_cell rfl (Nat.le_of_ble_eq_true rfl) (m_cellE (k := 1) hM hH k7h (by decide) ep ?_)
    show mg _ _ _ 36 _ [.int (nI p)] _ _
    refine m_ist (pc' := 38) cd_Mo_tells rfl (Or.inl ⟨rfl, rfl⟩) (by decide) rfl (fun lv el => ?_)
    have l0 := tm_lk el l0 rfl (by decide)
    have l1 := tm_lk el l1 rfl (by decide)
    have l2 := tm_lk el l2 rfl (by decide)
    have l3 := tm_lk el l3 rfl (by decide)
    have l4 := tm_lk el l4 rfl (by decide)
    have l5 := tm_lk el l5 rfl (by decide)
    have l6 : lv.lookup 6 = some (.int (nI p)) := tm_lks el
    clear el
    refine m_ald (pc' := 39) cd_Mo_tells rfl (Or.inr ⟨_, rfl, rfl, rfl⟩) l0 rfl rfl ?_
    refine m_fR (r := 0) (a := 1) (ad := 1483) (pc' := 42) rfl rfl cd_Mo_tells rfl rfl rfl rfl rfl ?_
    refine m_ild (pc' := 44) cd_Mo_tells rfl (Or.inl ⟨rfl, rfl⟩) l5 rfl ?_
    refine m_aI (r := 0) (a := 1) (g := (A 1)) (x := (kd (pt (pt X 2) 0))) (pc' := 45) rfl rfl cd_Mo_tells rfl rfl rfl (vp_in_nI (by omega) (by decide)) ((congrArg (A 1) (nI_clamp (by omega))).trans hkY) ?_
    refine m_k1 (v := 1) (pc' := 46) cd_Mo_tells rfl (by decide) rfl ?_
    refine m_if2 (t := 64) (pc' := 49) cd_Mo_tells rfl rfl rfl (fun c46 => ?_) (fun c46 => ?_)
    · have c46 : ¬ (kd (pt (pt X 2) 0)) = 1 := c46
      exact absurd kY c46
    · have c46 : (kd (pt (pt X 2) 0)) = 1 := Classical.not_not.mp c46
      refine m_ald (pc' := 50) cd_Mo_tells rfl (Or.inr ⟨_, rfl, rfl, rfl⟩) l0 rfl rfl ?_
      refine m_fR (r := 12) (a := 13) (ad := 1495) (pc' := 53) rfl rfl cd_Mo_tells rfl rfl rfl rfl rfl ?_
      refine m_ald (pc' := 54) cd_Mo_tells rfl (Or.inr ⟨_, rfl, rfl, rfl⟩) l0 rfl rfl ?_
      refine m_fR (r := 1) (a := 2) (ad := 1484) (pc' := 57) rfl rfl cd_Mo_tells rfl rfl rfl rfl rfl ?_
      refine m_ild (pc' := 59) cd_Mo_tells rfl (Or.inl ⟨rfl, rfl⟩) l5 rfl ?_
      refine m_aI (r := 1) (a := 2) (g := (A 2)) (x := nI m) (pc' := 60) rfl rfl cd_Mo_tells rfl rfl rfl (vp_in_nI (by omega) (by decide)) ((congrArg (A 2) (nI_clamp (by omega))).trans ((MT_mk hM hyi (Or.inl c46)).trans hmk)) ?_
      refine m_aI (r := 12) (a := 13) (g := (A 13)) (x := nI i) (pc' := 61) rfl rfl cd_Mo_tells rfl rfl rfl (vp_in_nI (by omega) (by decide)) ((congrArg (A 13) (nI_clamp (by omega))).trans ((congrFun h13 _).trans hlo)) ?_
      refine m_pure (pc' := 65) (st' := [.int (nI i)]) cd_Mo_tells rfl rfl (fun _ _ => rfl) ?_
      refine m_ist (pc' := 67) cd_Mo_tells rfl (Or.inl ⟨rfl, rfl⟩) (by decide) rfl (fun lv el => ?_)
      have l0 := tm_lk el l0 rfl (by decide)
      have l1 := tm_lk el l1 rfl (by decide)
      have l2 := tm_lk el l2 rfl (by decide)
      have l3 := tm_lk el l3 rfl (by decide)
      have l4 := tm_lk el l4 rfl (by decide)
      have l5 := tm_lk el l5 rfl (by decide)
      have l6 := tm_lk el l6 rfl (by decide)
      have l7 : lv.lookup 7 = some (.int (nI i)) := tm_lks el
      clear el
      refine m_ald (pc' := 68) cd_Mo_tells rfl (Or.inr ⟨_, rfl, rfl, rfl⟩) l0 rfl rfl ?_
      refine m_fR (r := 23) (a := 24) (ad := 1506) (pc' := 71) rfl rfl cd_Mo_tells rfl rfl rfl rfl rfl ?_
      refine m_ild (pc' := 72) cd_Mo_tells rfl (Or.inr ⟨_, rfl, rfl, rfl⟩) l1 rfl ?_
      refine m_aI (r := 23) (a := 24) (g := (A 24)) (x := (fl q)) (pc' := 73) rfl rfl cd_Mo_tells rfl rfl rfl (vp_in_nI (by omega) (by decide)) ((congrArg (A 24) (nI_clamp (by omega))).trans (congrFun h24 _)) ?_
      refine m_ldcw (pc' := 76) cd_Mo_tells rfl rfl rfl ?_
      refine m_if2 (t := 96) (pc' := 79) cd_Mo_tells rfl rfl rfl (fun c76 => ?_) (fun c76 => ?_)
      · have c76 : ¬ (fl q) = 2147483647 := c76
        refine m_k1 (v := 0) (pc' := 97) cd_Mo_tells rfl (by decide) rfl ?_
        refine m_ist (pc' := 99) cd_Mo_tells rfl (Or.inl ⟨rfl, rfl⟩) (by decide) rfl (fun lv el => ?_)
        have l0 := tm_lk el l0 rfl (by decide)
        have l1 := tm_lk el l1 rfl (by decide)
        have l2 := tm_lk el l2 rfl (by decide)
        have l3 := tm_lk el l3 rfl (by decide)
        have l4 := tm_lk el l4 rfl (by decide)
        have l5 := tm_lk el l5 rfl (by decide)
        have l6 := tm_lk el l6 rfl (by decide)
        have l7 := tm_lk el l7 rfl (by decide)
        have l8 : lv.lookup 8 = some (.int 0) := tm_lks el
        clear el
        have hcl : tl_cl fl q p = false := (by unfold tl_cl; rw [decide_eq_false c76]; rfl)
        rw [hcl] at kk
        exact l_mtl0PS (cl := false) (hi := hi) (H := pt X 1) hM hS hq hp he hH k7h h21 kk lv l0 l1 l3 l4 l6 l7 l8
      · have c76 : (fl q) = 2147483647 := Classical.not_not.mp c76
        refine m_ald (pc' := 80) cd_Mo_tells rfl (Or.inr ⟨_, rfl, rfl, rfl⟩) l0 rfl rfl ?_
        refine m_fR (r := 23) (a := 24) (ad := 1506) (pc' := 83) rfl rfl cd_Mo_tells rfl rfl rfl rfl rfl ?_
        refine m_ild (pc' := 85) cd_Mo_tells rfl (Or.inl ⟨rfl, rfl⟩) l6 rfl ?_
        refine m_aI (r := 23) (a := 24) (g := (A 24)) (x := (fl p)) (pc' := 86) rfl rfl cd_Mo_tells rfl rfl rfl (vp_in_nI (by omega) (by decide)) ((congrArg (A 24) (nI_clamp (by omega))).trans (congrFun h24 _)) ?_
        refine m_ldcw (pc' := 89) cd_Mo_tells rfl rfl rfl ?_
        refine m_if2 (t := 96) (pc' := 92) cd_Mo_tells rfl rfl rfl (fun c89 => ?_) (fun c89 => ?_)
        · have c89 : ¬ (fl p) = 2147483647 := c89
          refine m_k1 (v := 0) (pc' := 97) cd_Mo_tells rfl (by decide) rfl ?_
          refine m_ist (pc' := 99) cd_Mo_tells rfl (Or.inl ⟨rfl, rfl⟩) (by decide) rfl (fun lv el => ?_)
          have l0 := tm_lk el l0 rfl (by decide)
          have l1 := tm_lk el l1 rfl (by decide)
          have l2 := tm_lk el l2 rfl (by decide)
          have l3 := tm_lk el l3 rfl (by decide)
          have l4 := tm_lk el l4 rfl (by decide)
          have l5 := tm_lk el l5 rfl (by decide)
          have l6 := tm_lk el l6 rfl (by decide)
          have l7 := tm_lk el l7 rfl (by decide)
          have l8 : lv.lookup 8 = some (.int 0) := tm_lks el
          clear el
          have hcl : tl_cl fl q p = false := (by unfold tl_cl; rw [decide_eq_false c89, Bool.and_false])
          rw [hcl] at kk
          exact l_mtl0PS (cl := false) (hi := hi) (H := pt X 1) hM hS hq hp he hH k7h h21 kk lv l0 l1 l3 l4 l6 l7 l8
        · have c89 : (fl p) = 2147483647 := Classical.not_not.mp c89
          refine m_k1 (v := 1) (pc' := 93) cd_Mo_tells rfl (by decide) rfl ?_
          refine m_pure (pc' := 97) (st' := [.int 1]) cd_Mo_tells rfl rfl (fun _ _ => rfl) ?_
          refine m_ist (pc' := 99) cd_Mo_tells rfl (Or.inl ⟨rfl, rfl⟩) (by decide) rfl (fun lv el => ?_)
          have l0 := tm_lk el l0 rfl (by decide)
          have l1 := tm_lk el l1 rfl (by decide)
          have l2 := tm_lk el l2 rfl (by decide)
          have l3 := tm_lk el l3 rfl (by decide)
          have l4 := tm_lk el l4 rfl (by decide)
          have l5 := tm_lk el l5 rfl (by decide)
          have l6 := tm_lk el l6 rfl (by decide)
          have l7 := tm_lk el l7 rfl (by decide)
          have l8 : lv.lookup 8 = some (.int 1) := tm_lks el
          clear el
          have hcl : tl_cl fl q p = true := (by unfold tl_cl; rw [decide_eq_true c76, decide_eq_true c89]; rfl)
          rw [hcl] at kk
          exact l_mtl0PS (cl := true) (hi := hi) (H := pt X 1) hM hS hq hp he hH k7h h21 kk lv l0 l1 l3 l4 l6 l7 l8
