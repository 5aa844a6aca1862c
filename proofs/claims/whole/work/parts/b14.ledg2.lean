/-! The ledgers: what is taken -/
theorem nI_nN {k : Nat} (h : k < 1000000) : nI k ≠ (2147483647 : Int32) := fun q => by
  have := congrArg Int32.toInt q
  rw [nI_toInt (by omega)] at this
  exact absurd this (by show ¬ (k : Int) = 2147483647; omega)
/-- which letter, on both sides -/
theorem lw_eq {DL : List (Int32 × Int32)} {bd lo : Nat → Int32} {S : Tm} (hbd : ∀ m, m < DL.length → bd m = lo m) (hdl : DL.length ≤ 2960) (hS : kd S = 1 → SD DL S) : lg_with bd S = rt_l lo S := by
  unfold lg_with rt_l
  by_cases k : kd S = 1
  · rw [if_pos k, if_pos k]
    obtain ⟨m, d, p, hm, rfl⟩ := hS k
    have hl := (List.getElem?_eq_some_iff.mp hm).1
    show (if nI m < 0 then -1 else if 3000 ≤ nI m then -1 else bd (nI m).toNatClampNeg) = lo (nI m).toNatClampNeg
    rw [if_neg (nI_nlt0 (by omega)), if_neg (show ¬ (3000 : Int32) ≤ nI m from nI_ge (b := 3000) (by omega) (by decide)), nI_clamp (by omega)]
    exact hbd m hl
  · rw [if_neg k, if_neg k]
theorem rl_ix {DL : List (Int32 × Int32)} {lo : Nat → Int32} {ls : List RL} {S : Tm} (hlo : ∀ m, m < DL.length → lo m = -1 ∨ ∃ i r, ls[i]? = some r ∧ lo m = nI i ∧ mk r.1 = nI m) (hdl : DL.length ≤ 2960) (hS : kd S = 1 → SD DL S) : rt_l lo S = -1 ∨ ∃ i r m, ls[i]? = some r ∧ rt_l lo S = nI i ∧ kd S = 1 ∧ m < DL.length ∧ mk S = nI m ∧ mk r.1 = nI m := by
  unfold rt_l
  by_cases k : kd S = 1
  · rw [if_pos k]
    obtain ⟨m, d, p, hm, rfl⟩ := hS k
    have hl := (List.getElem?_eq_some_iff.mp hm).1
    have e : mk (Tsec (nI m) d p) = nI m := rfl
    rw [e, nI_clamp (by omega)]
    rcases hlo m hl with h | ⟨i, r, h1, h2, h3⟩
    · exact Or.inl h
    · exact Or.inr ⟨i, r, m, h1, h2, k, hl, rfl, h3⟩
  · exact Or.inl (if_neg k)
theorem lt_so_did {DL : List (Int32 × Int32)} {b : Nat} {e : LT} {r : RL} {q : Nat} {cf cg : Int32} (h : LE DL b e r) (hq : q < 6) (hcg : cg = -1 ∨ ∃ g, g < 4 ∧ cg = nI g) : lt_so e cf cg (nI q) = tl_did r (rt_to q cg) cf := by
  obtain ⟨se, fm, to, gr, ma, on, mi, th, tk, sf⟩ := e
  obtain ⟨se', fm', to', on', mi', th', ma', gi, tks⟩ := r
  obtain ⟨⟨-, h2, s, h3, h4, -⟩, h7, -⟩ := h
  show (decide (fm = cf) && (decide (gr = cg) && (!decide (cg = -1) || decide (to = nI q)))) = (decide (fm' = cf) && decide (to' = rt_to q cg))
  rw [h2]
  congr 1
  unfold rt_to
  rcases h7 with ⟨a1, ⟨d, a2, a3⟩, a4, -⟩ | ⟨g, a1, a2, a3, -⟩
  · rw [a1, a4]
    rcases hcg with c | ⟨g', c1, c2⟩
    · rw [c, if_pos rfl, decide_eq_true rfl]
      rfl
    · have hn : nI g' ≠ -1 := nI_nm1 (by omega)
      rw [c2, if_neg hn, decide_eq_false (fun z => hn z.symm), a3]
      refine (decide_eq_false (fun z => ?_)).symm
      rw [show (16 : Int32) + nI g' = nI (16 + g') from nI_add 16 g'] at z
      have := nI_cxl (by omega) (by omega) z
      omega
  · have hn : nI g ≠ -1 := nI_nm1 (by omega)
    rw [a2, a3]
    rcases hcg with c | ⟨g', c1, c2⟩
    · rw [c, if_pos rfl, decide_eq_false hn]
      refine (decide_eq_false (fun z => ?_)).symm
      have := nI_cxl (by omega) (by omega) z
      omega
    · have hn' : nI g' ≠ -1 := nI_nm1 (by omega)
      rw [c2, if_neg hn', decide_eq_false hn', show (16 : Int32) + nI g' = nI (16 + g') from nI_add 16 g']
      by_cases z : g = g'
      · rw [z, decide_eq_true rfl, decide_eq_true rfl]; rfl
      · rw [decide_eq_false (fun k => z (nI_cxl (by omega) (by omega) k)), Bool.false_and]
        exact (decide_eq_false (fun k => z (by have := nI_cxl (by omega) (by omega) k; omega))).symm
theorem LE_take {DL : List (Int32 × Int32)} {b : Nat} {e : LT} {r : RL} {q : Nat} {sb x : Int32} {gi : Bool} (h : LE DL b e r) (hq : q < 6) (hx : x = nI (b + 1)) (hb : b ≤ 100) : LE DL (b + 1) (lt_take e (1 <<< (nI q &&& 31)) sb) (rl_take r q x gi) ∧ (r.2.2.2.2.2.2.2.2 q ≠ 2147483647 → LE DL (b + 1) (lt_take e (1 <<< (nI q &&& 31)) sb) r) := by
  subst hx
  obtain ⟨se, fm, to, gr, ma, on, mi, th, tk, sf⟩ := e
  obtain ⟨se', fm', to', on', mi', th', ma', gf, tks⟩ := r
  obtain ⟨h1, h7, h8⟩ := h
  refine ⟨⟨h1, h7, fun p hp => ?_⟩, fun hne => ⟨h1, h7, fun p hp => ?_⟩⟩
  · obtain ⟨a1, a2⟩ := h8 p hp
    rw [hbit_or _ _ (by omega), hbit_one (by omega) (by omega)]
    by_cases c : p = q
    · subst c
      rw [upd_same, decide_eq_true rfl, Bool.or_true, decide_eq_true (nI_nN (by omega))]
      exact ⟨rfl, Or.inr ⟨b + 1, Nat.le_refl _, rfl⟩⟩
    · rw [upd_ne c, decide_eq_false c, Bool.or_false]
      refine ⟨a1, ?_⟩
      rcases a2 with a2 | ⟨t, a2, a3⟩
      · exact Or.inl a2
      · exact Or.inr ⟨t, by omega, a3⟩
  · obtain ⟨a1, a2⟩ := h8 p hp
    rw [hbit_or _ _ (by omega), hbit_one (by omega) (by omega)]
    refine ⟨?_, ?_⟩
    · by_cases c : p = q
      · subst c
        have hne : tks p ≠ 2147483647 := hne
        rw [decide_eq_true rfl, Bool.or_true, decide_eq_true hne]
      · rw [decide_eq_false c, Bool.or_false]; exact a1
    · rcases a2 with a2 | ⟨t, a2, a3⟩
      · exact Or.inl a2
      · exact Or.inr ⟨t, by omega, a3⟩
section LGX
variable {b b' : Nat} {DL : List (Int32 × Int32)} {ls : List RL} {lo : Nat → Int32} {Lc : List LT} {bd llc tc tlc tfc tgc : Nat → Int32} {cf cg : Int32} {ct : Tm} {co : Bool} {li foc dbc : Int32} {dt db rt fl ll tl tf tg tm : Nat → Int32} {ck fo du : Int32}
theorem LGX_tk {q : Nat} {w c g : Int32} (hq : q < 6) (hb : b ≤ 100) (h4 : ∀ p, p < 6 → (∃ k, k ≤ b ∧ tc p = nI k) ∧ tm p = tc p ∧ (tc p = 0 → tl p = -1 ∧ tf p = -1 ∧ tg p = -1) ∧ (tc p ≠ 0 → tlc p = tl p ∧ tfc p = tf p ∧ tgc p = tg p)) : ∀ p, p < 6 → (∃ k, k ≤ b + 1 ∧ upd tc q (tc q + 1) p = nI k) ∧ upd tm q (tm q + 1) p = upd tc q (tc q + 1) p ∧ (upd tc q (tc q + 1) p = 0 → upd tl q w p = -1 ∧ upd tf q c p = -1 ∧ upd tg q g p = -1) ∧ (upd tc q (tc q + 1) p ≠ 0 → upd tlc q w p = upd tl q w p ∧ upd tfc q c p = upd tf q c p ∧ upd tgc q g p = upd tg q g p) := fun p hp => by
  obtain ⟨⟨k, a1, a2⟩, a3, a4, a5⟩ := h4 p hp
  by_cases z : p = q
  · subst z
    simp only [upd_same]
    have e : tc p + 1 = nI (k + 1) := by rw [a2]; exact nI_s1 k
    refine ⟨⟨k + 1, by omega, e⟩, by rw [a3], fun q0 => ?_, fun _ => by simp⟩
    rw [e] at q0
    have := nI_cxl (a := k + 1) (b := 0) (by omega) (by omega) q0
    omega
  · simp only [upd_ne z]
    exact ⟨⟨k, by omega, a2⟩, a3, a4, a5⟩
theorem LGX_cl {q c : Nat} {v : Int32} (hq : q < 6) (hc : c < 6) (hv : v = nI c) (h5 : ∀ p, p < 6 → hbit li (nI p) = decide (fl p ≠ 2147483647)) : (hbit li (nI q) = true ∨ hbit li v = true) ↔ ¬ tl_cl fl q v.toNatClampNeg = true := by
  subst hv
  rw [nI_clamp (by omega), h5 q hq, h5 c hc]
  unfold tl_cl
  by_cases a : fl q = 2147483647 <;> by_cases b : fl c = 2147483647 <;> simp [a, b]
theorem LGX_taken {xf xg : Int32} {xt : Tm} {xo : Bool} (h : LGX b b DL ls lo (Lc, bd, llc, tc, tlc, tfc, tgc, xf, xg, xt, xo, li, foc, dbc) (dt, db, rt, fl, ll, tl, tf, tg, tm, ck, fo, du)) {q : Nat} {S : Tm} {oc : Bool} {x : Int32} (hq : q < 6) (hx : x = nI (b + 1)) (hb : b ≤ 100) (hl7 : ls.length ≤ 700) (hdl : DL.length ≤ 2960) (hS : kd S = 1 → SD DL S) (hcf : ∃ c, c < 6 ∧ cf = nI c) (hcg : cg = -1 ∨ ∃ g, g < 4 ∧ cg = nI g) : LGX b (b + 1) DL (rt_ls ls lo q cg S oc x) lo (lg_taken (Lc, bd, llc, tc, tlc, tfc, tgc, cf, cg, S, oc, li, foc, dbc) q) (dt, db, rt, fl, ll, upd tl q (rt_l lo S), upd tf q cf, upd tg q cg, upd tm q (tm q + 1), ck, rt_fo ls lo fl q cf cg S fo, rt_du ls lo fl q cf S du) := by
  obtain ⟨⟨⟨h1, h2⟩, h3, h3b, h3c⟩, h4, ⟨h5, h5b⟩, h6, h7, h8⟩ := h
  obtain ⟨c, hc, hcf⟩ := hcf
  have kw := lw_eq (fun m hm => (h3 m hm).1) hdl hS
  have kc := LGX_cl hq hc hcf (fun p hp => (h5 p hp).1)
  have k4 := LGX_tk (q := q) (w := rt_l lo S) (c := cf) (g := cg) hq hb h4
  have k6 : ∀ m d p, DL[m]? = some (d, p) → (∃ t, t ≤ b + 1 ∧ dt m = nI t) ∧ rt m = bz (decide (p = 1 ∨ p = 2)) ∧ (p = 1 ∨ p = 2 → db m = d) ∧ ∀ q, q < 6 → (llc q ≤ nI m ↔ ll q < dt m) := fun m d p hm => by
    obtain ⟨⟨t, a1, a2⟩, a3⟩ := h6 m d p hm
    exact ⟨⟨t, by omega, a2⟩, a3⟩
  rcases rl_ix (fun m hm => (h3 m hm).2) hdl hS with hw | ⟨i, r, m, hr, hw, kS, hml, hmk, hmr⟩
  · have e0 : lg_get Lc (lg_with bd S) = none := by
      rw [kw, hw]
      unfold lg_get
      rw [if_neg]
      rw [inR_lo (by decide)]
      decide
    have er := rt_none (ls := ls) hw
    unfold lg_taken rt_ls rt_fo rt_du
    dsimp only
    rw [e0, er, kw]
    dsimp only
    refine ⟨⟨⟨h1, fun i e r he hr => LE_le (by omega) (h2 i e r he hr)⟩, h3, h3b, h3c⟩, k4, ⟨h5, h5b⟩, k6, ?_, h8⟩
    rw [h7]
    by_cases z : tl_cl fl q cf.toNatClampNeg = true
    · rw [if_pos z, if_neg (fun w => kc.mp w z)]
    · rw [if_neg z, if_pos (kc.mpr z)]
  · have hi := (List.getElem?_eq_some_iff.mp hr).1
    obtain ⟨e, he⟩ : ∃ e, Lc[i]? = some e := ⟨_, List.getElem?_eq_getElem (by omega)⟩
    have hE := h2 i e r he hr
    have e0 : lg_get Lc (lg_with bd S) = some e := by rw [kw, hw]; exact lg_get_t he (by omega)
    have er := rt_some hw hr hl7
    have eso := lt_so_did (cf := cf) hE hq hcg
    have hT := LE_take (sb := if lt_so e cf cg (nI q) = true ∧ oc = true ∧ e.2.2.2.2.1 &&& li = 0 then 1 <<< (nI q &&& 31) else 0) (gi := if cg = -1 then false else oc) hE hq hx hb
    have etk : hbit e.2.2.2.2.2.2.2.2.1 (nI q) = decide (r.2.2.2.2.2.2.2.2 q ≠ 2147483647) := by
      obtain ⟨se, fm, to, gr, ma, on, mi, th, tk, sf⟩ := e
      obtain ⟨se', fm', to', on', mi', th', ma', gf, tks⟩ := r
      exact (hE.2.2 q hq).1
    unfold lg_taken rt_ls rt_fo rt_du
    dsimp only
    rw [e0, er, kw]
    dsimp only
    rw [hw] at k4
    rw [hw, nI_clamp (by omega)]
    have hr1 : mk (rl_take r q x (if cg = -1 then false else oc)).1 = mk r.1 := by obtain ⟨se', fm', to', on', mi', th', ma', gf, tks⟩ := r; rfl
    have hset : ∀ (r' : RL), mk r'.1 = mk r.1 → LE DL (b + 1) (lt_take e (1 <<< (nI q &&& 31)) (if lt_so e cf cg (nI q) = true ∧ oc = true ∧ e.2.2.2.2.1 &&& li = 0 then 1 <<< (nI q &&& 31) else 0)) r' → ((Lc.set i (lt_take e (1 <<< (nI q &&& 31)) (if lt_so e cf cg (nI q) = true ∧ oc = true ∧ e.2.2.2.2.1 &&& li = 0 then 1 <<< (nI q &&& 31) else 0))).length = (ls.set i r').length ∧ ∀ (k : Nat) (e1 : LT) (r1 : RL), (Lc.set i (lt_take e (1 <<< (nI q &&& 31)) (if lt_so e cf cg (nI q) = true ∧ oc = true ∧ e.2.2.2.2.1 &&& li = 0 then 1 <<< (nI q &&& 31) else 0)))[k]? = some e1 → (ls.set i r')[k]? = some r1 → LE DL (b + 1) e1 r1) ∧ (∀ m, m < DL.length → bd m = lo m ∧ (lo m = -1 ∨ ∃ k r1, (ls.set i r')[k]? = some r1 ∧ lo m = nI k ∧ mk r1.1 = nI m)) ∧ (∀ m, DL.length ≤ m → m < 3000 → bd m = -1) ∧ ∀ (k : Nat) (r1 : RL), (ls.set i r')[k]? = some r1 → ∃ m, m < DL.length ∧ mk r1.1 = nI m ∧ lo m = nI k := fun r' hmk' hL => by
      refine ⟨⟨by rw [List.length_set, List.length_set, h1], fun k e1 r1 he1 hr1 => ?_⟩, fun m hm => ⟨(h3 m hm).1, ?_⟩, h3b, fun k r1 hr1 => ?_⟩
      · by_cases z : k = i
        · subst z
          rw [List.getElem?_set_self (by omega)] at he1 hr1
          cases he1; cases hr1
          exact hL
        · rw [List.getElem?_set_ne (fun w => z w.symm)] at he1 hr1
          exact LE_le (by omega) (h2 k e1 r1 he1 hr1)
      · rcases (h3 m hm).2 with a | ⟨k, r1, a1, a2, a3⟩
        · exact Or.inl a
        · refine Or.inr ?_
          by_cases z : k = i
          · subst z
            rw [hr] at a1; cases a1
            exact ⟨k, r', List.getElem?_set_self hi, a2, hmk'.trans a3⟩
          · exact ⟨k, r1, by rw [List.getElem?_set_ne (fun w => z w.symm)]; exact a1, a2, a3⟩
      · by_cases z : k = i
        · subst z
          rw [List.getElem?_set_self hi] at hr1
          cases hr1
          obtain ⟨m, a1, a2, a3⟩ := h3c k r hr
          exact ⟨m, a1, hmk'.trans a2, a3⟩
        · rw [List.getElem?_set_ne (fun w => z w.symm)] at hr1
          exact h3c k r1 hr1
    refine ⟨?_, k4, ⟨h5, h5b⟩, k6, ?_, ?_⟩
    · by_cases z : r.2.2.2.2.2.2.2.2 q = 2147483647
      · rw [if_pos z]
        exact hset _ hr1 hT.1
      · rw [if_neg z]
        have := hset r rfl (hT.2 z)
        rw [show ls.set i r = ls from by
          apply List.ext_getElem?
          intro k
          by_cases w : k = i
          · subst w; rw [List.getElem?_set_self hi, hr]
          · rw [List.getElem?_set_ne (fun v => w v.symm)]] at this
        exact this
    · rw [h7, eso]
      by_cases z : tl_cl fl q cf.toNatClampNeg = true
      · cases hd : tl_did r (rt_to q cg) cf
        · rw [if_neg (fun w => w.elim (fun w => kc.mp (Or.inl w) z) (fun w => w.elim (fun w => kc.mp (Or.inr w) z) (fun w => by cases w))), if_pos ⟨z, rfl⟩]
        · rw [if_pos (Or.inr (Or.inr rfl)), if_neg (fun w => by cases w.2)]
      · rcases kc.mpr z with w | w
        · rw [if_pos (Or.inl w), if_neg (fun w => z w.1)]
        · rw [if_pos (Or.inr (Or.inl w)), if_neg (fun w => z w.1)]
    · rw [h8, etk]
      by_cases z : tl_cl fl q cf.toNatClampNeg = true
      · by_cases y : r.2.2.2.2.2.2.2.2 q = 2147483647
        · rw [if_pos (Or.inr (Or.inr (decide_eq_false (fun w => w y)))), if_neg (fun w => w.2 y)]
        · rw [if_neg (fun w => w.elim (fun w => kc.mp (Or.inl w) z) (fun w => w.elim (fun w => kc.mp (Or.inr w) z) (fun w => by rw [decide_eq_true y] at w; cases w))), if_pos ⟨z, y⟩]
      · rcases kc.mpr z with w | w
        · rw [if_pos (Or.inl w), if_neg (fun w => z w.1)]
        · rw [if_pos (Or.inr (Or.inl w)), if_neg (fun w => z w.1)]
end LGX
