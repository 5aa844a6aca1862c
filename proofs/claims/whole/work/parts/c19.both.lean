/-! Secrets and letters, together -/
def SFL (Lc : List LT) (ls : List RL) (fl dt : Nat → Int32) : Prop := ∀ (i : Nat) (e : LT) (r : RL), Lc[i]? = some e → ls[i]? = some r → SF fl dt e r
def unl (fl : Nat → Int32) (V : Nat → Prop) : Prop := ∀ p, V p → p < 6 ∧ fl p = 2147483647
def IS (n : Nat) (DL : List (Int32 × Int32)) (dev : Nat → DV) (sto : Nat → ST) (G : Tm → Prop) (L : LG) (ls : List RL) (R : RR) : Prop := IV n DL dev ls ∧ (∀ V, unl R.2.2.2.1 V → SIV V DL dev sto G ls) ∧ SFL L.1 ls R.2.2.2.1 R.1
theorem unl6 {fl : Nat → Int32} {V : Nat → Prop} (h : unl fl V) : ∀ p, V p → p < 6 := fun p hp => (h p hp).1
theorem rl_take_p (r : RL) (q : Nat) (x : Int32) (g : Bool) : (rl_take r q x g).1 = r.1 ∧ (rl_take r q x g).2.1 = r.2.1 ∧ (rl_take r q x g).2.2.1 = r.2.2.1 ∧ (rl_take r q x g).2.2.2.1 = r.2.2.2.1 ∧ (rl_take r q x g).2.2.2.2.2.2.1 = r.2.2.2.2.2.2.1 ∧ (rl_take r q x g).2.2.2.2.2.2.2.1 = (if g = true then r.2.2.2.2.2.2.2.1 ||| (1 <<< (nI q &&& 31)) else r.2.2.2.2.2.2.2.1) ∧ (rl_take r q x g).2.2.2.2.2.2.2.2 = upd r.2.2.2.2.2.2.2.2 q x := by
  obtain ⟨se, fm, to, on, mi, th, ma, gi, tks⟩ := r
  exact ⟨rfl, rfl, rfl, rfl, rfl, rfl, rfl⟩
/-- the same letters, but for what was taken -/
theorem lsy_set {ls : List RL} {i : Nat} {r r' : RL} (hr : ls[i]? = some r) (h : r'.1 = r.1 ∧ r'.2.1 = r.2.1 ∧ r'.2.2.1 = r.2.2.1 ∧ r'.2.2.2.1 = r.2.2.2.1 ∧ r'.2.2.2.2.2.2.1 = r.2.2.2.2.2.2.1) : lsy ls (ls.set i r') := fun x hx => by
  obtain ⟨k, hk⟩ := List.getElem?_of_mem hx
  have hi := (List.getElem?_eq_some_iff.mp hr).1
  by_cases c : k = i
  · subst c
    rw [hr] at hk; cases hk
    exact ⟨r', List.mem_of_getElem? (List.getElem?_set_self hi), h⟩
  · exact ⟨x, List.mem_of_getElem? (by rw [List.getElem?_set_ne (fun z => c z.symm)]; exact hk), rfl, rfl, rfl, rfl, rfl⟩
section COME
variable {n b q : Nat} {DL : List (Int32 × Int32)} {dev : Nat → DV} {sto : Nat → ST} {G : Tm → Prop} {ls : List RL} {lo : Nat → Int32} {Lc : List LT} {bd llc tc tlc tfc tgc : Nat → Int32} {cf cg : Int32} {ct : Tm} {co : Bool} {li foc dbc : Int32} {dt db rt fl ll tl tf tg tm : Nat → Int32} {ck fo du : Int32} {ids : Nat → Tm} {A : Tm}
theorem LGX_uniq (h : LGX b b DL ls lo (Lc, bd, llc, tc, tlc, tfc, tgc, cf, cg, ct, co, li, foc, dbc) (dt, db, rt, fl, ll, tl, tf, tg, tm, ck, fo, du)) (hdl : DL.length ≤ 2960) (hl7 : ls.length ≤ 700) {r r' : RL} (hr : r ∈ ls) (hr' : r' ∈ ls) (e : r'.1 = r.1) : r' = r := by
  obtain ⟨i, hi⟩ := List.getElem?_of_mem hr
  obtain ⟨j, hj⟩ := List.getElem?_of_mem hr'
  obtain ⟨m, a1, a2, a3⟩ := h.1.2.2.2 i r hi
  obtain ⟨m', b1, b2, b3⟩ := h.1.2.2.2 j r' hj
  have li := (List.getElem?_eq_some_iff.mp hi).1
  have lj := (List.getElem?_eq_some_iff.mp hj).1
  rw [e, a2] at b2
  have e1 : m = m' := nI_cxl (by omega) (by omega) b2
  subst e1
  have e2 : i = j := nI_cxl (by omega) (by omega) (a3.symm.trans b3)
  subst e2
  rw [hi] at hj
  cases hj
  rfl
/-- the letter that S belongs to bears it -/
theorem rl_is (h : LGX b b DL ls lo (Lc, bd, llc, tc, tlc, tfc, tgc, cf, cg, ct, co, li, foc, dbc) (dt, db, rt, fl, ll, tl, tf, tg, tm, ck, fo, du)) (hdl : DL.length ≤ 2960) (hl7 : ls.length ≤ 700) {S : Tm} {i : Nat} {r : RL} (hS : kd S = 1 → SD DL S) (hi : ls[i]? = some r) (hw : rt_l lo S = nI i) : S = r.1 ∧ kd r.1 = 1 := by
  rcases rl_ix (fun m hm => (h.1.2.1 m hm).2) hdl hS with z | ⟨i', r', m, a1, a2, a3, a4, a5, a6⟩
  · rw [z] at hw
    exact absurd hw.symm (nI_nm1 (by have := (List.getElem?_eq_some_iff.mp hi).1; omega))
  · have li := (List.getElem?_eq_some_iff.mp hi).1
    have li' := (List.getElem?_eq_some_iff.mp a1).1
    have e : i' = i := nI_cxl (by omega) (by omega) (a2.symm.trans hw)
    subst e
    rw [hi] at a1; cases a1
    obtain ⟨e, he⟩ : ∃ e, Lc[i']? = some e := ⟨_, List.getElem?_eq_getElem (by rw [h.1.1.1]; exact li)⟩
    have hE := h.1.1.2 i' e r he hi
    obtain ⟨se, fm, to, gr, ma, on, mi, th, tk, sf⟩ := e
    obtain ⟨se', fm', to', on', mi', th', ma', gi, tks⟩ := r
    obtain ⟨⟨e1, e2, s, hs, e3, m', e4, e5⟩, -⟩ := hE
    have e6 : se' = Tsec (nI m') (nI s) 0 := e1.trans e5
    obtain ⟨m1, d1, p1, c1, rfl⟩ := hS a3
    have l1 := (List.getElem?_eq_some_iff.mp e4).1
    have l2 := (List.getElem?_eq_some_iff.mp c1).1
    have f1 : m1 = m := nI_cxl (by omega) (by omega) a5
    have a6 : mk se' = nI m := a6
    rw [e6] at a6
    have f2 : m' = m := nI_cxl (by omega) (by omega) a6
    subst f1 f2
    rw [e4] at c1
    cases c1
    exact ⟨e6.symm, by show kd se' = 1; rw [e6]; rfl⟩
theorem IS_taken {P : EN2} {p0 : Bool} {c : Option Nat} {x xf xg : Int32} {xt : Tm} {xo : Bool} {RX : RR} {LX : LG} (hS : IS n DL dev sto G (Lc, bd, llc, tc, tlc, tfc, tgc, xf, xg, xt, xo, li, foc, dbc) ls (dt, db, rt, fl, ll, tl, tf, tg, tm, ck, fo, du)) (h : LGX b b DL ls lo (Lc, bd, llc, tc, tlc, tfc, tgc, xf, xg, xt, xo, li, foc, dbc) (dt, db, rt, fl, ll, tl, tf, tg, tm, ck, fo, du)) (hq : q < 6) (hx : x = nI (b + 1)) (hb : b ≤ 100) (hdl : DL.length ≤ 2700) (hl7 : ls.length ≤ 700) (hP : P = dv_en (dev q)) (hid : ∀ p, p < 6 → ids p = Tsec (nI p) (nI p) 0) (hk : ∀ b X, pk_find (dev q).2.1 (dev q).2.2.1 X = some b → kd (pk_of (dev q).2.1 (dev q).2.2.1 b).1 = 1) (hA : Kn G A) (h1 : (ar_spec (dev q) ids q A).1 = 1) (hSd : kd (ar_spec (dev q) ids q A).2.2.2.2.1 = 1 → SD DL (ar_spec (dev q) ids q A).2.2.2.2.1) (eL : LX.1 = (lg_taken (Lc, bd, llc, tc, tlc, tfc, tgc, (ar_spec (dev q) ids q A).2.2.1, (ar_spec (dev q) ids q A).2.2.2.1, (ar_spec (dev q) ids q A).2.2.2.2.1, (ar_spec (dev q) ids q A).2.2.2.2.2, li, foc, dbc) q).1) (eR : RX.1 = dt ∧ RX.2.2.2.1 = fl) : IS (n + 1) DL (fset dev q (ar_spec (dev q) ids q A).2.1) (fset sto q (st_commit p0 P c (dv_en (ar_spec (dev q) ids q A).2.1)).2) G LX (rt_ls ls lo q (ar_spec (dev q) ids q A).2.2.2.1 (ar_spec (dev q) ids q A).2.2.2.2.1 (ar_spec (dev q) ids q A).2.2.2.2.2 x) RX := by
  obtain ⟨hI, hV, hF⟩ := hS
  have h0 : 0 ≤ (ar_spec (dev q) ids q A).1 := by rw [h1]; decide
  have hIq := hI.2 q hq
  have hIa := IVd_ar (ids := ids) (A := A) hIq h0
  have hoth := ar_other hq h1
  have hu : ∀ r, r ∈ ls → ∀ r', r' ∈ ls → r'.1 = r.1 → r' = r := fun r hr r' hr' e => LGX_uniq h (by omega) hl7 hr hr' e
  have hV : ∀ V, unl fl V → SIV V DL dev sto G ls := hV
  -- how it came, for whoever keeps secrets
  have come : ∀ V, unl fl V → V q → ∀ r, r ∈ ls → inV V r → (ar_spec (dev q) ids q A).2.2.2.2.1 = r.1 → kd r.1 = 1 → ∀ Z GF PF, SI V Z GF PF DL dev sto G ls → tkn V GF PF q r (ar_spec (dev q) ids q A).2.2.1 (ar_spec (dev q) ids q A).2.2.2.1 (ar_spec (dev q) ids q A).2.2.2.2.2 := fun V hv hvq r hr hi hX hkd Z GF PF hSI => take_in hSI (unl6 hv) hvq hIq (SI_Kn hSI hA) h1 hr hi hX hkd (hu r hr)
  have hdok : ∀ V, unl fl V → ∀ Z GF PF, SI V Z GF PF DL dev sto G ls → dok V Z GF PF ls q (ar_spec (dev q) ids q A).2.1 := fun V hv Z GF PF hSI => dok_ar hSI (unl6 hv) hq hid hIq hk hA h0
  have hbos := IVd_bos hIa
  generalize hAR : ar_spec (dev q) ids q A = AR at *
  obtain ⟨eR1, eR2⟩ := eR
  have hkeep : ∀ r r' : RL, r'.1 = r.1 → (∃ m d p, 6 ≤ m ∧ m < DL.length ∧ r.1 = Tsec (nI m) d p) → ∃ m d p, 6 ≤ m ∧ m < DL.length ∧ r'.1 = Tsec (nI m) d p := fun r r' e ⟨m, d, p, a1, a2, a3⟩ => ⟨m, d, p, a1, a2, e.trans a3⟩
  -- who it is, and how it is written down
  have main : ∀ (ls' : List RL) (Lc' : List LT), lsy ls ls' → (∀ r', r' ∈ ls' → ∃ r, r ∈ ls ∧ r'.1 = r.1 ∧ r'.2.1 = r.2.1 ∧ r'.2.2.1 = r.2.2.1 ∧ r'.2.2.2.2.2.2.1 = r.2.2.2.2.2.2.1) → (∀ V, unl fl V → ∀ Z GF PF, SI V Z GF PF DL dev sto G ls → TK V GF PF ls → TK V GF PF ls') → SFL Lc' ls' fl dt → LX.1 = Lc' → IS (n + 1) DL (fset dev q AR.2.1) (fset sto q (st_commit p0 P c (dv_en AR.2.1)).2) G LX ls' RX := fun ls' Lc' hl hl' hTK hSFL eLX => by
    have hlx : lsx DL ls ls' := fun r' hr' => by
      obtain ⟨r, a1, a2, -⟩ := hl' r' hr'
      exact Or.inl ⟨r, a1, a2.symm⟩
    have mono : ∀ s D, IVd s n DL ls D → IVd s (n + 1) DL ls' D := fun s D hD => by
      have := IVd_mono (n' := n + 1) (E := []) (ls' := ls') (by omega) (by omega) hlx hD
      rw [List.append_nil] at this
      exact this
    refine ⟨⟨⟨hI.1.1, fun r' hr' => ?_⟩, fun s hs => ?_⟩, fun V hv => ?_, ?_⟩
    · obtain ⟨r, a1, a2, -⟩ := hl' r' hr'
      exact hkeep r r' a2 (hI.1.2 r a1)
    · by_cases z : s = q
      · subst z; rw [fset_same]; exact mono s _ hIa
      · rw [fset_ne z]; exact mono s _ (hI.2 s hs)
    · rw [eR2] at hv
      obtain ⟨Z, GF, PF, a1, a2⟩ := hV V hv
      obtain ⟨d1, d2, d3⟩ := hdok V hv Z GF PF a1
      have c1 := (SI_commit (p0 := p0) (c := c) a1 hq hP (IVd_bos hIq) hbos d1 d2 d3).2
      refine ⟨Z, GF, PF, SI_ls c1 hl (fun r' hr' hi => ?_), hTK V hv Z GF PF a1 a2⟩
      obtain ⟨r, b1, b2, b3, b4, b5⟩ := hl' r' hr'
      rw [b2]
      exact a1.1.2.2 r b1 (inV_c b3.symm b4.symm b5.symm hi)
    · rw [eLX, eR1, eR2]; exact hSFL
  have same : (∀ V, unl fl V → ∀ Z GF PF, SI V Z GF PF DL dev sto G ls → TK V GF PF ls → TK V GF PF ls) := fun _ _ _ _ _ _ z => z
  have kw := lw_eq (fun m hm => (h.1.2.1 m hm).1) (by omega) hSd
  rcases rl_ix (fun m hm => (h.1.2.1 m hm).2) (by omega) hSd with hw | ⟨i, r, m, hr, hw, -⟩
  · have e0 : lg_get Lc (lg_with bd AR.2.2.2.2.1) = none := by
      rw [kw, hw]
      unfold lg_get
      rw [if_neg (by rw [inR_lo (by decide)]; decide)]
    have er : rt_ls ls lo q AR.2.2.2.1 AR.2.2.2.2.1 AR.2.2.2.2.2 x = ls := by unfold rt_ls; rw [rt_none hw]
    rw [er]
    refine main ls Lc (lsy_rfl ls) (fun r hr => ⟨r, hr, rfl, rfl, rfl, rfl⟩) same hF ?_
    rw [eL]
    unfold lg_taken
    dsimp only
    rw [e0]
  · have hi := (List.getElem?_eq_some_iff.mp hr).1
    have hrm := List.mem_of_getElem? hr
    obtain ⟨e, he⟩ : ∃ e, Lc[i]? = some e := ⟨_, List.getElem?_eq_getElem (by rw [h.1.1.1]; exact hi)⟩
    have hE := h.1.1.2 i e r he hr
    have hFi := hF i e r he hr
    obtain ⟨hX, hkd⟩ := rl_is h (by omega) hl7 hSd hr hw
    have e0 : lg_get Lc (lg_with bd AR.2.2.2.2.1) = some e := by rw [kw, hw]; exact lg_get_t he (by rw [h.1.1.1]; exact hl7)
    have er0 := rt_some hw hr hl7
    have eLc : LX.1 = Lc.set i (lt_take e (1 <<< (nI q &&& 31)) (if lt_so e AR.2.2.1 AR.2.2.2.1 (nI q) = true ∧ AR.2.2.2.2.2 = true ∧ e.2.2.2.2.1 &&& li = 0 then 1 <<< (nI q &&& 31) else 0)) := by
      rw [eL]
      unfold lg_taken
      dsimp only
      rw [e0, kw, hw, nI_clamp (by omega)]
    have h5 : ∀ p, p < 6 → hbit li (nI p) = decide (fl p ≠ 2147483647) ∧ (fl p = 2147483647 ∨ ∃ t, t ≤ b ∧ fl p = nI t) := fun p hp => ⟨(h.2.2.1.1 p hp).1, (h.2.2.1.1 p hp).2.1⟩
    have hfm : ∃ s, s < 6 ∧ r.2.1 = nI s := by
      obtain ⟨se, fm, to, gr, ma, on, mi, th, tk, sf⟩ := e
      obtain ⟨se', fm', to', on', mi', th', ma', gi, tks⟩ := r
      obtain ⟨⟨_, e2, s, hs, e3, _⟩, _⟩ := hE
      exact ⟨s, hs, e2.trans e3⟩
    obtain ⟨s, hs, es⟩ := hfm
    obtain ⟨k1, k2⟩ := SF_take (cf := AR.2.2.1) (cg := AR.2.2.2.1) (oc := AR.2.2.2.2.2) hb hq hx hE h5 hFi hoth (fun h16 hto f1 f2 => by
      have hv : unl fl (fun p => p < 6 ∧ (p = s ∨ p = q)) := fun p hp => ⟨hp.1, hp.2.elim (fun z => z ▸ f2 s hs es) (fun z => z ▸ f1)⟩
      obtain ⟨Z, GF, PF, a1, a2⟩ := hV _ hv
      have hin : inV (fun p => p < 6 ∧ (p = s ∨ p = q)) r := ⟨⟨s, ⟨hs, Or.inl rfl⟩, es⟩, fun _ => ⟨q, ⟨hq, Or.inr rfl⟩, hto⟩, fun z => absurd h16 z⟩
      obtain ⟨t1, t2⟩ := come _ hv ⟨hq, Or.inr rfl⟩ r hrm hin hX hkd Z GF PF a1
      rcases t2 with ⟨-, t3, -, t5⟩ | ⟨z, -⟩
      · exact ⟨t1, t3, t5⟩
      · exact absurd h16 z) (fun h16 hall hmq hne => by
      have hv : unl fl (fun p => p < 6 ∧ hbit r.2.2.2.2.2.2.1 (nI p) = true) := fun p hp => ⟨hp.1, hall p hp.1 hp.2⟩
      obtain ⟨Z, GF, PF, a1, a2⟩ := hV _ hv
      have hin : inV (fun p => p < 6 ∧ hbit r.2.2.2.2.2.2.1 (nI p) = true) r := ⟨⟨s, ⟨hs, ((hFi.2 h16).2.1.2 s hs es)⟩, es⟩, fun z => absurd z h16, fun _ p hp hm => ⟨hp, hm⟩⟩
      obtain ⟨t1, t2⟩ := come _ hv ⟨hq, hmq⟩ r hrm hin hX hkd Z GF PF a1
      rcases t2 with ⟨z, -⟩ | ⟨-, s', g, e', c', u1, u2, u3, u4, u5, u6, u7⟩
      · exact absurd z h16
      · refine ⟨t1, ⟨g, u3, u4, u5⟩, fun htk => ?_⟩
        obtain ⟨s2, g2, e2, c2, w1, w2, w3, w4, w5, w6⟩ := a2.2 r hrm hin h16 q ⟨hq, hmq⟩ hne htk
        have x1 : s2 = s' := nI_cxl (by have := w2.1; omega) (by have := u2.1; omega) (w1.symm.trans u1)
        have x2 : g2 = g := by have := nI_cxl (by omega) (by omega) (w4.symm.trans u5); omega
        have x3 := a1.2.1.2.1 _ _ _ _ _ w5 u6
        subst x1 x2 x3
        exact a1.2.1.2.2 _ _ _ _ _ _ u7 w6)
    have sfl : ∀ r' : RL, SF fl dt (lt_take e (1 <<< (nI q &&& 31)) (if lt_so e AR.2.2.1 AR.2.2.2.1 (nI q) = true ∧ AR.2.2.2.2.2 = true ∧ e.2.2.2.2.1 &&& li = 0 then 1 <<< (nI q &&& 31) else 0)) r' → SFL (Lc.set i (lt_take e (1 <<< (nI q &&& 31)) (if lt_so e AR.2.2.1 AR.2.2.2.1 (nI q) = true ∧ AR.2.2.2.2.2 = true ∧ e.2.2.2.2.1 &&& li = 0 then 1 <<< (nI q &&& 31) else 0))) (ls.set i r') fl dt := fun r' hr' j e1 r1 he1 hr1 => by
      by_cases z : j = i
      · subst z
        rw [List.getElem?_set_self (by rw [h.1.1.1]; exact hi)] at he1
        rw [List.getElem?_set_self hi] at hr1
        cases he1; cases hr1
        exact hr'
      · rw [List.getElem?_set_ne (fun w => z w.symm)] at he1 hr1
        exact hF j e1 r1 he1 hr1
    by_cases htk : r.2.2.2.2.2.2.2.2 q = 2147483647
    · have er : rt_ls ls lo q AR.2.2.2.1 AR.2.2.2.2.1 AR.2.2.2.2.2 x = ls.set i (rl_take r q x (if AR.2.2.2.1 = -1 then false else AR.2.2.2.2.2)) := by
        unfold rt_ls
        rw [er0]
        dsimp only
        rw [if_pos htk, hw, nI_clamp (by omega)]
      rw [er]
      obtain ⟨v1, v2, v3, v4, v5, v6, v7⟩ := rl_take_p r q x (if AR.2.2.2.1 = -1 then false else AR.2.2.2.2.2)
      refine main _ _ (lsy_set hr ⟨v1, v2, v3, v4, v5⟩) (fun r' hr' => ?_) (fun V hv Z GF PF a1 a2 => ?_) (sfl _ (k1 htk)) eLc
      · rcases List.mem_or_eq_of_mem_set hr' with z | z
        · exact ⟨r', z, rfl, rfl, rfl, rfl⟩
        · rw [z]; exact ⟨r, hrm, v1, v2, v3, v5⟩
      · refine ⟨a2.1, fun y hy hin hn q' hq' hne ht => ?_⟩
        rcases List.mem_or_eq_of_mem_set hy with z | z
        · exact a2.2 y z hin hn q' hq' hne ht
        · rw [z] at hin hn hne ht ⊢
          have hin' : inV V r := inV_c v2.symm v3.symm v5.symm hin
          rw [v3] at hn ⊢
          rw [v2] at hne ⊢
          rw [v7] at ht
          rw [v1, v6]
          by_cases w : q' = q
          · subst w
            obtain ⟨t1, t2⟩ := come V hv hq' r hrm hin' hX hkd Z GF PF a1
            rcases t2 with ⟨y, -⟩ | ⟨-, s', g, e', c', u1, u2, u3, u4, u5, u6, u7⟩
            · exact absurd y hn
            · refine ⟨s', g, e', c', u1, u2, u3, u5, u6, ?_⟩
              have hcg : AR.2.2.2.1 ≠ -1 := by rw [u4]; exact nI_nm1 (by omega)
              rw [if_neg hcg]
              have hg0 := (hFi.2 hn).1 q' hq htk
              have : hbit (if AR.2.2.2.2.2 = true then r.2.2.2.2.2.2.2.1 ||| (1 <<< (nI q' &&& 31)) else r.2.2.2.2.2.2.2.1) (nI q') = AR.2.2.2.2.2 := by
                generalize AR.2.2.2.2.2 = B
                cases B
                · rw [if_neg (by decide)]; exact hg0
                · rw [if_pos rfl, hbit_or _ _ (by omega), hbit_one (by omega) (by omega), decide_eq_true rfl, Bool.or_true]
              rw [this]
              exact u7
          · rw [upd_ne w] at ht
            obtain ⟨s', g, e', c', u1, u2, u3, u4, u5, u6⟩ := a2.2 r hrm hin' hn q' hq' hne ht
            refine ⟨s', g, e', c', u1, u2, u3, u4, u5, ?_⟩
            have hq6 := (hv q' hq').1
            have : ∀ B : Bool, hbit (if B = true then r.2.2.2.2.2.2.2.1 ||| (1 <<< (nI q &&& 31)) else r.2.2.2.2.2.2.2.1) (nI q') = hbit r.2.2.2.2.2.2.2.1 (nI q') := fun B => by
              cases B
              · rw [if_neg (by decide)]
              · rw [if_pos rfl, hbit_or _ _ (by omega), hbit_one (by omega) (by omega), decide_eq_false w, Bool.or_false]
            rw [this]
            exact u6
    · have er : rt_ls ls lo q AR.2.2.2.1 AR.2.2.2.2.1 AR.2.2.2.2.2 x = ls := by
        unfold rt_ls
        rw [er0]
        dsimp only
        rw [if_neg htk]
      rw [er]
      refine main ls _ (lsy_rfl ls) (fun r hr => ⟨r, hr, rfl, rfl, rfl, rfl⟩) same ?_ eLc
      have := sfl r (k2 htk)
      rw [show ls.set i r = ls from by
        apply List.ext_getElem?
        intro k
        by_cases w : k = i
        · subst w; rw [List.getElem?_set_self hi, hr]
        · rw [List.getElem?_set_ne (fun v => w v.symm)]] at this
      exact this
end COME
