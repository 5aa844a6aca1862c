/-! Secrets and letters: the calls -/
section IS
variable {n : Nat} {DL : List (Int32 × Int32)} {dev : Nat → DV} {sto : Nat → ST} {G : Tm → Prop} {L L' : LG} {ls : List RL} {R R' : RR}
theorem lsx_app {DL E : List (Int32 × Int32)} {ls : List RL} {r : RL} {m : Nat} {d p : Int32} (hm : (DL ++ E).length ≤ m) (h3 : m < 3000) (hr : r.1 = Tsec (nI m) d p) : lsx DL ls (ls ++ [r]) := fun x hx => by
  rcases List.mem_append.mp hx with z | z
  · exact Or.inl ⟨x, z, rfl⟩
  · rw [List.mem_singleton.mp z]
    exact Or.inr ⟨m, d, p, by rw [List.length_append] at hm; omega, h3, hr⟩
theorem IV_keep (E : List (Int32 × Int32)) (hd : DL.length ≤ 2900) (h : IV n DL dev ls) : IV (n + 1) (DL ++ E) dev ls := by
  have hl : DL.length ≤ (DL ++ E).length := by rw [List.length_append]; omega
  have h6 := h.1.1
  refine ⟨⟨by omega, fun r hr => ?_⟩, fun s hs => IVd_mono (by omega) hd (lsx_rfl DL ls) (h.2 s hs)⟩
  obtain ⟨m, d, p, a1, a2, a3⟩ := h.1.2 r hr
  exact ⟨m, d, p, a1, by omega, a3⟩
theorem IV_set {E : List (Int32 × Int32)} {s : Nat} {D' : DV} (hd : DL.length ≤ 2900) (h : IV n DL dev ls) (hD : IVd s (n + 1) (DL ++ E) ls D') : IV (n + 1) (DL ++ E) (fset dev s D') ls := by
  have h0 := IV_keep E hd h
  refine ⟨h0.1, fun q hq => ?_⟩
  by_cases c : q = s
  · subst c; rw [fset_same]; exact hD
  · rw [fset_ne c]; exact h0.2 q hq
theorem IV_let {E : List (Int32 × Int32)} {s m : Nat} {D' : DV} {r : RL} {d p : Int32} (hd : DL.length ≤ 2900) (h : IV n DL dev ls) (hm0 : DL.length ≤ m) (hm : m < (DL ++ E).length) (h3 : m < 3000) (hr : r.1 = Tsec (nI m) d p) (hD : IVd s (n + 1) (DL ++ E) (ls ++ [r]) D') : IV (n + 1) (DL ++ E) (fset dev s D') (ls ++ [r]) := by
  have h0 := IV_keep E hd h
  have h6 := h.1.1
  refine ⟨⟨h0.1.1, fun x hx => ?_⟩, fun q hq => ?_⟩
  · rcases List.mem_append.mp hx with z | z
    · exact h0.1.2 x z
    · rw [List.mem_singleton.mp z]; exact ⟨m, d, p, by omega, hm, hr⟩
  · by_cases c : q = s
    · subst c; rw [fset_same]; exact hD
    · rw [fset_ne c]
      exact IVd_mono (by omega) hd (lsx_app (E := []) (by rw [List.append_nil]; exact hm0) h3 hr) (h.2 q hq)
theorem SFL_dt {Lc : List LT} {fl dt dt' : Nat → Int32} (h : SFL Lc ls fl dt) (hI : IV n DL dev ls) (hd : DL.length ≤ 2900) (he : ∀ m, m < DL.length → dt' m = dt m) : SFL Lc ls fl dt' := fun i e r h1 h2 => SF_dt (h i e r h1 h2) (by
  obtain ⟨m, d, p, a1, a2, a3⟩ := hI.1.2 r (List.mem_of_getElem? h2)
  rw [a3, show nx (Tsec (nI m) d p) = m from nI_clamp (by omega)]
  exact he m a2)
theorem IS_same (h : IS n DL dev sto G L ls R) (hd : DL.length ≤ 2900) (eL : L'.1 = L.1) (e1 : R'.1 = R.1) (e2 : R'.2.2.2.1 = R.2.2.2.1) : IS (n + 1) DL dev sto G L' ls R' := by
  obtain ⟨h1, h2, h3⟩ := h
  have := IV_keep [] hd h1
  rw [List.append_nil] at this
  refine ⟨this, ?_, ?_⟩
  · rw [e2]; exact h2
  · rw [eL, e1, e2]; exact h3
theorem IS_sto {s : Nat} {S : ST} (h : IS n DL dev sto G L ls R) (hs : s < 6) (hd : DL.length ≤ 2900) (eL : L'.1 = L.1) (e1 : R'.1 = R.1) (e2 : R'.2.2.2.1 = R.2.2.2.1) (hO : ∀ e, e ∈ S.2.2.1 → e ∈ (sto s).2.2.1) : IS (n + 1) DL dev (fset sto s S) G L' ls R' := by
  obtain ⟨h1, h2, h3⟩ := IS_same h hd eL e1 e2
  exact ⟨h1, fun V hv => SIV_sto (h2 V hv) hs hO, h3⟩
theorem IS_know {G' : Tm → Prop} (h : IS n DL dev sto G L ls R) (hd : DL.length ≤ 2900) (eL : L'.1 = L.1) (e1 : R'.1 = R.1) (e2 : R'.2.2.2.1 = R.2.2.2.1) (hG : ∀ y, G' y → G y ∨ Kn G y) : IS (n + 1) DL dev sto G' L' ls R' := by
  obtain ⟨h1, h2, h3⟩ := IS_same h hd eL e1 e2
  exact ⟨h1, fun V hv => SIV_know (h2 V hv) hG, h3⟩
theorem IS_drawn {G' : Tm → Prop} {m : Int32} (h : IS n DL dev sto G L ls R) (E : List (Int32 × Int32)) (hd : DL.length ≤ 2900) (eL : L'.1 = L.1) (e1 : ∀ m, m < DL.length → R'.1 m = R.1 m) (e2 : R'.2.2.2.1 = R.2.2.2.1) (hG : ∀ y, G' y → G y ∨ y = Tsec m 6 0) : IS (n + 1) (DL ++ E) dev sto G' L' ls R' := by
  obtain ⟨h1, h2, h3⟩ := h
  refine ⟨IV_keep E hd h1, fun V hv => ?_, ?_⟩
  · rw [e2] at hv
    exact SIV_out (s := 6) (SIV_draw E (h2 V hv)) (unl6 hv) (by decide) (fun z => by have := (hv 6 z).1; omega) hG
  · rw [eL, e2]; exact SFL_dt h3 h1 hd e1
theorem IS_look {b p : Nat} {lo : Nat → Int32} {Lc : List LT} {bd llc tc tlc tfc tgc : Nat → Int32} {cf cg : Int32} {ct : Tm} {co : Bool} {li foc dbc : Int32} {dt db rt fl ll tl tf tg tm : Nat → Int32} {ck fo du x : Int32} (h : IS n DL dev sto G (Lc, bd, llc, tc, tlc, tfc, tgc, cf, cg, ct, co, li, foc, dbc) ls (dt, db, rt, fl, ll, tl, tf, tg, tm, ck, fo, du)) (hL : LGX b b DL ls lo (Lc, bd, llc, tc, tlc, tfc, tgc, cf, cg, ct, co, li, foc, dbc) (dt, db, rt, fl, ll, tl, tf, tg, tm, ck, fo, du)) (hb : b ≤ 100) (hp : p < 6) (hd : DL.length ≤ 2900) (hx : x = nI (b + 1)) (hP : (sto p).2.1 = dv_en (dev p)) (eL : L'.1 = Lc) (e1 : R'.1 = dt) (e2 : R'.2.2.2.1 = if fl p = 2147483647 then upd fl p x else fl) : IS (n + 1) DL dev sto (fun y => G y ∨ y ∈ st_terms (sto p)) L' ls R' := by
  subst hx
  obtain ⟨h1, h2, h3⟩ := h
  have hk := IV_keep [] hd h1
  rw [List.append_nil] at hk
  have hfl : ∀ q, (if fl p = 2147483647 then upd fl p (nI (b + 1)) else fl) q = 2147483647 → fl q = 2147483647 ∧ q ≠ p := fun q hq => by
    by_cases c : fl p = 2147483647
    · rw [if_pos c] at hq
      by_cases z : q = p
      · subst z; rw [upd_same] at hq; exact absurd hq (nI_nN (by omega))
      · rw [upd_ne z] at hq; exact ⟨hq, z⟩
    · rw [if_neg c] at hq
      exact ⟨hq, fun z => c (by rw [← z]; exact hq)⟩
  refine ⟨hk, fun V hv => ?_, ?_⟩
  · rw [e2] at hv
    have hv' : unl fl V := fun q hq => ⟨(hv q hq).1, (hfl q (hv q hq).2).1⟩
    exact SIV_look (h2 V hv') h1 hp (fun z => (hfl p (hv p z).2).2 rfl) hP
  · rw [eL, e1, e2]
    intro i e r he hr
    have hE := hL.1.1.2 i e r he hr
    obtain ⟨m, d, q, a1, a2, a3⟩ := h1.1.2 r (List.mem_of_getElem? hr)
    have hnx : nx r.1 = m := by rw [a3]; exact nI_clamp (by omega)
    obtain ⟨⟨d', q'⟩, hdl⟩ : ∃ x, DL[m]? = some x := ⟨_, List.getElem?_eq_getElem a2⟩
    obtain ⟨⟨t, t1, t2⟩, -⟩ := hL.2.2.2.1 m d' q' hdl
    exact SF_look hb hE ⟨t, t1, by rw [hnx]; exact t2⟩ (h3 i e r he hr)
/-- the ends of a commit without a letter -/
theorem IS_com {s : Nat} {D' : DV} {p0 : Bool} {P : EN2} {c : Option Nat} (h : IS n DL dev sto G L ls R) (E : List (Int32 × Int32)) (hs : s < 6) (hd : DL.length ≤ 2900) (hP : P = dv_en (dev s)) (hD : IVd s (n + 1) (DL ++ E) ls D') (hdok : ∀ V, (∀ p, V p → p < 6) → ∀ Z GF PF, SI V Z GF PF (DL ++ E) dev sto G ls → dok V Z GF PF ls s D') (eL : L'.1 = L.1) (e1 : ∀ m, m < DL.length → R'.1 m = R.1 m) (e2 : R'.2.2.2.1 = R.2.2.2.1) : IS (n + 1) (DL ++ E) dev (fset sto s (st_commit p0 P c (dv_en D')).2) G L' ls R' ∧ IS (n + 1) (DL ++ E) (fset dev s D') (fset sto s (st_commit p0 P c (dv_en D')).2) G L' ls R' := by
  obtain ⟨h1, h2, h3⟩ := h
  have hF : SFL L'.1 ls R'.2.2.2.1 R'.1 := by rw [eL, e2]; exact SFL_dt h3 h1 hd e1
  have hc := fun V (hv : unl R'.2.2.2.1 V) => SIV_com (p0 := p0) (c := c) (h2 V (e2 ▸ hv)) E hs hP (IVd_bos (h1.2 s hs)) (IVd_bos hD) (hdok V (unl6 hv))
  exact ⟨⟨IV_keep E hd h1, fun V hv => (hc V hv).1, hF⟩, IV_set hd h1 hD, fun V hv => (hc V hv).2, hF⟩
theorem IS_give {G' : Tm → Prop} (h : IS n DL dev sto G L ls R) (hG : ∀ V, (∀ p, V p → p < 6) → ∀ Z GF PF, SI V Z GF PF DL dev sto G ls → ∀ y, G' y → G y ∨ UU V Z GF PF ls y) : IS n DL dev sto G' L ls R := ⟨h.1, fun V hv => SIV_give (h.2.1 V hv) (hG V (unl6 hv)), h.2.2⟩
end IS
