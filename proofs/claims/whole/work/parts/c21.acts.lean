/-! Secrets and letters: sessions, letters, posts -/
theorem SFL_app {Lc : List LT} {ls : List RL} {fl dt : Nat → Int32} {e : LT} {r : RL} (h : SFL Lc ls fl dt) (hl : Lc.length = ls.length) (hr : SF fl dt e r) : SFL (Lc ++ [e]) (ls ++ [r]) fl dt := fun i e' r' h1 h2 => by
  rcases app_case h1 with a | ⟨a1, a2⟩
  · have hi := (List.getElem?_eq_some_iff.mp a).1
    rw [List.getElem?_append_left (by omega)] at h2
    exact h i e' r' a h2
  · rw [a1, hl, get_end] at h2
    cases h2
    rw [a2]
    exact hr
section IS
variable {n : Nat} {DL : List (Int32 × Int32)} {dev : Nat → DV} {sto : Nat → ST} {G : Tm → Prop} {L L' : LG} {ls : List RL} {R R' : RR} {V : Nat → Prop} {Z : Tm → Prop} {GF : Nat → Nat → Nat → Int32 → Bool → Prop} {PF : Tm → Int32 → Tm → Prop} {s p : Nat} {id : Tm} {K0 K1 : PK} {on : List (Tm × Int32)} {lnu : Int32} {se : Nat → List SS} {me : Nat → MM}
theorem dok_hd {S' : SS} {l : List SS} (h : SI V Z GF PF DL dev sto G ls) (hs : s < 6) (eD : dev s = (id, K0, K1, on, lnu, se, me)) (h1 : V s → V p → NSS V S') (h2 : ¬ V s → SPU (UU V Z GF PF ls) S') (hl : ∀ S, S ∈ l → S ∈ se p) : dok V Z GF PF ls s (id, K0, K1, on, lnu, fset se p (S' :: l), me) := by
  have hq := h.2.2.2 s hs
  rw [eD] at hq
  refine dok_se h hs eD (fun hv q hw S hS => ?_) (fun hv q S hS => ?_)
  · by_cases c : q = p
    · subst c
      rw [fset_same] at hS
      rcases List.mem_cons.mp hS with z | z
      · rw [z]; exact h1 hv hw
      · exact (hq.1 hv).1 q hw S (hl S z)
    · rw [fset_ne c] at hS; exact (hq.1 hv).1 q hw S hS
  · by_cases c : q = p
    · subst c
      rw [fset_same] at hS
      rcases List.mem_cons.mp hS with z | z
      · rw [z]; exact h2 hv
      · exact (hq.2 hv).1.2.2.2.1 q S (hl S z)
    · rw [fset_ne c] at hS; exact (hq.2 hv).1.2.2.2.1 q S hS
theorem IVd_hd {S' : SS} {l : List SS} {E : List (Int32 × Int32)} (hd : DL.length ≤ 2900) (h : IVd s n DL ls (dev s)) (eD : dev s = (id, K0, K1, on, lnu, se, me)) (h1 : BOS S') (hl : ∀ S, S ∈ l → S ∈ se p) {ls' : List RL} (hls : lsx DL ls ls') : IVd s (n + 1) (DL ++ E) ls' (id, K0, K1, on, lnu, fset se p (S' :: l), me) := by
  rw [eD] at h
  refine IVd_mono (by omega) hd hls (IVd_se h (SE_set h.2.2.1 (fun S hS => ?_)))
  rcases List.mem_cons.mp hS with z | z
  · rw [z]; exact h1
  · exact h.2.2.1 p S (hl S z)
/-- a session that is begun -/
theorem open_ok {dir ids : Nat → Tm} {m m' : Int32} {O : Tm} (h : SI V Z GF PF DL dev sto G ls) (hV : ∀ p, V p → p < 6) (hs : s < 6) (hp : p < 6) (hi : id = Tsec (nI s) (nI s) 0) (hip : ids p = Tsec (nI p) (nI p) 0) (hdir : ∀ i, Kn G (dir i)) (hz : an_pre dir ids p ≠ tz) : (V s → V p → NSS V (op_ses id (Tsec m (nI s) 0) (Tsec m' (nI s) 2) (ids p) (an_pre dir ids p) O) ∧ NS (core V) (op_ses id (Tsec m (nI s) 0) (Tsec m' (nI s) 2) (ids p) (an_pre dir ids p) O).2.2.2.2.1) ∧ (¬ V s → SPU (UU V Z GF PF ls) (op_ses id (Tsec m (nI s) 0) (Tsec m' (nI s) 2) (ids p) (an_pre dir ids p) O) ∧ SPU (UU V Z GF PF ls) (ss_sent (op_ses id (Tsec m (nI s) 0) (Tsec m' (nI s) 2) (ids p) (an_pre dir ids p) O))) := by
  have hU := SI_UC h
  refine ⟨fun hv hw => by rw [hi]; exact NSS_open hv hw (SI_pre h hdir hw hip hz), fun hv => ?_⟩
  have ho : ∀ n p, UU V Z GF PF ls (Tsec n (nI s) p) := fun n p => SI_out h hV (by omega) hv
  have hr := U_root (idd := ids p) (r := Tsec m' (nI s) 2) (P := an_pre dir ids p) (O := O) hU (hi ▸ ho _ _ : UU V Z GF PF ls id) (ho m 0)
  exact ⟨(SPU_open hU hr (ho _ _)).1, SPU_openS hU hr (ho _ _)⟩
theorem NSS_sent {S : SS} (h : NSS V S) (h2 : NS (core V) S.2.2.2.2.1) : NSS V (ss_sent S) := (GS_sent (hcl_NS _) h h2).1
/-- the chains of groups are older than a letter -/
theorem old_ch {D' : DV} {m : Nat} (hI : IV n DL dev ls) (hV : ∀ p, V p → p < 6) (hm : DL.length ≤ m) (hc : dme D' = dme (dev s)) : ∀ q, V q → ∀ g, g < 4 → insV V (dme (fset dev s D' q) g) → ∃ m', m' < m ∧ upc (Tsec (nI m') (nI q) 0) (dme (fset dev s D' q) g).2.2.2.2.1 := fun q hq g hg hi => by
  have e : dme (fset dev s D' q) = dme (dev q) := by
    by_cases c : q = s
    · subst c; rw [fset_same]; exact hc
    · rw [fset_ne c]
  rw [e] at hi ⊢
  obtain ⟨m', a1, a2, a3, -⟩ := ((IVd_me (hI.2 q (hV q hq))).1 g hg).2.2 (fresh_ge hi.1)
  exact ⟨m', by omega, a3⟩
/-- a letter is sent: the three ends -/
theorem IS_send {E : List (Int32 × Int32)} {m : Nat} {S1 : SS} {l : List SS} {mi th : Tm} {ob : Bool} {p0 : Bool} {P : EN2} {c : Option Nat} {r : RL} {e : LT} {L2 : LG} {R2 : RR} (h : IS n DL dev sto G L ls R) (hs : s < 6) (hp : p < 6) (eD : dev s = (id, K0, K1, on, lnu, se, me)) (hP : P = dv_en (dev s)) (hm : m + 1 = DL.length + E.length) (hm0 : DL.length ≤ m) (hd : m ≤ 2800) (hl : ∀ S, S ∈ l → S ∈ se p) (hB1 : BOS S1) (hB2 : BOS (ss_sent S1)) (hon : ob = S1.2.2.2.2.2.2.2.2.2.2) (hS1 : ∀ V, (∀ p, V p → p < 6) → ∀ Z GF PF, SI V Z GF PF (DL ++ E) dev sto G ls → (V s → V p → NSS V (ss_sent S1) ∧ NS (core V) S1.2.2.2.2.1) ∧ (¬ V s → SPU (UU V Z GF PF ls) (ss_sent S1))) (er : r = (Tsec (nI m) (nI s) 0, nI s, nI p, ob, mi, th, 0, 0, fun _ => 2147483647)) (ee : e = lt_sent (Tsec (nI m) (nI s) 0) (nI s) (nI p) (ss_sent S1)) (hll : L.1.length = ls.length) (eL : L'.1 = L.1) (e1 : ∀ m, m < DL.length → R'.1 m = R.1 m) (e2 : R'.2.2.2.1 = R.2.2.2.1) (eL2 : L2.1 = L.1 ++ [e]) (e12 : ∀ m, m < DL.length → R2.1 m = R.1 m) (e22 : R2.2.2.2.1 = R.2.2.2.1) : (IS (n + 1) (DL ++ E) dev (fset sto s (st_commit p0 P c (dv_en (id, K0, K1, on, lnu, fset se p (ss_sent S1 :: l), me))).2) G L' ls R' ∧ IS (n + 1) (DL ++ E) (fset dev s (id, K0, K1, on, lnu, fset se p (ss_sent S1 :: l), me)) (fset sto s (st_commit p0 P c (dv_en (id, K0, K1, on, lnu, fset se p (ss_sent S1 :: l), me))).2) G L' ls R') ∧ IS (n + 1) (DL ++ E) (fset dev s (id, K0, K1, on, lnu, fset se p (ss_sent S1 :: l), me)) (fset sto s (st_commit p0 P c (dv_en (id, K0, K1, on, lnu, fset se p (ss_sent S1 :: l), me))).2) (fun y => G y ∨ y = ss_wire S1 (nI s) (nI p) (Trw 4 0 0 0 0 (Tsec (nI m) (nI s) 0) tz tz tz)) L2 (ls ++ [r]) R2 := by
  have hI := h.1
  have hlen : (DL ++ E).length = m + 1 := by rw [List.length_append]; omega
  have hdok : ∀ V, (∀ p, V p → p < 6) → ∀ Z GF PF, SI V Z GF PF (DL ++ E) dev sto G ls → dok V Z GF PF ls s (id, K0, K1, on, lnu, fset se p (ss_sent S1 :: l), me) := fun V hV Z GF PF hSI => dok_hd hSI hs eD (fun hv hw => ((hS1 V hV Z GF PF hSI).1 hv hw).1) (hS1 V hV Z GF PF hSI).2 hl
  have hr1 : r.1 = Tsec (nI m) (nI s) 0 := by rw [er]
  have hlx : lsx DL ls (ls ++ [r]) := lsx_app (E := []) (by rw [List.append_nil]; exact hm0) (by omega) hr1
  have hD := IVd_hd (E := E) (by omega) (hI.2 s hs) eD hB2 hl (lsx_rfl DL ls)
  have hD2 := IVd_hd (E := E) (by omega) (hI.2 s hs) eD hB2 hl hlx
  refine ⟨IS_com h E hs (by omega) hP hD hdok eL e1 e2, IV_let (by omega) hI hm0 (by omega) (by omega) hr1 hD2, fun V hv_ => ?_, ?_⟩
  · have hV := unl6 hv_
    refine SIV_send (mi := mi) (th := th) (h.2.1 V (e22 ▸ hv_)) hV hs hp hm hm0 hI.1.1 (by omega) (fun r hr => ?_) (old_ch hI hV hm0 (by rw [eD]; rfl)) hB1 hon (fun hv hw => ?_) er (fun Z GF PF hSI => ?_)
    · obtain ⟨m', d, p, -, a2, a3⟩ := hI.1.2 r hr
      exact ⟨m', d, p, a2, a3⟩
    · obtain ⟨Z, GF, PF, a1, -⟩ := h.2.1 V (e22 ▸ hv_)
      exact ((hS1 V hV Z GF PF (SI_draw E a1)).1 hv hw).2
    · obtain ⟨d1, d2, d3⟩ := hdok V hV Z GF PF hSI
      exact (SI_commit (p0 := p0) (c := c) hSI hs hP (IVd_bos (hI.2 s hs)) (IVd_bos hD) d1 d2 d3).2
  · rw [eL2, e22]
    refine SFL_app (SFL_dt h.2.2 hI (by omega) e12) hll ?_
    rw [er, ee]
    exact SF_sent hp
theorem IS_post {E : List (Int32 × Int32)} {b g : Nat} {ids : Nat → Tm} {dir : Nat → Tm} {p0 : Bool} {P : EN2} {c : Option Nat} {r : RL} {e : LT} {L2 : LG} {R2 : RR} {lo : Nat → Int32} {Lc : List LT} {bd llc tc tlc tfc tgc : Nat → Int32} {cf cg : Int32} {ct : Tm} {co : Bool} {li foc dbc : Int32} {dt db rt fl ll tl tf tg tm : Nat → Int32} {ck fo du : Int32} (h : IS n DL dev sto G (Lc, bd, llc, tc, tlc, tfc, tgc, cf, cg, ct, co, li, foc, dbc) ls (dt, db, rt, fl, ll, tl, tf, tg, tm, ck, fo, du)) (hL : LGX b b DL ls lo (Lc, bd, llc, tc, tlc, tfc, tgc, cf, cg, ct, co, li, foc, dbc) (dt, db, rt, fl, ll, tl, tf, tg, tm, ck, fo, du)) (hb : b ≤ 100) (hn : n ≤ 64) (hs : s < 6) (hg : g < 4) (eD : dev s = (id, K0, K1, on, lnu, se, me)) (hve : (me g).1 ≠ 0) (hP : P = dv_en (dev s)) (hd : DL.length ≤ 2700) (hid : ∀ p, p < 6 → ids p = Tsec (nI p) (nI p) 0) (hdir : ∀ i, Kn G (dir i)) (hE : DL.length + E.length = (po_hand id ids s g se me dir DL.length).2.2.2.1) (er : r = (Tsec (nI (po_hand id ids s g se me dir DL.length).2.2.2.1) (nI s) 0, nI s, nI (16 + g), false, tz, tz, ((po_hand id ids s g se me dir DL.length).2.1 g).2.1, 0, fun _ => 2147483647)) (ee : e = lt_post (Tsec (nI (po_hand id ids s g se me dir DL.length).2.2.2.1) (nI s) 0) (nI s) (nI g) ((po_hand id ids s g se me dir DL.length).2.1 g).2.1 li) (eL : L'.1 = Lc) (e1 : ∀ m, m < DL.length → R'.1 m = dt m) (e2 : R'.2.2.2.1 = fl) (eL2 : L2.1 = Lc ++ [e]) (e12 : ∀ m, m < DL.length → R2.1 m = dt m) (e12b : R2.1 (po_hand id ids s g se me dir DL.length).2.2.2.1 = nI (b + 1)) (e22 : R2.2.2.2.1 = fl) : (IS (n + 1) (DL ++ E ++ [(nI s, 0)]) dev (fset sto s (st_commit p0 P c (dv_en (id, K0, K1, on, lnu, (po_hand id ids s g se me dir DL.length).1, fset (po_hand id ids s g se me dir DL.length).2.1 g (mm_posted ((po_hand id ids s g se me dir DL.length).2.1 g))))).2) G L' ls R' ∧ IS (n + 1) (DL ++ E ++ [(nI s, 0)]) (fset dev s (id, K0, K1, on, lnu, (po_hand id ids s g se me dir DL.length).1, fset (po_hand id ids s g se me dir DL.length).2.1 g (mm_posted ((po_hand id ids s g se me dir DL.length).2.1 g)))) (fset sto s (st_commit p0 P c (dv_en (id, K0, K1, on, lnu, (po_hand id ids s g se me dir DL.length).1, fset (po_hand id ids s g se me dir DL.length).2.1 g (mm_posted ((po_hand id ids s g se me dir DL.length).2.1 g))))).2) G L' ls R') ∧ IS (n + 1) (DL ++ E ++ [(nI s, 0)]) (fset dev s (id, K0, K1, on, lnu, (po_hand id ids s g se me dir DL.length).1, fset (po_hand id ids s g se me dir DL.length).2.1 g (mm_posted ((po_hand id ids s g se me dir DL.length).2.1 g)))) (fset sto s (st_commit p0 P c (dv_en (id, K0, K1, on, lnu, (po_hand id ids s g se me dir DL.length).1, fset (po_hand id ids s g se me dir DL.length).2.1 g (mm_posted ((po_hand id ids s g se me dir DL.length).2.1 g))))).2) (fun y => G y ∨ y ∈ (po_hand id ids s g se me dir DL.length).2.2.2.2 ++ [mm_post ((po_hand id ids s g se me dir DL.length).2.1 g) (nI g) (nI s) (Trw 4 0 0 0 0 (Tsec (nI (po_hand id ids s g se me dir DL.length).2.2.2.1) (nI s) 0) tz tz tz)]) L2 (ls ++ [r]) R2 := by
  have hI := h.1
  have hIs := hI.2 s hs
  have hdr := ho_dr6 (id := id) (ids := ids) (s := s) (g := g) (se := se) (me := me) (dir := dir) (dr := DL.length)
  have hls : ∀ r, r ∈ ls → ∃ m d p, m < DL.length ∧ r.1 = Tsec (nI m) d p := fun r hr => by
    obtain ⟨m, d, p, -, a2, a3⟩ := hI.1.2 r hr
    exact ⟨m, d, p, a2, a3⟩
  have hIs2 := hIs
  rw [eD] at hIs2
  have hr1 : r.1 = Tsec (nI (po_hand id ids s g se me dir DL.length).2.2.2.1) (nI s) 0 := by rw [er]
  have hDE : (DL ++ E).length = (po_hand id ids s g se me dir DL.length).2.2.2.1 := by rw [List.length_append]; exact hE
  have hD := IVd_post (e := (nI s, 0)) (ids := ids) (dir := dir) hg hn hd hI.1.1 hls hE (lsx_rfl (DL ++ E) ls) hIs2
  have hD2 := IVd_post (e := (nI s, 0)) (ids := ids) (dir := dir) hg hn hd hI.1.1 hls hE (lsx_app (E := []) (r := r) (by rw [List.append_nil]; exact Nat.le_of_eq hDE) (by omega) hr1) hIs2
  have hbos := IVd_bos hD
  have hPO := fun V (hv : unl fl V) => SIV_post (E := E) (p0 := p0) (c := c) (h.2.1 V hv) (unl6 hv) hs hg hI hn hd eD hP hid hdir hE hbos
  have ema : ((po_hand id ids s g se me dir DL.length).2.1 g).2.1 = (me g).2.1 := by
    obtain ⟨-, x, a2, -⟩ := BO_view (id := id) (ids := ids) (s := s) (g := g) (gift := mm_gift (mm_ren (me g) DL.length (nI s)) (nI g)) (dir0 := dir) 6 0 (se, fset me g (mm_ren (me g) DL.length (nI s)), dir, dr_ren (me g) DL.length, []) (by omega) (fun j => Or.inl rfl) hIs2.2.2.1
    have a2 : (po_hand id ids s g se me dir DL.length).2.1 = fset (fset me g (mm_ren (me g) DL.length (nI s))) g (mm_ga (fset me g (mm_ren (me g) DL.length (nI s)) g) x) := a2
    rw [a2, fset_same, fset_same]
    have := (ren_1 (me g) DL.length (nI s)).1
    generalize mm_ren (me g) DL.length (nI s) = M at this
    obtain ⟨ve, ma, go, ge, ch, si, ix, ga, sl, gv⟩ := M
    exact this
  have hgm := hIs2.2.2.2.1 g hg
  have hk := IV_keep (E ++ [(nI s, 0)]) (by omega) hI
  rw [← List.append_assoc] at hk
  have hF : SFL L'.1 ls R'.2.2.2.1 R'.1 := by rw [eL, e2]; exact SFL_dt h.2.2 hI (by omega) e1
  refine ⟨⟨⟨hk, fun V hv => (hPO V (e2 ▸ hv)).1.1, hF⟩, ⟨hk.1, fun q hq => ?_⟩, fun V hv => (hPO V (e2 ▸ hv)).1.2, hF⟩, ⟨⟨hk.1.1, fun x hx => ?_⟩, fun q hq => ?_⟩, fun V hv => ?_, ?_⟩
  · by_cases z : q = s
    · subst z; rw [fset_same]; exact hD
    · rw [fset_ne z]; exact hk.2 q hq
  · rcases List.mem_append.mp hx with z | z
    · exact hk.1.2 x z
    · rw [List.mem_singleton.mp z]
      have h6 := hI.1.1
      exact ⟨_, _, _, by omega, by rw [List.length_append, hDE]; simp, hr1⟩
  · by_cases z : q = s
    · subst z; rw [fset_same]; exact hD2
    · rw [fset_ne z]
      have := IVd_mono (n' := n + 1) (E := E ++ [(nI s, 0)]) (ls' := ls ++ [r]) (by omega) (by omega) (lsx_app (E := E) (by rw [hDE]; exact Nat.le_refl _) (by omega) hr1) (hI.2 q hq)
      rw [← List.append_assoc] at this
      exact this
  · rw [er]; exact (hPO V (e22 ▸ hv)).2
  · rw [eL2, e22]
    refine SFL_app (SFL_dt h.2.2 hI (by omega) e12) hL.1.1.1 ?_
    rw [er, ee, ema]
    exact SF_post hb (by omega) hg hs hgm.1.1 (hgm.1.2 hve) (fun p hp => ⟨(hL.2.2.1.1 p hp).1, (hL.2.2.1.1 p hp).2.1⟩) e12b
end IS
