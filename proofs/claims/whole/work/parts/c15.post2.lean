/-! Secrets: a post, whole -/
section SI
variable {V : Nat → Prop} {DL : List (Int32 × Int32)} {dev : Nat → DV} {sto : Nat → ST} {G : Tm → Prop} {ls : List RL} {n s g : Nat}
theorem TT_turn {S : SS} {x : Tm} (h : BOS S) : BOS (ss_turn S x) ∧ (ss_turn S x).2.2.2.2.2.2.2.2.2.2 = S.2.2.2.2.2.2.2.2.2.2 ∧ bo (ss_turn S x).2.2.2.2.1 = S.2.2.2.2.2.2.2.2.2.2 := by
  obtain ⟨h1, h2, h3⟩ := GS_turn (x := x) (hcl_bo _) h (fun _ => trivial)
  unfold BOS
  rw [h3]
  exact ⟨h1, rfl, h2⟩
theorem TK_mono {GF GF' : Nat → Nat → Nat → Int32 → Bool → Prop} {PF PF' : Tm → Int32 → Tm → Prop} (h : TK V GF PF ls) (h1 : ∀ s d g e o, GF s d g e o → GF' s d g e o) (h2 : ∀ s d g e o, GF' s d g e o → V d) (h3 : ∀ X e c, PF X e c → PF' X e c) : TK V GF' PF' ls := ⟨h2, fun r hr hi hn q hq hne ht => by
  obtain ⟨s, g, e, c, a1, a2, a3, a4, a5, a6⟩ := h.2 r hr hi hn q hq hne ht
  exact ⟨s, g, e, c, a1, a2, a3, a4, h3 _ _ _ a5, h1 _ _ _ _ _ a6⟩⟩
theorem SIV_post {E : List (Int32 × Int32)} {id : Tm} {ids : Nat → Tm} {K0 K1 : PK} {on : List (Tm × Int32)} {lnu : Int32} {se : Nat → List SS} {me : Nat → MM} {dir : Nat → Tm} {p0 : Bool} {P : EN2} {c : Option Nat} (h : SIV V DL dev sto G ls) (hV : ∀ p, V p → p < 6) (hs : s < 6) (hg : g < 4) (hI : IV n DL dev ls) (hn : n ≤ 64) (hd : DL.length ≤ 2700) (eD : dev s = (id, K0, K1, on, lnu, se, me)) (hP : P = dv_en (dev s)) (hid : ∀ p, p < 6 → ids p = Tsec (nI p) (nI p) 0) (hdir : ∀ i, Kn G (dir i)) (hE : DL.length + E.length = (po_hand id ids s g se me dir DL.length).2.2.2.1) (hB' : ∀ q S, S ∈ (po_hand id ids s g se me dir DL.length).1 q → BOS S) : (SIV V (DL ++ E ++ [(nI s, 0)]) dev (fset sto s (st_commit p0 P c (dv_en (id, K0, K1, on, lnu, (po_hand id ids s g se me dir DL.length).1, fset (po_hand id ids s g se me dir DL.length).2.1 g (mm_posted ((po_hand id ids s g se me dir DL.length).2.1 g))))).2) G ls ∧ SIV V (DL ++ E ++ [(nI s, 0)]) (fset dev s (id, K0, K1, on, lnu, (po_hand id ids s g se me dir DL.length).1, fset (po_hand id ids s g se me dir DL.length).2.1 g (mm_posted ((po_hand id ids s g se me dir DL.length).2.1 g)))) (fset sto s (st_commit p0 P c (dv_en (id, K0, K1, on, lnu, (po_hand id ids s g se me dir DL.length).1, fset (po_hand id ids s g se me dir DL.length).2.1 g (mm_posted ((po_hand id ids s g se me dir DL.length).2.1 g))))).2) G ls) ∧ SIV V (DL ++ E ++ [(nI s, 0)]) (fset dev s (id, K0, K1, on, lnu, (po_hand id ids s g se me dir DL.length).1, fset (po_hand id ids s g se me dir DL.length).2.1 g (mm_posted ((po_hand id ids s g se me dir DL.length).2.1 g)))) (fset sto s (st_commit p0 P c (dv_en (id, K0, K1, on, lnu, (po_hand id ids s g se me dir DL.length).1, fset (po_hand id ids s g se me dir DL.length).2.1 g (mm_posted ((po_hand id ids s g se me dir DL.length).2.1 g))))).2) (fun y => G y ∨ y ∈ (po_hand id ids s g se me dir DL.length).2.2.2.2 ++ [mm_post ((po_hand id ids s g se me dir DL.length).2.1 g) (nI g) (nI s) (Trw 4 0 0 0 0 (Tsec (nI (po_hand id ids s g se me dir DL.length).2.2.2.1) (nI s) 0) tz tz tz)]) (ls ++ [(Tsec (nI (po_hand id ids s g se me dir DL.length).2.2.2.1) (nI s) 0, nI s, nI (16 + g), false, tz, tz, ((po_hand id ids s g se me dir DL.length).2.1 g).2.1, 0, fun _ => 2147483647)]) := by
  obtain ⟨Z, GF, PF, h0, hT⟩ := h
  have hIs := hI.2 s hs
  have hUC := SI_UC h0
  have em : dme (dev s) = me := by rw [eD]; rfl
  have eid : id = Tsec (nI s) (nI s) 0 := by have := IVd_id hIs; rw [eD] at this; exact this
  have hdr := ho_dr6 (id := id) (ids := ids) (s := s) (g := g) (se := se) (me := me) (dir := dir) (dr := DL.length)
  have hdg := po_drg (id := id) (ids := ids) (s := s) (g := g) (se := se) (me := me) (dir := dir) (dr := DL.length)
  have hq := h0.2.2.2 s hs
  have hbs := IVd_bos hIs
  rw [eD] at hq hbs
  have hls : ∀ r, r ∈ ls → ∃ m d p, m < DL.length ∧ r.1 = Tsec (nI m) d p := fun r hr => by
    obtain ⟨m, d, p, -, a2, a3⟩ := hI.1.2 r hr
    exact ⟨m, d, p, a2, a3⟩
  have hgm := (IVd_me hIs).1 g hg
  rw [em] at hgm
  have hov := ho_view (Φ := fun q S => BOS S ∧ (V s → V q → NSS V S) ∧ (¬ V s → SPU (UU V Z GF PF ls) S)) (id := id) (ids := ids) (s := s) (g := g) (gift := mm_gift (mm_ren (me g) DL.length (nI s)) (nI g)) (dir0 := dir)
    (fun p S m q => ⟨BOS_turn q.1, fun hv hw => (NSS_turn (q.2.1 hv hw)).1, fun hv => (SPU_turn hUC (SI_out h0 hV (by omega) hv) (q.2.2 hv)).1⟩)
    (fun p m m' dir' hd' hp hz => ⟨(BOS_open (Or.inr (an_pre_kd hz)) an_once_RP).1, fun hv hw => by
      rw [eid]
      exact (NSS_open hv hw (SI_pre h0 (fun i => (hd' i).elim (fun e => by rw [e]; exact hdir i) (fun e => by rw [e]; exact Kn_z)) hw (hid p hp) hz)).1, fun hv => (SPU_open hUC (U_root hUC (by rw [eid]; exact SI_out h0 hV (by omega) hv) (SI_out h0 hV (by omega) hv)) (SI_out h0 hV (by omega) hv)).1⟩)
    6 0 (se, fset me g (mm_ren (me g) DL.length (nI s)), dir, dr_ren (me g) DL.length, []) (by omega) (fun j => Or.inl rfl) (fun q S hS => ⟨hbs q S hS, fun hv hw => (hq.1 hv).1 q hw S hS, fun hv => (hq.2 hv).1.2.2.2.1 q S hS⟩)
  have ePO : ho id ids s g (mm_gift (mm_ren (me g) DL.length (nI s)) (nI g)) 6 0 (se, fset me g (mm_ren (me g) DL.length (nI s)), dir, dr_ren (me g) DL.length, []) = po_hand id ids s g se me dir DL.length := rfl
  rw [ePO] at hov
  obtain ⟨v1, x, v2, v3, v4⟩ := hov
  have v2 : (po_hand id ids s g se me dir DL.length).2.1 = fset (fset me g (mm_ren (me g) DL.length (nI s))) g (mm_ga (fset me g (mm_ren (me g) DL.length (nI s)) g) x) := v2
  have v3 : ∀ q, q < 6 → hbit (fset me g (mm_ren (me g) DL.length (nI s)) g).2.2.2.2.2.2.2.1 (nI q) = true → hbit x (nI q) = true := v3
  have v4 : ∀ W, W ∈ (po_hand id ids s g se me dir DL.length).2.2.2.2 → W ∈ ([] : List Tm) ∨ ∃ q S m S1 l, (0 ≤ q ∧ q < 6 ∧ q ≠ s) ∧ (hbit (fset me g (mm_ren (me g) DL.length (nI s)) g).2.1 (nI q) = true ∧ hbit (fset me g (mm_ren (me g) DL.length (nI s)) g).2.2.2.2.2.2.2.1 (nI q) = false ∧ hbit x (nI q) = true) ∧ (BOS S ∧ (V s → V q → NSS V S) ∧ (¬ V s → SPU (UU V Z GF PF ls) S)) ∧ W = ss_wire (ss_turn S (Tsec m (nI s) 2)) (nI s) (nI q) (mm_gift (mm_ren (me g) DL.length (nI s)) (nI g)) ∧ (po_hand id ids s g se me dir DL.length).1 q = S1 :: l ∧ S1.2.2.2.2.2.2.2.2.2.2 = S.2.2.2.2.2.2.2.2.2.2 := v4
  rw [fset_same] at v2 v3
  rw [fset_same] at v4
  rw [fset_fset] at v2
  generalize hPO : po_hand id ids s g se me dir DL.length = PO at *
  have eM : fset PO.2.1 g (mm_posted (PO.2.1 g)) = fset me g (mm_posted (mm_ga (mm_ren (me g) DL.length (nI s)) x)) := by rw [v2, fset_same, fset_fset]
  have eG : PO.2.1 g = mm_ga (mm_ren (me g) DL.length (nI s)) x := by rw [v2, fset_same]
  rw [eM, eG]
  obtain ⟨m0, j0, r1, r2, r3, r4, k0, r5, r6⟩ := ren_root hgm hn hI.1.1 hd hls
  obtain ⟨p1, p2, p3, p4, p5, p6⟩ := posted_p (mm_ren (me g) DL.length (nI s)) x
  obtain ⟨rn1, rn2⟩ := ren_1 (me g) DL.length (nI s)
  have hdok := dok_post (se' := PO.1) (x := x) h0 hV hs hg hIs hn hd eD v3 (fun hv q hw S hS => (v1 q S hS).2.1 hv hw) (fun hv q S hS => (v1 q S hS).2.2 hv) (hT.1 s · g · · )
  have h3 := SI_draw (E ++ [(nI s, 0)]) h0
  rw [← List.append_assoc] at h3
  obtain ⟨d1, d2, d3⟩ := hdok
  obtain ⟨c0, c1⟩ := SI_commit (p0 := p0) (c := c) h3 hs hP (IVd_bos hIs) (fun q S hS => hB' q S hS) d1 d2 d3
  refine ⟨⟨⟨Z, GF, PF, c0, hT⟩, Z, GF, PF, c1, hT⟩, ?_⟩
  generalize hD' : ((id, K0, K1, on, lnu, PO.1, fset me g (mm_posted (mm_ga (mm_ren (me g) DL.length (nI s)) x))) : DV) = D' at *
  have eD' : dme D' = fset me g (mm_posted (mm_ga (mm_ren (me g) DL.length (nI s)) x)) := by rw [← hD']; rfl
  generalize (st_commit p0 P c (dv_en D')).2 = C at *
  have hgme := IVd_me hIs
  rw [em] at hgme
  -- the letter's draw
  have hm0 : m0 < PO.2.2.2.1 := by
    rcases r2 with z | ⟨z, z2⟩
    · omega
    · have : dr_ren (me g) DL.length = DL.length + 2 := if_neg (by rw [z2]; decide)
      omega
  generalize hmm : PO.2.2.2.1 = m at *
  have hlen : (DL ++ E ++ [(nI s, 0)]).length = m + 1 := by simp only [List.length_append, List.length_cons, List.length_nil]; omega
  have hroot : ∀ q, V q → ∀ g', g' < 4 → ¬ (q = s ∧ g' = g) → (dme (fset dev s D' q) g').2.2.2.1 ≠ 0 → ∃ m', m' < DL.length ∧ upc (Tsec (nI m') (nI q) 0) (dme (fset dev s D' q) g').2.2.2.2.1 ∧ Tsec (nI m') (nI q) 0 ≠ Tsec (nI m0) (nI s) 0 := fun q hq' g' hg' hne hz => by
    by_cases z : q = s
    · subst z
      have hgg : g' ≠ g := fun w => hne ⟨rfl, w⟩
      rw [fset_same, eD', fset_ne hgg] at hz ⊢
      obtain ⟨m', a1, a2, a3, a4⟩ := (hgme.1 g' hg').2.2 hz
      refine ⟨m', a2, a3, fun w => ?_⟩
      rcases r2 with y | ⟨y, -⟩
      · have f : mm_fresh (me g) = true := by
          cases f : mm_fresh (me g)
          · rw [ren_n f, (renew_p _ _ _).2.1] at r3
            have := (Tsec_inj (by omega) (by omega) (c7_inj (j := 0) (k := j0) rfl rfl r3).2).1
            omega
          · rfl
        rw [ren_f f] at r3
        exact hgme.2 g' g hg' hg hgg _ rfl hz (fresh_ge f) a3 ⟨j0, by rw [w]; exact r3⟩
      · have := (Tsec_inj (by omega) (by omega) w).1
        omega
    · rw [fset_ne z] at hz ⊢
      obtain ⟨m', a1, a2, a3, a4⟩ := ((IVd_me (hI.2 q (hV q hq'))).1 g' hg').2.2 hz
      refine ⟨m', a2, a3, fun w => z ?_⟩
      have := hV q hq'
      exact nI_cxl (by omega) (by omega) (Tsec_inj (by omega) (by omega) w).2.1
  have hsg : dme (fset dev s D' s) g = mm_posted (mm_ga (mm_ren (me g) DL.length (nI s)) x) := by rw [fset_same, eD', fset_same]
  generalize hMr : mm_ren (me g) DL.length (nI s) = M at *
  have ema : (mm_ga M x).2.1 = (me g).2.1 := by rw [← rn1]; obtain ⟨ve, ma, go, ge, ch, si, ix, ga, sl, gv⟩ := M; rfl
  have egift : mm_gift M (nI g) = Trw 5 (nI g) M.2.2.2.1 M.2.2.2.2.2.2.1 0 M.2.2.2.2.1 (Tpub M.2.2.2.2.2.1) tz tz := by obtain ⟨ve, ma, go, ge, ch, si, ix, ga, sl, gv⟩ := M; rfl
  have epost : mm_post (mm_ga M x) (nI g) (nI s) (Trw 4 0 0 0 0 (Tsec (nI m) (nI s) 0) tz tz tz) = Tsg M.2.2.2.2.2.1 (Tsl (Tmx 6 M.2.2.2.2.1 tz) (Trw 7 (nI g) (nI s) M.2.2.2.1 M.2.2.2.2.2.2.1 tz tz tz tz) (Trw 4 0 0 0 0 (Tsec (nI m) (nI s) 0) tz tz tz)) := by obtain ⟨ve, ma, go, ge, ch, si, ix, ga, sl, gv⟩ := M; rfl
  rw [epost, ema]
  rw [egift] at v4
  have h16 : ¬ nI (16 + g) < 16 := fun q => by
    have := Int32.lt_iff_toInt_lt.mp q
    rw [nI_toInt (by omega)] at this
    exact absurd this (by show ¬ (((16 + g : Nat) : Int) < 16); omega)
  have body : ∀ (U : Tm → Prop), UC U → U (Tsec (nI m) (nI s) 0) → U (Trw 4 0 0 0 0 (Tsec (nI m) (nI s) 0) tz tz tz) := fun U hU hx => UC_rw hU hx (UC_tz hU) (UC_tz hU) (UC_tz hU)
  -- all of it may be known
  have open_ : ∀ (Z' : Tm → Prop) (GF' : Nat → Nat → Nat → Int32 → Bool → Prop) (PF' : Tm → Int32 → Tm → Prop) (ls' : List RL), UC (UU V Z' GF' PF' ls') → UU V Z' GF' PF' ls' M.2.2.2.2.1 → UU V Z' GF' PF' ls' (Tsec (nI m) (nI s) 0) → ∀ y, y ∈ PO.2.2.2.2 ++ [Tsg M.2.2.2.2.2.1 (Tsl (Tmx 6 M.2.2.2.2.1 tz) (Trw 7 (nI g) (nI s) M.2.2.2.1 M.2.2.2.2.2.2.1 tz tz tz tz) (Trw 4 0 0 0 0 (Tsec (nI m) (nI s) 0) tz tz tz))] → UU V Z' GF' PF' ls' y := fun Z' GF' PF' ls' hU h1 h2 y hy => by
    rcases List.mem_append.mp hy with z | z
    · rcases v4 y z with z | ⟨q, S, mm, S1, l, -, -, w3, rfl, -, -⟩
      · cases z
      · obtain ⟨k, n0, b0, x', y', z', e1, e2, e3⟩ := U_hdr (s := nI s) (d := nI q) (body := Trw 5 (nI g) M.2.2.2.1 M.2.2.2.2.2.2.1 0 M.2.2.2.2.1 (Tpub M.2.2.2.2.2.1) tz tz) hU (TT_turn (x := Tsec mm (nI s) 2) w3.1).1
        rw [e1]
        exact Pub_sl e3 (Or.inl (UC_rw hU h1 (hU.2.2 _ rfl) (UC_tz hU) (UC_tz hU)))
    · rw [List.mem_singleton.mp z]
      exact Pub_sg (Pub_sl (UC_rw hU (UC_tz hU) (UC_tz hU) (UC_tz hU) (UC_tz hU)) (Or.inl (body _ hU h2))) (Or.inr (Sg_not (Or.inr (by show ¬ (5 : Int32) = 7; decide))))
  obtain ⟨r, er⟩ : ∃ r : RL, r = (Tsec (nI m) (nI s) 0, nI s, nI (16 + g), false, tz, tz, (me g).2.1, 0, fun _ => 2147483647) := ⟨_, rfl⟩
  rw [← er]
  have ht : ∀ q, r.2.2.2.2.2.2.2.2 q = 2147483647 := fun q => by rw [er]
  by_cases hv : V s
  · have hpf := ren_pf h0 hv hg hd
    rw [em, hMr] at hpf
    by_cases hma : ∀ p, p < 6 → hbit (me g).2.1 (nI p) = true → V p
    · -- within V
      have hsec := ren_sec h0 hs hv hg hd (by rw [em]; exact hma)
      rw [em, hMr] at hsec
      have hgf := ren_gf h0 hs hv hg hIs hn
      rw [em, hMr] at hgf
      have hi : inV V r := by rw [er]; exact ⟨⟨s, hv, rfl⟩, fun q => absurd q h16, fun _ => hma⟩
      have h4 := SI_gf (N := fun s' d g' e o => s' = s ∧ g' = g ∧ e = M.2.2.2.1 ∧ V d ∧ hbit M.2.2.2.2.2.2.2.1 (nI d) = false ∧ hbit x (nI d) = true ∧ ∃ S1 l, PO.1 d = S1 :: l ∧ o = S1.2.2.2.2.2.2.2.2.2.2) c1 (fun s' d g' e o q _ _ => by
        obtain ⟨rfl, rfl, rfl, -, -, q6, -⟩ := q
        rw [hsg, p2, p5]
        exact ⟨k0, k0, r6, r6, Nat.le_refl _, by omega, fun _ => q6⟩) (fun s' d g' e o o' q q' => by
        obtain ⟨rfl, rfl, rfl, -, q5, -, S1, l, q7, rfl⟩ := q
        rcases q' with ⟨-, -, -, -, -, -, S2, l2, q8, rfl⟩ | q'
        · rw [q7] at q8; cases q8; rfl
        · obtain ⟨k, k', a1, a2, a3, a4, a5⟩ := hgf d _ o' q'
          have : k = k' := nI_cxl (by omega) (by omega) (a1.symm.trans a2)
          rw [a5 this] at q5
          cases q5)
      have h5 := SI_let (r := r) h4 (fun _ => by rw [er]; exact h0.1.2.1 m (by omega) (by omega) s hv 0 0)
      have h6 := SI_pf (X0 := Tsec (nI m) (nI s) 0) (c0 := M.2.2.2.2.1) (e0 := M.2.2.2.1) h5 ⟨m, _, _, by omega, rfl⟩ (hsec 0) ⟨m0, s, by omega, ⟨j0, r3⟩⟩ (fun q hq' g' hg' hz w => by
        by_cases z : q = s ∧ g' = g
        · obtain ⟨rfl, rfl⟩ := z
          rw [hsg, p3, r3] at w
          obtain ⟨k, w⟩ := w
          rw [c7_s, c7_add] at w
          have := (c7_inj rfl rfl w).1
          omega
        · obtain ⟨m', a1, ⟨j', a2⟩, a3⟩ := hroot q hq' g' hg' z hz
          rw [a2, r3] at w
          obtain ⟨k, w⟩ := w
          rw [c7_add] at w
          exact a3 (c7_inj rfl rfl w).2.symm) (fun e c' q => by
        obtain ⟨⟨m', d, p, a1, a2⟩, -⟩ := h0.2.1.1 _ _ _ q
        have := (Tsec_inj (by omega) (by omega) a2).1
        omega)
      refine ⟨Z, _, _, SI_give h6 (fun y hy => hy.imp (fun z => z) (fun z => ?_)), ?_⟩
      · have hU := SI_UC h6
        rcases List.mem_append.mp z with z | z
        · rcases v4 y z with z | ⟨q, S, mm, S1, l, w1, w2, w3, rfl, w5, w6⟩
          · cases z
          · obtain ⟨t1, t2, t3⟩ := TT_turn (x := Tsec mm (nI s) 2) w3.1
            obtain ⟨k, n0, b0, x', y', z', e1, e2, e3⟩ := U_hdr (s := nI s) (d := nI q) (body := Trw 5 (nI g) M.2.2.2.1 M.2.2.2.2.2.2.1 0 M.2.2.2.2.1 (Tpub M.2.2.2.2.2.1) tz tz) hU t1
            rw [e1]
            have hw : V q := hma q w1.2.1 (by rw [← rn1]; exact w2.1)
            have hNS := (NSS_turn (x := Tsec mm (nI s) 2) (w3.2.1 hv hw)).2
            refine Pub_sl e3 (Or.inr (Or.inr (Or.inl ⟨NS_mx (by rw [e2]; exact hNS), s, q, g, hv, hw, hg, rfl, rfl, rfl, rfl, rfl, Or.inr ⟨rfl, rfl, rfl, hw, w2.2.1, w2.2.2, S1, l, w5, ?_⟩⟩)))
            rw [bo_up (by decide) (by decide), e2, t3, w6]
        · rw [List.mem_singleton.mp z]
          refine Pub_sg (Pub_sl (UC_rw hU (UC_tz hU) (UC_tz hU) (UC_tz hU) (UC_tz hU)) (Or.inr (Or.inr (Or.inr ⟨r, M.2.2.2.2.1, List.mem_append_right _ (List.mem_singleton.mpr rfl), hi, ?_⟩)))) (Or.inr (Sg_not (Or.inr (by show ¬ (5 : Int32) = 7; decide))))
          rw [er]
          exact ⟨h16, rfl, rfl, nI_add 16 g, rfl, rfl, rfl, Or.inr ⟨rfl, rfl, rfl⟩⟩
      · exact TK_app (TK_mono hT (fun _ _ _ _ _ z => Or.inl z) (fun _ _ _ _ _ z => z.elim (hT.1 _ _ _ _ _) (fun z => z.2.2.2.1)) (fun _ _ _ z => Or.inl z)) ht
    · -- not within V
      have hi : ¬ inV V r := fun q => by rw [er] at q; exact hma (q.2.2 h16)
      have hk : ∀ r, r ∈ ls → kd r.1 = 1 := fun r hr => by obtain ⟨m', d, p, -, e⟩ := hls r hr; rw [e]; rfl
      have hins : ¬ insV V (dme (fset dev s D' s) g) := fun q => by
        rw [hsg] at q
        exact hma (fun p hp hb => q.2 p hp (by rw [p1, rn1]; exact hb))
      have h4 := SI_pub (y := M.2.2.2.2.1) c1 hV r3 r1 (by omega) (by omega) hpf hk (fun r hr _ => r4 r hr) (fun q hq' g' hg' hin j w => by
        by_cases z : q = s ∧ g' = g
        · obtain ⟨rfl, rfl⟩ := z
          exact hins hin
        · obtain ⟨m', a1, ⟨j', a2⟩, a3⟩ := hroot q hq' g' hg' z (fresh_ge hin.1)
          rw [a2, c7_add, r3] at w
          obtain ⟨k, w⟩ := w
          rw [c7_add] at w
          exact a3 (c7_inj rfl rfl w).2)
      have h5 := SI_pubX (DL0 := DL) (m := m) (s := s) h4 hV (by omega) (by omega) (by omega) (fun X e c' q => by
        obtain ⟨-, -, ⟨m', v, a1, a2⟩, -⟩ := h0.2.1.1 X e c' q
        exact ⟨m', v, by omega, a2⟩) (fun r hr => by
        obtain ⟨m', d, p, a1, a2⟩ := hls r hr
        exact ⟨m', d, p, by omega, a2⟩) (fun q hq' g' hg' hin => by
        by_cases z : q = s ∧ g' = g
        · obtain ⟨rfl, rfl⟩ := z
          exact absurd hin hins
        · obtain ⟨m', a1, a2, -⟩ := hroot q hq' g' hg' z (fresh_ge hin.1)
          exact ⟨m', by omega, a2⟩)
      have h6 := SI_let (r := r) h5 (fun q => absurd q hi)
      refine ⟨_, GF, PF, SI_give h6 (fun y hy => hy.imp (fun z => z) (fun z => open_ _ _ _ _ (SI_UC h6) ?_ (U_self rfl) y z)), TK_app hT ht⟩
      have hgch : gch M.2.2.2.2.1 := ⟨j0, _, rfl, r3⟩
      exact (gch_pub h6.1.1.1 hgch).mpr (fun q => q.1.2 ⟨0, rfl⟩)
  · have hi : ¬ inV V r := fun q => by
      rw [er] at q
      obtain ⟨d, q1, q2⟩ := q.1
      have := hV d q1
      have := nI_cxl (by omega) (by omega) (show nI s = nI d from q2)
      subst this
      exact hv q1
    have h6 := SI_let (r := r) c1 (fun q => absurd q hi)
    refine ⟨Z, GF, PF, SI_give h6 (fun y hy => hy.imp (fun z => z) (fun z => open_ _ _ _ _ (SI_UC h6) ?_ (SI_out h6 hV (by omega) hv) y z)), TK_app hT ht⟩
    have hch : UU V Z GF PF ls M.2.2.2.2.1 := by
      cases f : mm_fresh (me g)
      · rw [← hMr, ren_n f, (renew_p _ _ _).2.1]; exact SI_out h0 hV (by omega) hv
      · rw [← hMr, ren_f f]; exact ((hq.2 hv).1.2.2.2.2 g hg).1
    exact UU_more (fun _ z => z) (fun _ _ _ _ _ z => z) (fun _ _ _ z => z) (lsy_app ls r) hch
end SI
