/-! Secrets: a post -/
theorem ren_f {M : MM} {dr : Nat} {v : Int32} (c : mm_fresh M = true) : mm_ren M dr v = M := if_pos c
theorem ren_n {M : MM} {dr : Nat} {v : Int32} (c : mm_fresh M = false) : mm_ren M dr v = mm_renew M dr v := if_neg (by rw [c]; decide)
theorem ren_1 (M : MM) (dr : Nat) (v : Int32) : (mm_ren M dr v).2.1 = M.2.1 ∧ mgv (mm_ren M dr v) = mgv M := by
  cases c : mm_fresh M
  · rw [ren_n c]
    obtain ⟨ve, ma, go, ge, ch, si, ix, ga, sl, gv⟩ := M
    exact ⟨rfl, rfl⟩
  · rw [ren_f c]; exact ⟨rfl, rfl⟩
theorem renew_p (M : MM) (dr : Nat) (v : Int32) : (mm_renew M dr v).2.2.2.1 = M.2.2.2.1 + 1 ∧ (mm_renew M dr v).2.2.2.2.1 = Tsec (nI dr) v 0 ∧ (mm_renew M dr v).2.2.2.2.2.1 = Tsec (nI (dr + 1)) v 0 ∧ (mm_renew M dr v).2.2.2.2.2.2.2.1 = 0 := by
  obtain ⟨ve, ma, go, ge, ch, si, ix, ga, sl, gv⟩ := M
  exact ⟨rfl, rfl, rfl, rfl⟩
theorem fresh_ge {M : MM} (c : mm_fresh M = true) : M.2.2.2.1 ≠ 0 := fun e => by
  unfold mm_fresh at c
  rw [e, decide_eq_true rfl] at c
  cases c
theorem ren_root {s n : Nat} {DL : List (Int32 × Int32)} {ls : List RL} {M : MM} (h : GM1 s n DL ls M) (hn : n ≤ 64) (h6 : 6 ≤ DL.length) (hd : DL.length ≤ 2700) (hls : ∀ r, r ∈ ls → ∃ m d p, m < DL.length ∧ r.1 = Tsec (nI m) d p) : ∃ m0 j, 6 ≤ m0 ∧ (m0 < DL.length ∨ (m0 = DL.length ∧ mm_fresh M = false)) ∧ (mm_ren M DL.length (nI s)).2.2.2.2.1 = c7 j (Tsec (nI m0) (nI s) 0) ∧ (∀ r, r ∈ ls → r.1 ≠ Tsec (nI m0) (nI s) 0) ∧ ∃ k, k ≤ 65 ∧ (mm_ren M DL.length (nI s)).2.2.2.1 = nI k := by
  obtain ⟨h1, ⟨e, h2, h3⟩, h4⟩ := h
  cases c : mm_fresh M
  · rw [ren_n c]
    obtain ⟨q1, q2, q3, q4⟩ := renew_p M DL.length (nI s)
    refine ⟨DL.length, 0, h6, Or.inr ⟨rfl, rfl⟩, q2, fun r hr z => ?_, e + 1, by omega, by rw [q1, h3]; exact nI_s1 e⟩
    obtain ⟨m, d, p, a1, a2⟩ := hls r hr
    rw [a2] at z
    have := (Tsec_inj (by omega) (by omega) z).1
    omega
  · rw [ren_f c]
    obtain ⟨m, a1, a2, ⟨j, a3⟩, a4⟩ := h4 (fresh_ge c)
    exact ⟨m, j, a1, Or.inl a2, a3, a4, e, by omega, h3⟩
section SI
variable {V : Nat → Prop} {Z : Tm → Prop} {GF : Nat → Nat → Nat → Int32 → Bool → Prop} {PF : Tm → Int32 → Tm → Prop} {DL : List (Int32 × Int32)} {dev : Nat → DV} {sto : Nat → ST} {G : Tm → Prop} {ls : List RL} {n s g : Nat}
theorem ren_pf (h : SI V Z GF PF DL dev sto G ls) (hv : V s) (hg : g < 4) (hd : DL.length ≤ 2700) : ∀ X e c, PF X e c → ¬ upc (mm_ren (dme (dev s) g) DL.length (nI s)).2.2.2.2.1 c := fun X e c q z => by
  obtain ⟨-, -, ⟨m', v, a1, a2⟩, a3⟩ := h.2.1.1 X e c q
  cases f : mm_fresh (dme (dev s) g)
  · rw [ren_n f, (renew_p _ _ _).2.1] at z
    obtain ⟨j, a2⟩ := a2
    rw [a2] at z
    have := (Tsec_inj (by omega) (by omega) (upc_sec rfl rfl z)).1
    omega
  · rw [ren_f f] at z
    exact a3 s hv g hg (fresh_ge f) z
theorem ren_sec (h : SI V Z GF PF DL dev sto G ls) (hs : s < 6) (hv : V s) (hg : g < 4) (hd : DL.length ≤ 2700) (hm : ∀ p, p < 6 → hbit (dme (dev s) g).2.1 (nI p) = true → V p) : ∀ j, Z (c7 j (mm_ren (dme (dev s) g) DL.length (nI s)).2.2.2.2.1) := fun j => by
  cases f : mm_fresh (dme (dev s) g)
  · rw [ren_n f, (renew_p _ _ _).2.1]
    exact h.1.2.1 DL.length (Nat.le_refl _) (by omega) s hv j 0
  · rw [ren_f f]
    have := (h.2.2.2 s hs).1 hv
    generalize dev s = D at this hm f
    obtain ⟨id, K0, K1, on, lnu, se, me⟩ := D
    exact (this.2 g hg).1 ⟨f, hm⟩ j
theorem ren_gf (h : SI V Z GF PF DL dev sto G ls) (hs : s < 6) (hv : V s) (hg : g < 4) (hI : IVd s n DL ls (dev s)) (hn : n ≤ 64) : (∀ d e o, GF s d g e o → ∃ k k', e = nI k ∧ (mm_ren (dme (dev s) g) DL.length (nI s)).2.2.2.1 = nI k' ∧ k ≤ k' ∧ k' ≤ 100 ∧ (k = k' → hbit (mm_ren (dme (dev s) g) DL.length (nI s)).2.2.2.2.2.2.2.1 (nI d) = true)) := fun d e o q => by
  have h1 := (h.2.2.2 s hs).1 hv
  have h2 := (IVd_me hI).1 g hg
  have h3 : ∃ k k', e = nI k ∧ (dme (dev s) g).2.2.2.1 = nI k' ∧ k ≤ k' ∧ k' ≤ 100 ∧ (k = k' → hbit (dme (dev s) g).2.2.2.2.2.2.2.1 (nI d) = true) := by
    generalize dev s = D at h1
    obtain ⟨id, K0, K1, on, lnu, se, me⟩ := D
    exact (h1.2 g hg).2.1 d e o q
  obtain ⟨k, k', a1, a2, a3, a4, a5⟩ := h3
  obtain ⟨-, ⟨e', b1, b2⟩, -⟩ := h2
  have : k' = e' := nI_cxl (by omega) (by omega) (a2.symm.trans b2)
  cases f : mm_fresh (dme (dev s) g)
  · rw [ren_n f]
    obtain ⟨q1, -, -, q4⟩ := renew_p (dme (dev s) g) DL.length (nI s)
    exact ⟨k, k' + 1, a1, by rw [q1, a2]; exact nI_s1 k', by omega, by omega, fun z => by omega⟩
  · rw [ren_f f]; exact ⟨k, k', a1, a2, a3, a4, a5⟩
/-- the group as it stands behind a post -/
theorem posted_p (M : MM) (x : Int32) : (mm_posted (mm_ga M x)).2.1 = M.2.1 ∧ (mm_posted (mm_ga M x)).2.2.2.1 = M.2.2.2.1 ∧ (mm_posted (mm_ga M x)).2.2.2.2.1 = Tmx 7 M.2.2.2.2.1 tz ∧ (mm_posted (mm_ga M x)).2.2.2.2.2.1 = M.2.2.2.2.2.1 ∧ (mm_posted (mm_ga M x)).2.2.2.2.2.2.2.1 = x ∧ mgv (mm_posted (mm_ga M x)) = mgv M := by
  obtain ⟨ve, ma, go, ge, ch, si, ix, ga, sl, gv⟩ := M
  exact ⟨rfl, rfl, rfl, rfl, rfl, rfl⟩
theorem c7_s (j : Nat) (a : Tm) : c7 j (Tmx 7 a tz) = c7 (j + 1) a := c7_add a 1 j
theorem upc_s {a c : Tm} (h : upc (Tmx 7 a tz) c) : upc a c := by
  obtain ⟨k, e⟩ := h
  exact ⟨k + 1, by rw [e, c7_s]⟩
/-- the device behind a post -/
theorem dok_post {se' : Nat → List SS} {x : Int32} {id : Tm} {K0 K1 : PK} {on : List (Tm × Int32)} {lnu : Int32} {se : Nat → List SS} {me : Nat → MM} (h : SI V Z GF PF DL dev sto G ls) (hV : ∀ p, V p → p < 6) (hs : s < 6) (hg : g < 4) (hI : IVd s n DL ls (dev s)) (hn : n ≤ 64) (hd : DL.length ≤ 2700) (eD : dev s = (id, K0, K1, on, lnu, se, me)) (hx : ∀ q, q < 6 → hbit (mm_ren (me g) DL.length (nI s)).2.2.2.2.2.2.2.1 (nI q) = true → hbit x (nI q) = true) (h1 : V s → ∀ q, V q → ∀ S, S ∈ se' q → NSS V S) (h2 : ¬ V s → ∀ q S, S ∈ se' q → SPU (UU V Z GF PF ls) S) (hGd : ∀ d e o, GF s d g e o → V d) : dok V Z GF PF ls s (id, K0, K1, on, lnu, se', fset me g (mm_posted (mm_ga (mm_ren (me g) DL.length (nI s)) x))) := by
  have em : dme (dev s) = me := by rw [eD]; rfl
  obtain ⟨p1, p2, p3, p4, p5, p6⟩ := posted_p (mm_ren (me g) DL.length (nI s)) x
  obtain ⟨r1, r2⟩ := ren_1 (me g) DL.length (nI s)
  have hq := h.2.2.2 s hs
  refine ⟨fun hv => ?_, fun hv => ?_, fun hv X e c q g' hg' hz => ?_⟩
  · have q1 := hq.1 hv
    rw [eD] at q1
    refine ⟨h1 hv, fun g' hg' => ?_⟩
    by_cases z : g' = g
    · subst z
      rw [fset_same]
      refine ⟨fun hi j => ?_, fun d e o q => ?_, fun p hp G0 hG0 => ?_⟩
      · have hm : ∀ p, p < 6 → hbit (dme (dev s) g').2.1 (nI p) = true → V p := fun p hp hb => hi.2 p hp (by rw [p1, r1, ← em]; exact hb)
        have := ren_sec h hs hv hg' hd hm (j + 1)
        rw [em] at this
        rw [p3, c7_s]
        exact this
      · obtain ⟨k, k', a1, a2, a3, a4, a5⟩ := ren_gf h hs hv hg' hI hn d e o q
        rw [em] at a2 a5
        have := hV d (hGd d e o q)
        exact ⟨k, k', a1, by rw [p2]; exact a2, a3, a4, fun z => by rw [p5]; exact hx d this (a5 z)⟩
      · rw [p6, r2] at hG0
        exact (q1.2 g' hg').2.2 p hp G0 hG0
    · rw [fset_ne z]; exact q1.2 g' hg'
  · obtain ⟨q1, q2, q3, q4, q5⟩ := show DPU _ (id, K0, K1, on, lnu, se, me) by have := (hq.2 hv).1; rw [eD] at this; exact this
    refine ⟨q1, q2, q3, h2 hv, MP_set q5 (fun _ => ?_)⟩
    have hM : MPU (UU V Z GF PF ls) (mm_ren (me g) DL.length (nI s)) := by
      cases f : mm_fresh (me g)
      · have e2 := r2
        rw [ren_n f] at e2 ⊢
        obtain ⟨a1, a2, a3, a4⟩ := renew_p (me g) DL.length (nI s)
        exact ⟨by rw [a2]; exact SI_out h hV (by omega) hv, by rw [a3]; exact SI_out h hV (by omega) hv, fun p G0 hG0 => (q5 g hg).2.2 p G0 (by rw [← e2]; exact hG0)⟩
      · rw [ren_f f]; exact q5 g hg
    exact ⟨by rw [p3]; exact Pub_mx hM.1 Pub_tz, by rw [p4]; exact hM.2.1, fun p G0 hG0 => hM.2.2 p G0 (by rw [← p6]; exact hG0)⟩
  · by_cases z : g' = g
    · subst z
      have hz : (fset me g' (mm_posted (mm_ga (mm_ren (me g') DL.length (nI s)) x)) g').2.2.2.1 ≠ 0 := hz
      show ¬ upc (fset me g' (mm_posted (mm_ga (mm_ren (me g') DL.length (nI s)) x)) g').2.2.2.2.1 c
      rw [fset_same, p3]
      have := ren_pf h hv hg' hd X e c q
      rw [em] at this
      exact fun w => this (upc_s w)
    · have hz : (fset me g (mm_posted (mm_ga (mm_ren (me g) DL.length (nI s)) x)) g').2.2.2.1 ≠ 0 := hz
      show ¬ upc (fset me g (mm_posted (mm_ga (mm_ren (me g) DL.length (nI s)) x)) g').2.2.2.2.1 c
      rw [fset_ne z] at hz ⊢
      have := (h.2.1.1 X e c q).2.2.2 s hv g' hg'
      rw [em] at this
      exact this hz
end SI
