/-! Secrets: a letter that comes was sent so -/
theorem ar_chs {D : DV} {ids : Nat → Tm} {q : Nat} {A : Tm} (h0 : 0 ≤ (ar_spec D ids q A).1) : chs D (ar_spec D ids q A).2.1 := by
  obtain ⟨id, K0, K1, on, lnu, se, me⟩ := D
  have ad : ∀ (M : MM) (v k : Int32), (mm_adopt M v k).2.2.2.1 = M.2.2.2.1 ∧ (mm_adopt M v k).2.2.2.2.1 = M.2.2.2.2.1 := fun M v k => by
    obtain ⟨ve, ma, go, ge, ch, si, ix, ga, sl, gv⟩ := M
    exact ⟨rfl, rfl⟩
  have st : ∀ (M : MM) (p : Nat) (l : List GV), (mm_set M p l).2.2.2.1 = M.2.2.2.1 ∧ (mm_set M p l).2.2.2.2.1 = M.2.2.2.2.1 := fun M p l => by
    obtain ⟨ve, ma, go, ge, ch, si, ix, ga, sl, gv⟩ := M
    exact ⟨rfl, rfl⟩
  have ac : ∀ (M : MM) (p : Nat) (A : Tm) (o : Bool), (mm_acc M p A o).2.2.2.1 = M.2.2.2.1 ∧ (mm_acc M p A o).2.2.2.2.1 = M.2.2.2.2.1 := fun M p A o => by
    unfold mm_acc
    split
    · exact ⟨rfl, rfl⟩
    · exact st _ _ _
  have fs : ∀ (M : MM) (g g' : Nat), M.2.2.2.1 = (me g).2.2.2.1 ∧ M.2.2.2.2.1 = (me g).2.2.2.2.1 → (fset me g M g').2.2.2.1 = (me g').2.2.2.1 ∧ (fset me g M g').2.2.2.2.1 = (me g').2.2.2.2.1 := fun M g g' hM => by
    by_cases c : g' = g
    · subst c; rw [fset_same]; exact hM
    · rw [fset_ne c]; exact ⟨rfl, rfl⟩
  intro g' _
  unfold ar_spec at h0 ⊢
  dsimp only at h0 ⊢
  by_cases f3 : tm_form A = 3
  · rw [if_pos f3] at h0 ⊢
    dsimp only at h0 ⊢
    obtain ⟨-, -, K0', K1', on', S, l, S1, me', -, b3, -, b7⟩ := ts_view h0
    rw [b3]
    rcases b7 with ⟨-, -, z, -⟩ | ⟨-, -, z⟩
    · rw [z]; exact ⟨rfl, rfl⟩
    · rw [z]; exact fs _ _ _ (ac _ _ _ _)
  · rw [if_neg f3] at h0 ⊢
    by_cases f6 : tm_form A = 6
    · rw [if_pos f6] at h0 ⊢
      by_cases c : tl_ok A q (nu (pt A 1) 0).toNatClampNeg (ids (nu (pt A 1) 0).toNatClampNeg) (me (nu (pt A 1) 0).toNatClampNeg)
      · rw [cif_t c]; exact fs _ _ _ (ad _ _ _)
      · rw [cif_f c] at h0; exact absurd (show (0 : Int32) ≤ -16 from h0) (by decide)
    · rw [if_neg f6] at h0 ⊢
      by_cases f7 : tm_form A = 7
      · rw [if_pos f7] at h0 ⊢
        dsimp only at h0 ⊢
        obtain ⟨-, -, k, G0, I, -, -, -, b3, -⟩ := tp_view h0
        rw [b3]
        exact fs _ _ _ (st _ _ _)
      · rw [if_neg f7] at h0
        exact absurd (show (0 : Int32) ≤ -10 from h0) (by decide)
section SI
variable {V : Nat → Prop} {Z : Tm → Prop} {GF : Nat → Nat → Nat → Int32 → Bool → Prop} {PF : Tm → Int32 → Tm → Prop} {DL : List (Int32 × Int32)} {dev : Nat → DV} {sto : Nat → ST} {G : Tm → Prop} {ls : List RL} {n : Nat}
/-- how a letter within V comes -/
def tkn (V : Nat → Prop) (GF : Nat → Nat → Nat → Int32 → Bool → Prop) (PF : Tm → Int32 → Tm → Prop) (q : Nat) (r : RL) (cf cg : Int32) (co : Bool) : Prop := r.2.1 = cf ∧ ((r.2.2.1 < 16 ∧ cg = -1 ∧ r.2.2.1 = nI q ∧ co = r.2.2.2.1) ∨ (¬ r.2.2.1 < 16 ∧ ∃ s g e c, r.2.1 = nI s ∧ V s ∧ g < 4 ∧ cg = nI g ∧ r.2.2.1 = nI (16 + g) ∧ PF r.1 e c ∧ GF s q g e co))
theorem take_in {q : Nat} {ids : Nat → Tm} {A : Tm} {r : RL} (h : SI V Z GF PF DL dev sto G ls) (hV : ∀ p, V p → p < 6) (hq : V q) (hI : IVd q n DL ls (dev q)) (hA : UU V Z GF PF ls A) (h1 : (ar_spec (dev q) ids q A).1 = 1) (hr : r ∈ ls) (hi : inV V r) (hX : (ar_spec (dev q) ids q A).2.2.2.2.1 = r.1) (hkd : kd r.1 = 1) (hu : ∀ r', r' ∈ ls → r'.1 = r.1 → r' = r) : tkn V GF PF q r (ar_spec (dev q) ids q A).2.2.1 (ar_spec (dev q) ids q A).2.2.2.1 (ar_spec (dev q) ids q A).2.2.2.2.2 := by
  have hU := SI_UC h
  have hnX : ¬ UU V Z GF PF ls r.1 := fun z => (Pub_1 hkd).mp z (h.1.2.2 r hr hi)
  have hD := (h.2.2.2 q (hV q hq)).1 hq
  have hbs := IVd_bos hI
  generalize dev q = D at *
  obtain ⟨id, K0, K1, on, lnu, se, me⟩ := D
  have h0 : 0 ≤ (ar_spec (id, K0, K1, on, lnu, se, me) ids q A).1 := by rw [h1]; decide
  unfold ar_spec at h0 h1 hX ⊢
  dsimp only at h0 h1 hX ⊢
  by_cases f3 : tm_form A = 3
  · rw [if_pos f3] at h0 h1 hX ⊢
    dsimp only at h0 h1 hX ⊢
    have hg3 := form_3 f3
    have hkp := good3_p hg3
    have k5 := form_kd3 f3
    obtain ⟨⟨p, hp, ep⟩, -⟩ := good3_g hg3
    rw [ep, nI_clamp (by omega)] at h0 h1 ⊢
    obtain ⟨hpq, hnq, K0', K1', on', S, l, S1, me', ⟨b1, b2⟩, b3, -, b7⟩ := ts_view h0
    rcases b7 with ⟨-, g4, -, b8⟩ | ⟨z, -⟩
    · have hBS : BOS S := by
        rcases b1 with b1 | ⟨b, o, -, rfl, -⟩
        · exact hbs _ S b1
        · exact BOS_start (Or.inr hkp.1)
      have hbo := (BOS_key (Or.inr hkp.2.1) hBS b2).2
      rcases ((Pub_5 k5).mp hA).2 with q1 | q1
      · exact absurd (by rw [← hX]; exact UC_pt (i := 0) hU q1 (good_kd7 g4) (by decide)) hnX
      · rcases q1 with ⟨-, r', c1, c2, c3, -, c4, c5, -, c6, c7'⟩ | ⟨-, s', d', g', -, -, -, -, -, -, q1, -⟩ | ⟨r', c, -, -, -, -, q1, -⟩
        · have e := hu r' c1 (c6.symm.trans hX)
          subst e
          exact ⟨c4.symm.trans ep, Or.inl ⟨c3, rfl, c5.symm.trans hnq, by rw [b8, ← hbo]; exact c7'⟩⟩
        · exact absurd ((good_mk g4).symm.trans q1) (by decide)
        · exact absurd ((good_mk hg3).symm.trans q1) (by decide)
    · rw [z] at h1; exact absurd h1 (by decide)
  · rw [if_neg f3] at h0 h1 hX ⊢
    by_cases f6 : tm_form A = 6
    · rw [if_pos f6] at h1
      by_cases c : tl_ok A q (nu (pt A 1) 0).toNatClampNeg (ids (nu (pt A 1) 0).toNatClampNeg) (me (nu (pt A 1) 0).toNatClampNeg)
      · rw [cif_t c] at h1; exact absurd (show (3 : Int32) = 1 from h1) (by decide)
      · rw [cif_f c] at h1; exact absurd (show (-16 : Int32) = 1 from h1) (by decide)
    · rw [if_neg f6] at h0 h1 hX ⊢
      by_cases f7 : tm_form A = 7
      · rw [if_pos f7] at h0 h1 hX ⊢
        dsimp only at h0 h1 hX ⊢
        have hg7 := form_7 f7
        obtain ⟨k6, k5⟩ := form_kd7 f7
        obtain ⟨⟨g, hg, eg⟩, p, hp, ep⟩ := good7_g hg7
        rw [eg, ep, nI_clamp (by omega), nI_clamp (by omega)] at h0 ⊢
        obtain ⟨hpq, g4, k, G0, I, b1, b2, b3, b4, b5⟩ := tp_view h0
        have hA1 : UU V Z GF PF ls (pt A 1) := ((Pub_6 k6).mp hA).1
        rcases ((Pub_5 k5).mp hA1).2 with q1 | q1
        · exact absurd (by rw [← hX]; exact UC_pt (i := 0) hU q1 (good_kd7 g4) (by decide)) hnX
        · have hseal := SI_seal h _ _ _ q1
          rcases q1 with ⟨-, r', -, -, -, q1, -⟩ | ⟨-, s', d', g', -, -, -, q1, -⟩ | ⟨r', c, c1, c2, c3, c4, -, c5, c6, -, c8, c9⟩
          · exact absurd ((good_mk hg7).symm.trans q1) (by decide)
          · exact absurd ((good_mk hg7).symm.trans q1) (by decide)
          · have e := hu r' c1 (c8.symm.trans hX)
            subst e
            obtain ⟨s, hs, es⟩ := c2.1
            have esp : s = p := nI_cxl (by have := hV s hs; omega) (by omega) (es.symm.trans (c6.symm.trans ep))
            subst esp
            refine ⟨c6.symm.trans ep, Or.inr ⟨c3, s, g, nu (pt (pt A 1) 1) 2, c, es, hs, hg, rfl, by rw [← c5, eg]; exact nI_add 16 g, c9, ?_⟩⟩
            rw [b5, ← b2]
            rcases (hD.2 g hg).2.2 s hs G0 (List.mem_of_getElem? b1) with w | w
            · exact absurd (GI_gkey (R := TT1) (UC_hcl hU) w b3).2 hseal
            · exact w
      · rw [if_neg f7] at h1
        exact absurd (show (-10 : Int32) = 1 from h1) (by decide)
/-- one who takes does not take from himself -/
theorem ar_other {D : DV} {ids : Nat → Tm} {q : Nat} {A : Tm} (hq : q < 6) (h1 : (ar_spec D ids q A).1 = 1) : (ar_spec D ids q A).2.2.1 ≠ nI q := by
  obtain ⟨id, K0, K1, on, lnu, se, me⟩ := D
  have h0 : 0 ≤ (ar_spec (id, K0, K1, on, lnu, se, me) ids q A).1 := by rw [h1]; decide
  unfold ar_spec at h0 h1 ⊢
  dsimp only at h0 h1 ⊢
  by_cases f3 : tm_form A = 3
  · rw [if_pos f3] at h0 h1 ⊢
    dsimp only at h0 h1 ⊢
    obtain ⟨⟨p, hp, ep⟩, -⟩ := good3_g (form_3 f3)
    rw [ep, nI_clamp (by omega)] at h0
    rw [ep]
    obtain ⟨hpq, -⟩ := ts_view h0
    exact fun z => hpq (nI_cxl (by omega) (by omega) z)
  · rw [if_neg f3] at h0 h1 ⊢
    by_cases f6 : tm_form A = 6
    · rw [if_pos f6] at h1
      by_cases c : tl_ok A q (nu (pt A 1) 0).toNatClampNeg (ids (nu (pt A 1) 0).toNatClampNeg) (me (nu (pt A 1) 0).toNatClampNeg)
      · rw [cif_t c] at h1; exact absurd (show (3 : Int32) = 1 from h1) (by decide)
      · rw [cif_f c] at h1; exact absurd (show (-16 : Int32) = 1 from h1) (by decide)
    · rw [if_neg f6] at h0 h1 ⊢
      by_cases f7 : tm_form A = 7
      · rw [if_pos f7] at h0 h1 ⊢
        dsimp only at h0 h1 ⊢
        obtain ⟨-, p, hp, ep⟩ := good7_g (form_7 f7)
        rw [ep, nI_clamp (by omega)] at h0
        rw [ep]
        obtain ⟨hpq, -⟩ := tp_view h0
        exact fun z => hpq (nI_cxl (by omega) (by omega) z)
      · rw [if_neg f7] at h1
        exact absurd (show (-10 : Int32) = 1 from h1) (by decide)
theorem dok_ar {q : Nat} {ids : Nat → Tm} {A : Tm} (h : SI V Z GF PF DL dev sto G ls) (hV : ∀ p, V p → p < 6) (hq : q < 6) (hid : ∀ p, p < 6 → ids p = Tsec (nI p) (nI p) 0) (hI : IVd q n DL ls (dev q)) (hk : ∀ b X, pk_find (dev q).2.1 (dev q).2.2.1 X = some b → kd (pk_of (dev q).2.1 (dev q).2.2.1 b).1 = 1) (hA : Kn G A) (h0 : 0 ≤ (ar_spec (dev q) ids q A).1) : dok V Z GF PF ls q (ar_spec (dev q) ids q A).2.1 := ⟨fun hv => DVS_ar h hV hv hid hI hk ((h.2.2.2 q hq).1 hv) (SI_Kn h hA) h0, fun hv => DPU_ar (SI_UC h) ((h.2.2.2 q hq).2 hv).1 (SI_Kn h hA) h0, SI_chs h (ar_chs h0)⟩
end SI
