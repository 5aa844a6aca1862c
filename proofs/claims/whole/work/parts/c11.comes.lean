/-! Secrets: what comes -/
theorem gk_1 {I I' : IB} {ix : Int32} {K : Tm} (e : gv_key I ix = some (K, I')) : I'.1 = I.1 := by
  have hs : ∀ (n : Nat) (J : IB), (ib_skipN ix n J).1 = J.1 := by
    intro n
    induction n with
    | zero => intro J; rfl
    | succ n ih =>
      intro J
      unfold ib_skipN
      split
      · rfl
      · rw [ih]; rfl
  unfold gv_key at e
  cases hl : lf_take I.1 ix I.2.2.2 with
  | some q => obtain ⟨k, l⟩ := q; rw [hl] at e; cases e; rfl
  | none =>
    rw [hl] at e
    dsimp only at e
    unfold ib_next at e
    split at e
    · cases e
    · unfold ib_skipTo at e
      split at e
      · cases e; exact hs 5 I
      · cases e
theorem form_kd3 {A : Tm} (h : tm_form A = 3) : kd A = 5 := by
  unfold tm_form at h
  split at h
  · assumption
  · split at h
    · split at h
      · exact absurd h (by decide)
      · split at h
        · exact absurd h (by decide)
        · exact absurd h (by decide)
    · exact absurd h (by decide)
theorem form_kd7 {A : Tm} (h : tm_form A = 7) : kd A = 6 ∧ kd (pt A 1) = 5 := by
  unfold tm_form at h
  split at h
  · split at h
    · exact absurd h (by decide)
    · exact absurd h (by decide)
  · split at h
    · rename_i k6
      split at h
      · exact absurd h (by decide)
      · split at h
        · rename_i q; exact ⟨k6, q.1⟩
        · exact absurd h (by decide)
    · exact absurd h (by decide)
theorem good_kd7 {k : Nat} {A : Tm} (h : Tgood k A = true) : kd A = 7 := by
  unfold Tgood at h
  simp only [Bool.and_eq_true, decide_eq_true_eq] at h
  exact h.1.1.1
theorem mem_set {α : Type} {l : List α} {k : Nat} {x y : α} (h : y ∈ l.set k x) : y ∈ l ∨ y = x := List.mem_or_eq_of_mem_set h
theorem MPU_set {U : Tm → Prop} {M : MM} {p : Nat} {l : List GV} (h : MPU U M) (hl : ∀ G0, G0 ∈ l → U G0.1.1 ∧ GI U TT1 G0.1) : MPU U (mm_set M p l) := by
  obtain ⟨ve, ma, go, ge, ch, si, ix, ga, sl, gv⟩ := M
  refine ⟨h.1, h.2.1, fun q G0 hG0 => ?_⟩
  have hG0 : G0 ∈ fset gv p l q := hG0
  by_cases c : q = p
  · subst c; rw [fset_same] at hG0; exact hl G0 hG0
  · rw [fset_ne c] at hG0; exact h.2.2 q G0 hG0
theorem MPU_acc {U : Tm → Prop} {M : MM} {p : Nat} {A : Tm} {o : Bool} (h : MPU U M) (h1 : U (pt A 1)) (h0 : U (pt A 0)) : MPU U (mm_acc M p A o) := by
  unfold mm_acc
  split
  · exact h
  · refine MPU_set h (fun G0 hG0 => ?_)
    rcases List.mem_cons.mp hG0 with rfl | hG0
    · exact ⟨h1, h0, trivial, fun e he => absurd he List.not_mem_nil⟩
    · exact h.2.2 p G0 (List.mem_of_mem_take hG0)
theorem DPU_ar {U : Tm → Prop} {ids : Nat → Tm} {q : Nat} {D : DV} {A : Tm} (hU : UC U) (h : DPU U D) (hA : U A) (h0 : 0 ≤ (ar_spec D ids q A).1) : DPU U (ar_spec D ids q A).2.1 := by
  obtain ⟨id, K0, K1, on, lnu, se, me⟩ := D
  obtain ⟨h1, ⟨⟨h2, h3⟩, h4, h5⟩, h6, h7, h8⟩ := h
  unfold ar_spec at h0 ⊢
  dsimp only at h0 ⊢
  by_cases f3 : tm_form A = 3
  · rw [if_pos f3] at h0 ⊢
    dsimp only at h0 ⊢
    have hk := good3_p (form_3 f3)
    have k5 := form_kd3 f3
    obtain ⟨hpq, hq, K0', K1', on', S, l, S1, me', ⟨b1, b2⟩, b3, ⟨⟨b4, b4'⟩, b5, b6⟩, b7⟩ := ts_view h0
    rw [b3]
    have hS : SPU U S := by
      rcases b1 with b1 | ⟨b, o, -, rfl, ho⟩
      · exact h7 _ S b1
      · have hpk : U (pk_of K0 K1 b).1 := by cases b; exact h2; exact h4
        refine ⟨GS_start (U_aroot hU h1 hpk (fun x hx => ?_)) (fun y => hU.2.1 _ _ (Or.inl hpk)) trivial trivial, hpk⟩
        rcases ho with rfl | ⟨e, he, rfl⟩
        · cases hx
        · cases hx; exact h6 e he
    obtain ⟨hN, hK⟩ := SPU_key hU hS b2
    have hbody : U (pt A 2) := (hU.1.2.2.2.2 A hA k5).2 hK
    have hb : U (pt (pt A 1) 0) := hU.2.2 _ hk.1
    refine ⟨h1, ⟨⟨b4.1 ▸ h2, fun x hx => (b4.2.2 x hx).elim (h3 x) (fun e => e ▸ hb)⟩, b4'.1 ▸ h4, fun x hx => (b4'.2.2 x hx).elim (h5 x) (fun e => e ▸ hb)⟩, fun e he => h6 e (b5 e he), SE_set h7 (fun S' hS' => ?_), ?_⟩
    · rcases List.mem_cons.mp hS' with z | z
      · rw [z]; exact hN
      · exact h7 _ S' (b6 S' z)
    · rcases b7 with ⟨-, -, z, -⟩ | ⟨-, g5, z⟩
      · rw [z]; exact h8
      · rw [z]
        have k7 := good_kd7 g5
        exact MP_set h8 (fun hg => MPU_acc (h8 _ hg) (UC_pt hU hbody k7 (by decide)) (UC_pt hU hbody k7 (by decide)))
  · rw [if_neg f3] at h0 ⊢
    by_cases f6 : tm_form A = 6
    · rw [if_pos f6] at h0 ⊢
      by_cases c : tl_ok A q (nu (pt A 1) 0).toNatClampNeg (ids (nu (pt A 1) 0).toNatClampNeg) (me (nu (pt A 1) 0).toNatClampNeg)
      · rw [cif_t c]
        exact ⟨h1, ⟨⟨h2, h3⟩, h4, h5⟩, h6, h7, MP_set h8 (fun hg => MPU_adopt (h8 _ hg))⟩
      · rw [cif_f c] at h0; exact absurd (show (0 : Int32) ≤ -16 from h0) (by decide)
    · rw [if_neg f6] at h0 ⊢
      by_cases f7 : tm_form A = 7
      · rw [if_pos f7] at h0 ⊢
        dsimp only at h0 ⊢
        obtain ⟨-, -, k, G0, I, b1, -, b2, b3, -⟩ := tp_view h0
        rw [b3]
        refine ⟨h1, ⟨⟨h2, h3⟩, h4, h5⟩, h6, h7, MP_set h8 (fun hg => MPU_set (h8 _ hg) (fun G1 hG1 => ?_))⟩
        have h9 := (h8 _ hg).2.2 _ G0 (List.mem_of_getElem? b1)
        rcases mem_set hG1 with z | rfl
        · exact (h8 _ hg).2.2 _ G1 z
        · exact ⟨by show U I.1; rw [gk_1 b2]; exact h9.1, (GI_gkey (R := TT1) (UC_hcl hU) h9.2 b2).1⟩
      · rw [if_neg f7] at h0
        exact absurd (show (0 : Int32) ≤ -10 from h0) (by decide)
section SI
variable {V : Nat → Prop} {Z : Tm → Prop} {GF : Nat → Nat → Nat → Int32 → Bool → Prop} {PF : Tm → Int32 → Tm → Prop} {DL : List (Int32 × Int32)} {dev : Nat → DV} {sto : Nat → ST} {G : Tm → Prop} {ls : List RL}
theorem GVS_set {s g p : Nat} {U : Tm → Prop} {M : MM} {l : List GV} (h : GVS V Z GF U s g M) (hl : V p → ∀ G0, G0 ∈ l → GI U TT1 G0.1 ∨ GF p s g G0.2.1 G0.2.2) : GVS V Z GF U s g (mm_set M p l) := by
  obtain ⟨ve, ma, go, ge, ch, si, ix, ga, sl, gv⟩ := M
  refine ⟨h.1, h.2.1, fun q hq G0 hG0 => ?_⟩
  have hG0 : G0 ∈ fset gv p l q := hG0
  by_cases c : q = p
  · subst c; rw [fset_same] at hG0; exact hl hq G0 hG0
  · rw [fset_ne c] at hG0; exact h.2.2 q hq G0 hG0
theorem DVS_ar {n q : Nat} {ids : Nat → Tm} {D : DV} {A : Tm} (h : SI V Z GF PF DL dev sto G ls) (hV : ∀ p, V p → p < 6) (hq : V q) (hid : ∀ p, p < 6 → ids p = Tsec (nI p) (nI p) 0) (hI : IVd q n DL ls D) (hk : ∀ b X, pk_find D.2.1 D.2.2.1 X = some b → kd (pk_of D.2.1 D.2.2.1 b).1 = 1) (hD : DVS V Z GF (UU V Z GF PF ls) q D) (hA : UU V Z GF PF ls A) (h0 : 0 ≤ (ar_spec D ids q A).1) : DVS V Z GF (UU V Z GF PF ls) q (ar_spec D ids q A).2.1 := by
  have hU := SI_UC h
  obtain ⟨id, K0, K1, on, lnu, se, me⟩ := D
  obtain ⟨i1, ⟨i2, i2'⟩, i3, i4⟩ := hI
  have hD0 := hD
  obtain ⟨d1, d2⟩ := hD
  unfold ar_spec at h0 ⊢
  dsimp only at h0 ⊢
  by_cases f3 : tm_form A = 3
  · rw [if_pos f3] at h0 ⊢
    dsimp only at h0 ⊢
    have hg3 := form_3 f3
    have hkp := good3_p hg3
    have k5 := form_kd3 f3
    obtain ⟨⟨p, hp, ep⟩, -⟩ := good3_g hg3
    rw [ep, nI_clamp (by omega)] at h0 ⊢
    obtain ⟨hpq, hnq, K0', K1', on', S, l, S1, me', ⟨b1, b2⟩, b3, ⟨⟨b4, b4'⟩, b5, b6⟩, b7⟩ := ts_view h0
    rw [b3]
    have hBS : BOS S := by
      rcases b1 with b1 | ⟨b, o, -, rfl, -⟩
      · exact i3 _ S b1
      · exact BOS_start (Or.inr hkp.1)
    have hNS : V p → NSS V S := fun hvp => by
      rcases b1 with b1 | ⟨b, o, hb, rfl, -⟩
      · exact d1 p hvp S b1
      · have kpk := hk b _ hb
        refine GS_start (NS_as kpk (by rw [hid p hp]; rfl) ?_ ⟨p, hvp, Or.inl (hid p hp)⟩) (fun _ => trivial) trivial trivial
        have : KP q (pk_of K0 K1 b) := by cases b; exact i2; exact i2'
        rcases this with z | ⟨m, z⟩
        · have kpk : kd (pk_of K0 K1 b).1 = 1 := kpk
          rw [z] at kpk; exact absurd kpk (by decide)
        · exact ⟨q, hq, Or.inr ⟨m, z⟩⟩
    have hS1 : V p → NSS V (ss_nb S1) ∧ NS (core V) (pt A 0) := fun hvp => by
      obtain ⟨z1, z2, -⟩ := GS_key (R := TT1) (hcl_NS _) trivial (hNS hvp) b2
      exact ⟨GS_nb z1, z2⟩
    have hse : ∀ r, V r → ∀ S', S' ∈ fset se p (ss_nb S1 :: l) r → NSS V S' := fun r hr S' hS' => by
      by_cases c : r = p
      · subst c
        rw [fset_same] at hS'
        rcases List.mem_cons.mp hS' with z | z
        · rw [z]; exact (hS1 hr).1
        · exact d1 r hr S' (b6 S' z)
      · rw [fset_ne c] at hS'; exact d1 r hr S' hS'
    rcases b7 with ⟨-, -, z, -⟩ | ⟨-, g5, z⟩
    · rw [z]; exact ⟨hse, d2⟩
    · rw [z]
      obtain ⟨g, hg, eg⟩ := good5_g g5
      rw [eg, nI_clamp (by omega)]
      refine DVS_me (id := id) (K0 := K0) (K1 := K1) (on := on) (lnu := lnu) (⟨hse, d2⟩ : DVS V Z GF _ q (id, K0, K1, on, lnu, fset se p (ss_nb S1 :: l), me)) (fun hg4 => ?_)
      unfold mm_acc
      split
      · exact d2 g hg4
      · refine GVS_set (d2 g hg4) (fun hvp G0 hG0 => ?_)
        rcases List.mem_cons.mp hG0 with rfl | hG0
        · rcases ((Pub_5 k5).mp hA).2 with q1 | q1
          · exact Or.inl ⟨UC_pt (i := 0) hU q1 (good_kd7 g5) (by decide), trivial, fun e he => absurd he List.not_mem_nil⟩
          · rcases q1 with ⟨-, r, -, -, -, -, -, -, q1, -⟩ | ⟨-, s', d', g', c1, c2, c3, -, c4, c5, -, c6, c7'⟩ | ⟨r, c, -, -, -, -, q1, -⟩
            · exact absurd ((good_mk g5).symm.trans q1) (by decide)
            · right
              have e1 : s' = p := nI_cxl (by have := hV s' c1; omega) (by omega) (c4.symm.trans ep)
              have e2 : d' = q := nI_cxl (by have := hV d' c2; omega) (by have := hV q hq; omega) (c5.symm.trans hnq)
              have e3 : g' = g := nI_cxl (by omega) (by omega) (c6.symm.trans eg)
              subst e1 e2 e3
              rw [(BOS_key (Or.inr hkp.2.1) hBS b2).2] at c7'
              exact c7'
            · exact absurd ((good_mk hg3).symm.trans q1) (by decide)
        · exact (d2 g hg4).2.2 p hvp G0 (List.mem_of_mem_take hG0)
  · rw [if_neg f3] at h0 ⊢
    by_cases f6 : tm_form A = 6
    · rw [if_pos f6] at h0 ⊢
      obtain ⟨g, hg4, eg⟩ := good6_g (form_6 f6)
      by_cases c : tl_ok A q (nu (pt A 1) 0).toNatClampNeg (ids (nu (pt A 1) 0).toNatClampNeg) (me (nu (pt A 1) 0).toNatClampNeg)
      · rw [cif_t c]
        exact DVS_me hD0 (fun hg => GVS_adopt (d2 _ hg) (i4.1 _ hg).1.1)
      · rw [cif_f c] at h0; exact absurd (show (0 : Int32) ≤ -16 from h0) (by decide)
    · rw [if_neg f6] at h0 ⊢
      by_cases f7 : tm_form A = 7
      · rw [if_pos f7] at h0 ⊢
        dsimp only at h0 ⊢
        obtain ⟨-, -, k, G0, I, b1, -, b2, b3, -⟩ := tp_view h0
        rw [b3]
        refine DVS_me hD0 (fun hg => GVS_set (d2 _ hg) (fun hvp G1 hG1 => ?_))
        rcases mem_set hG1 with z | rfl
        · exact (d2 _ hg).2.2 _ hvp G1 z
        · rcases (d2 _ hg).2.2 _ hvp G0 (List.mem_of_getElem? b1) with z | z
          · exact Or.inl (GI_gkey (R := TT1) (UC_hcl hU) z b2).1
          · exact Or.inr z
      · rw [if_neg f7] at h0
        exact absurd (show (0 : Int32) ≤ -10 from h0) (by decide)
end SI
