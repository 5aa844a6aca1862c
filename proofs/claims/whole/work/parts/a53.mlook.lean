/-! The reference: lying, look, taken, draw -/
theorem st_half {A : Nat → Nat → Int32} {T : List Tm} {p : Nat} {S : ST} (h : qSt A T p S) : (∃ L lo hi, qHf A T (2 * p + 0) L lo hi ∧ st_l0 S = (L.take (8 * hi)).drop (8 * lo)) ∧ ∃ L lo hi, qHf A T (2 * p + 1) L lo hi ∧ st_l1 S = (L.take (8 * hi)).drop (8 * lo) := by
  obtain ⟨b, P, O, c, dn⟩ := S
  obtain ⟨-, h1, L, lo, hi, h2, h3, -⟩ := h
  have eP : P = (P.take (8 * bk P.length)).drop (8 * 0) := by
    rw [List.take_of_length_le (bk_ge P.length)]
    rfl
  cases b
  · exact ⟨⟨P, 0, bk P.length, h1, eP⟩, L, lo, hi, h2, h3⟩
  · exact ⟨⟨L, lo, hi, h2, h3⟩, P, 0, bk P.length, h1, eP⟩
theorem st_vis {S : ST} {L0 L1 : EN2} {lo0 hi0 lo1 hi1 : Nat} (e0 : st_l0 S = (L0.take (8 * hi0)).drop (8 * lo0)) (e1 : st_l1 S = (L1.take (8 * hi1)).drop (8 * lo1)) : ([] ++ nz (fl (vis lo0 hi0 0 L0))) ++ nz (fl (vis lo1 hi1 0 L1)) = st_terms S := by
  unfold st_terms
  rw [vis_eq, vis_eq, e0, e1]
  rfl
theorem st_tl {A : Nat → Nat → Int32} {T : List Tm} {p : Nat} {S : ST} (h : qSt A T p S) : (st_terms S).length ≤ 2144 := by
  obtain ⟨⟨L0, lo0, hi0, h0, e0⟩, L1, lo1, hi1, h1, e1⟩ := st_half h
  have b0 := h0.1.2.1
  have b1 := h1.1.2.1
  have z0 := nzfl_len (st_l0 S)
  have z1 := nzfl_len (st_l1 S)
  unfold st_terms
  rw [List.length_append]
  rw [e0] at z0 ⊢
  rw [e1] at z1 ⊢
  simp only [List.length_drop, List.length_take] at z0 z1
  omega
set_option maxRecDepth 100000 in
theorem m_lying0 {sc : tm_X} {d : Nat} {f : Nat → Int32} {A : Nat → Nat → Int32} {T : List Tm} {DL : List (Int32 × Int32)} {G Kw : Tm → Prop} {p : Nat} {S : ST} {Q : Int32 → MS → Prop} (hM : MT f A T DL G Kw) (hp : p < 6) (hst : qSt A T p S) (kk : Q (nI (st_terms S).length) (f, A)) : mGi sc (d + 1) 266 [.ref 1482, .int (nI p), .int 0] (f, A) Q := by
  obtain ⟨⟨L0, lo0, hi0, h0, e0⟩, L1, lo1, hi1, h1, e1⟩ := st_half hst
  have b0 := h0.1.2.1
  have b1 := h1.1.2.1
  have v0 := vis_len lo0 hi0 L0 0
  have z0 := nzfl_len (vis lo0 hi0 0 L0)
  have eT := st_vis e0 e1
  show mg sc (d + 1) 266 0 [(0, .ref 1482), (1, .int (nI p)), (2, .int 0)] [] (f, A) _
  generalize elv : ([(0, .ref 1482), (1, .int (nI p)), (2, .int 0)] : tm_L) = lv
  have l0 : lv.lookup 0 = some (.ref 1482) := by rw [← elv]; rfl
  have l1 : lv.lookup 1 = some (.int (nI p)) := by rw [← elv]; rfl
  have l2 : lv.lookup 2 = some (.int 0) := by rw [← elv]; rfl
  clear elv
  refine m_k1 (v := 0) (pc' := 1) cd_Mo_lying rfl (by decide) rfl ?_
  refine m_ist (pc' := 2) cd_Mo_lying rfl (Or.inr ⟨_, rfl, rfl, rfl⟩) (by decide) rfl (fun lv el => ?_)
  have l0 := tm_lk el l0 rfl (by decide)
  have l1 := tm_lk el l1 rfl (by decide)
  have l2 := tm_lk el l2 rfl (by decide)
  have l3 : lv.lookup 3 = some (.int 0) := tm_lks el
  clear el
  refine m_k1 (v := 0) (pc' := 3) cd_Mo_lying rfl (by decide) rfl ?_
  refine m_ist (pc' := 5) cd_Mo_lying rfl (Or.inl ⟨rfl, rfl⟩) (by decide) rfl (fun lv el => ?_)
  have l0 := tm_lk el l0 rfl (by decide)
  have l1 := tm_lk el l1 rfl (by decide)
  have l2 := tm_lk el l2 rfl (by decide)
  have l3 := tm_lk el l3 rfl (by decide)
  have l4 : lv.lookup 4 = some (.int 0) := tm_lks el
  clear el
  refine m_ild (pc' := 7) cd_Mo_lying rfl (Or.inl ⟨rfl, rfl⟩) l4 rfl ?_
  refine m_k1 (v := 2) (pc' := 8) cd_Mo_lying rfl (by decide) rfl ?_
  refine m_if2 (t := 133) (pc' := 11) cd_Mo_lying rfl rfl rfl (fun c8 => ?_) (fun c8 => ?_)
  · exact absurd (show (2 : Int32) ≤ 0 from c8) (by decide)
  · have c8 : ¬ (2 : Int32) ≤ 0 := c8
    refine m_k1 (v := 2) (pc' := 12) cd_Mo_lying rfl (by decide) rfl ?_
    refine m_ild (pc' := 13) cd_Mo_lying rfl (Or.inr ⟨_, rfl, rfl, rfl⟩) l1 rfl ?_
    refine m_pure (pc' := 14) (st' := [.int ((2 : Int32) * (nI p))]) cd_Mo_lying rfl rfl (fun _ _ => rfl) ?_
    refine m_eq (show ((2 : Int32) * (nI p) : Int32) = nI (2 * p) from pk_mul 2 p) ?_
    refine m_ild (pc' := 16) cd_Mo_lying rfl (Or.inl ⟨rfl, rfl⟩) l4 rfl ?_
    refine m_pure (pc' := 17) (st' := [.int ((nI (2 * p)) + 0)]) cd_Mo_lying rfl rfl (fun _ _ => rfl) ?_
    refine m_eq (show ((nI (2 * p)) + 0 : Int32) = nI ((2 * p) + 0) from nI_add (2 * p) 0) ?_
    refine m_ist (pc' := 19) cd_Mo_lying rfl (Or.inl ⟨rfl, rfl⟩) (by decide) rfl (fun lv el => ?_)
    have l0 := tm_lk el l0 rfl (by decide)
    have l1 := tm_lk el l1 rfl (by decide)
    have l2 := tm_lk el l2 rfl (by decide)
    have l3 := tm_lk el l3 rfl (by decide)
    have l4 := tm_lk el l4 rfl (by decide)
    have l5 : lv.lookup 5 = some (.int (nI ((2 * p) + 0))) := tm_lks el
    clear el
    refine m_k1 (v := 0) (pc' := 20) cd_Mo_lying rfl (by decide) rfl ?_
    refine m_ist (pc' := 22) cd_Mo_lying rfl (Or.inl ⟨rfl, rfl⟩) (by decide) rfl (fun lv el => ?_)
    have l0 := tm_lk el l0 rfl (by decide)
    have l1 := tm_lk el l1 rfl (by decide)
    have l2 := tm_lk el l2 rfl (by decide)
    have l3 := tm_lk el l3 rfl (by decide)
    have l4 := tm_lk el l4 rfl (by decide)
    have l5 := tm_lk el l5 rfl (by decide)
    have l6 : lv.lookup 6 = some (.int 0) := tm_lks el
    clear el
    refine l_lyR0 (f0 := f) (A0 := A) (h := 0) (x4 := 0) hM hp (by decide) h0 L0 0 [] rfl (by decide) (by simp only [List.length_nil]; omega) (fun f8 A8 lv ef9 eA9 l0 l1 l2 l3 l4 l5 => ?_) f A lv rfl rfl l0 l1 l2 l3 l4 l5 l6
    subst ef9
    subst eA9
    refine m_inc (y := 1) (pc' := 130) cd_Mo_lying rfl l4 (by decide) (by decide) rfl (fun lv el => ?_)
    have l0 := tm_lk el l0 rfl (by decide)
    have l1 := tm_lk el l1 rfl (by decide)
    have l2 := tm_lk el l2 rfl (by decide)
    have l3 := tm_lk el l3 rfl (by decide)
    have l5 := tm_lk el l5 rfl (by decide)
    have l4 : lv.lookup 4 = some (.int 1) := tm_lks el
    clear el
    refine m_pure (pc' := 5) (st' := []) cd_Mo_lying rfl rfl (fun _ _ => rfl) ?_
    refine m_ild (pc' := 7) cd_Mo_lying rfl (Or.inl ⟨rfl, rfl⟩) l4 rfl ?_
    refine m_k1 (v := 2) (pc' := 8) cd_Mo_lying rfl (by decide) rfl ?_
    refine m_if2 (t := 133) (pc' := 11) cd_Mo_lying rfl rfl rfl (fun c8 => ?_) (fun c8 => ?_)
    · exact absurd (show (2 : Int32) ≤ 1 from c8) (by decide)
    · have c8 : ¬ (2 : Int32) ≤ 1 := c8
      refine m_k1 (v := 2) (pc' := 12) cd_Mo_lying rfl (by decide) rfl ?_
      refine m_ild (pc' := 13) cd_Mo_lying rfl (Or.inr ⟨_, rfl, rfl, rfl⟩) l1 rfl ?_
      refine m_pure (pc' := 14) (st' := [.int ((2 : Int32) * (nI p))]) cd_Mo_lying rfl rfl (fun _ _ => rfl) ?_
      refine m_eq (show ((2 : Int32) * (nI p) : Int32) = nI (2 * p) from pk_mul 2 p) ?_
      refine m_ild (pc' := 16) cd_Mo_lying rfl (Or.inl ⟨rfl, rfl⟩) l4 rfl ?_
      refine m_pure (pc' := 17) (st' := [.int ((nI (2 * p)) + 1)]) cd_Mo_lying rfl rfl (fun _ _ => rfl) ?_
      refine m_eq (show ((nI (2 * p)) + 1 : Int32) = nI ((2 * p) + 1) from nI_add (2 * p) 1) ?_
      refine m_ist (pc' := 19) cd_Mo_lying rfl (Or.inl ⟨rfl, rfl⟩) (by decide) rfl (fun lv el => ?_)
      have l0 := tm_lk el l0 rfl (by decide)
      have l1 := tm_lk el l1 rfl (by decide)
      have l2 := tm_lk el l2 rfl (by decide)
      have l3 := tm_lk el l3 rfl (by decide)
      have l4 := tm_lk el l4 rfl (by decide)
      have l5 : lv.lookup 5 = some (.int (nI ((2 * p) + 1))) := tm_lks el
      clear el
      refine m_k1 (v := 0) (pc' := 20) cd_Mo_lying rfl (by decide) rfl ?_
      refine m_ist (pc' := 22) cd_Mo_lying rfl (Or.inl ⟨rfl, rfl⟩) (by decide) rfl (fun lv el => ?_)
      have l0 := tm_lk el l0 rfl (by decide)
      have l1 := tm_lk el l1 rfl (by decide)
      have l2 := tm_lk el l2 rfl (by decide)
      have l3 := tm_lk el l3 rfl (by decide)
      have l4 := tm_lk el l4 rfl (by decide)
      have l5 := tm_lk el l5 rfl (by decide)
      have l6 : lv.lookup 6 = some (.int 0) := tm_lks el
      clear el
      refine l_lyR0 (f0 := f8) (A0 := A8) (h := 1) (x4 := 1) hM hp (by decide) h1 L1 0 ([] ++ nz (fl (vis lo0 hi0 0 L0))) rfl (by decide) (by simp only [List.nil_append]; omega) (fun f7 A7 lv ef7 eA7 l0 l1 l2 l3 l4 l5 => ?_) f8 A8 lv rfl rfl l0 l1 l2 l3 l4 l5 l6
      subst ef7
      subst eA7
      rw [eT] at l3
      refine m_inc (y := 2) (pc' := 130) cd_Mo_lying rfl l4 (by decide) (by decide) rfl (fun lv el => ?_)
      have l0 := tm_lk el l0 rfl (by decide)
      have l1 := tm_lk el l1 rfl (by decide)
      have l2 := tm_lk el l2 rfl (by decide)
      have l3 := tm_lk el l3 rfl (by decide)
      have l5 := tm_lk el l5 rfl (by decide)
      have l4 : lv.lookup 4 = some (.int 2) := tm_lks el
      clear el
      refine m_pure (pc' := 5) (st' := []) cd_Mo_lying rfl rfl (fun _ _ => rfl) ?_
      refine m_ild (pc' := 7) cd_Mo_lying rfl (Or.inl ⟨rfl, rfl⟩) l4 rfl ?_
      refine m_k1 (v := 2) (pc' := 8) cd_Mo_lying rfl (by decide) rfl ?_
      refine m_if2 (t := 133) (pc' := 11) cd_Mo_lying rfl rfl rfl (fun c8 => ?_) (fun c8 => ?_)
      · have c8 : (2 : Int32) ≤ 2 := c8
        refine m_ild (pc' := 134) cd_Mo_lying rfl (Or.inr ⟨_, rfl, rfl, rfl⟩) l3 rfl ?_
        exact m_reti cd_Mo_lying rfl ⟨_, rfl, kk⟩
      · exact absurd (show ¬ (2 : Int32) ≤ 2 from c8) (by decide)
set_option maxRecDepth 100000 in
theorem m_lying1 {sc : tm_X} {d : Nat} {f : Nat → Int32} {A : Nat → Nat → Int32} {T : List Tm} {DL : List (Int32 × Int32)} {G Kw : Tm → Prop} {p : Nat} {S : ST} {Q : Int32 → MS → Prop} (hM : MT f A T DL G Kw) (hp : p < 6) (hst : qSt A T p S) (kk : ∀ f1 A1, MT f1 A1 T DL (fun y => G y ∨ y ∈ st_terms S) Kw → FLg (A1 46) T (st_terms S) 0 → (f1 16 = 1 ∨ (f1 16 = f 16 ∧ ∀ y, y ∈ st_terms S → G y)) → (∀ k, k ≠ 16 → f1 k = f k) → (∀ j, j ≠ 5 → j ≠ 46 → A1 j = A j) → Q (nI (st_terms S).length) (f1, A1)) : mGi sc (d + 1) 266 [.ref 1482, .int (nI p), .int 1] (f, A) Q := by
  obtain ⟨⟨L0, lo0, hi0, h0, e0⟩, L1, lo1, hi1, h1, e1⟩ := st_half hst
  have b0 := h0.1.2.1
  have b1 := h1.1.2.1
  have v0 := vis_len lo0 hi0 L0 0
  have z0 := nzfl_len (vis lo0 hi0 0 L0)
  have eT := st_vis e0 e1
  show mg sc (d + 1) 266 0 [(0, .ref 1482), (1, .int (nI p)), (2, .int 1)] [] (f, A) _
  generalize elv : ([(0, .ref 1482), (1, .int (nI p)), (2, .int 1)] : tm_L) = lv
  have l0 : lv.lookup 0 = some (.ref 1482) := by rw [← elv]; rfl
  have l1 : lv.lookup 1 = some (.int (nI p)) := by rw [← elv]; rfl
  have l2 : lv.lookup 2 = some (.int 1) := by rw [← elv]; rfl
  clear elv
  refine m_k1 (v := 0) (pc' := 1) cd_Mo_lying rfl (by decide) rfl ?_
  refine m_ist (pc' := 2) cd_Mo_lying rfl (Or.inr ⟨_, rfl, rfl, rfl⟩) (by decide) rfl (fun lv el => ?_)
  have l0 := tm_lk el l0 rfl (by decide)
  have l1 := tm_lk el l1 rfl (by decide)
  have l2 := tm_lk el l2 rfl (by decide)
  have l3 : lv.lookup 3 = some (.int 0) := tm_lks el
  clear el
  refine m_k1 (v := 0) (pc' := 3) cd_Mo_lying rfl (by decide) rfl ?_
  refine m_ist (pc' := 5) cd_Mo_lying rfl (Or.inl ⟨rfl, rfl⟩) (by decide) rfl (fun lv el => ?_)
  have l0 := tm_lk el l0 rfl (by decide)
  have l1 := tm_lk el l1 rfl (by decide)
  have l2 := tm_lk el l2 rfl (by decide)
  have l3 := tm_lk el l3 rfl (by decide)
  have l4 : lv.lookup 4 = some (.int 0) := tm_lks el
  clear el
  refine m_ild (pc' := 7) cd_Mo_lying rfl (Or.inl ⟨rfl, rfl⟩) l4 rfl ?_
  refine m_k1 (v := 2) (pc' := 8) cd_Mo_lying rfl (by decide) rfl ?_
  refine m_if2 (t := 133) (pc' := 11) cd_Mo_lying rfl rfl rfl (fun c8 => ?_) (fun c8 => ?_)
  · exact absurd (show (2 : Int32) ≤ 0 from c8) (by decide)
  · have c8 : ¬ (2 : Int32) ≤ 0 := c8
    refine m_k1 (v := 2) (pc' := 12) cd_Mo_lying rfl (by decide) rfl ?_
    refine m_ild (pc' := 13) cd_Mo_lying rfl (Or.inr ⟨_, rfl, rfl, rfl⟩) l1 rfl ?_
    refine m_pure (pc' := 14) (st' := [.int ((2 : Int32) * (nI p))]) cd_Mo_lying rfl rfl (fun _ _ => rfl) ?_
    refine m_eq (show ((2 : Int32) * (nI p) : Int32) = nI (2 * p) from pk_mul 2 p) ?_
    refine m_ild (pc' := 16) cd_Mo_lying rfl (Or.inl ⟨rfl, rfl⟩) l4 rfl ?_
    refine m_pure (pc' := 17) (st' := [.int ((nI (2 * p)) + 0)]) cd_Mo_lying rfl rfl (fun _ _ => rfl) ?_
    refine m_eq (show ((nI (2 * p)) + 0 : Int32) = nI ((2 * p) + 0) from nI_add (2 * p) 0) ?_
    refine m_ist (pc' := 19) cd_Mo_lying rfl (Or.inl ⟨rfl, rfl⟩) (by decide) rfl (fun lv el => ?_)
    have l0 := tm_lk el l0 rfl (by decide)
    have l1 := tm_lk el l1 rfl (by decide)
    have l2 := tm_lk el l2 rfl (by decide)
    have l3 := tm_lk el l3 rfl (by decide)
    have l4 := tm_lk el l4 rfl (by decide)
    have l5 : lv.lookup 5 = some (.int (nI ((2 * p) + 0))) := tm_lks el
    clear el
    refine m_k1 (v := 0) (pc' := 20) cd_Mo_lying rfl (by decide) rfl ?_
    refine m_ist (pc' := 22) cd_Mo_lying rfl (Or.inl ⟨rfl, rfl⟩) (by decide) rfl (fun lv el => ?_)
    have l0 := tm_lk el l0 rfl (by decide)
    have l1 := tm_lk el l1 rfl (by decide)
    have l2 := tm_lk el l2 rfl (by decide)
    have l3 := tm_lk el l3 rfl (by decide)
    have l4 := tm_lk el l4 rfl (by decide)
    have l5 := tm_lk el l5 rfl (by decide)
    have l6 : lv.lookup 6 = some (.int 0) := tm_lks el
    clear el
    refine l_lyR1 (f0 := f) (A0 := A) (h := 0) (x4 := 0) hM hp (by decide) h0 L0 0 [] rfl (by decide) (by simp only [List.length_nil]; omega) (fun f8 A8 lv hM9 hF9 hg9 ef9 eA9 l0 l1 l2 l3 l4 l5 => ?_) f A lv (MT_G hM (fun y => ⟨Or.inl, fun q => q.elim (fun z => z) (fun q => absurd q List.not_mem_nil)⟩) (fun _ => Iff.rfl)) (fun j X q => by simp at q) (Or.inr ⟨rfl, fun y q => absurd q List.not_mem_nil⟩) (fun _ _ => rfl) (fun _ _ _ => rfl) l0 l1 l2 l3 l4 l5 l6
    refine m_inc (y := 1) (pc' := 130) cd_Mo_lying rfl l4 (by decide) (by decide) rfl (fun lv el => ?_)
    have l0 := tm_lk el l0 rfl (by decide)
    have l1 := tm_lk el l1 rfl (by decide)
    have l2 := tm_lk el l2 rfl (by decide)
    have l3 := tm_lk el l3 rfl (by decide)
    have l5 := tm_lk el l5 rfl (by decide)
    have l4 : lv.lookup 4 = some (.int 1) := tm_lks el
    clear el
    refine m_pure (pc' := 5) (st' := []) cd_Mo_lying rfl rfl (fun _ _ => rfl) ?_
    refine m_ild (pc' := 7) cd_Mo_lying rfl (Or.inl ⟨rfl, rfl⟩) l4 rfl ?_
    refine m_k1 (v := 2) (pc' := 8) cd_Mo_lying rfl (by decide) rfl ?_
    refine m_if2 (t := 133) (pc' := 11) cd_Mo_lying rfl rfl rfl (fun c8 => ?_) (fun c8 => ?_)
    · exact absurd (show (2 : Int32) ≤ 1 from c8) (by decide)
    · have c8 : ¬ (2 : Int32) ≤ 1 := c8
      refine m_k1 (v := 2) (pc' := 12) cd_Mo_lying rfl (by decide) rfl ?_
      refine m_ild (pc' := 13) cd_Mo_lying rfl (Or.inr ⟨_, rfl, rfl, rfl⟩) l1 rfl ?_
      refine m_pure (pc' := 14) (st' := [.int ((2 : Int32) * (nI p))]) cd_Mo_lying rfl rfl (fun _ _ => rfl) ?_
      refine m_eq (show ((2 : Int32) * (nI p) : Int32) = nI (2 * p) from pk_mul 2 p) ?_
      refine m_ild (pc' := 16) cd_Mo_lying rfl (Or.inl ⟨rfl, rfl⟩) l4 rfl ?_
      refine m_pure (pc' := 17) (st' := [.int ((nI (2 * p)) + 1)]) cd_Mo_lying rfl rfl (fun _ _ => rfl) ?_
      refine m_eq (show ((nI (2 * p)) + 1 : Int32) = nI ((2 * p) + 1) from nI_add (2 * p) 1) ?_
      refine m_ist (pc' := 19) cd_Mo_lying rfl (Or.inl ⟨rfl, rfl⟩) (by decide) rfl (fun lv el => ?_)
      have l0 := tm_lk el l0 rfl (by decide)
      have l1 := tm_lk el l1 rfl (by decide)
      have l2 := tm_lk el l2 rfl (by decide)
      have l3 := tm_lk el l3 rfl (by decide)
      have l4 := tm_lk el l4 rfl (by decide)
      have l5 : lv.lookup 5 = some (.int (nI ((2 * p) + 1))) := tm_lks el
      clear el
      refine m_k1 (v := 0) (pc' := 20) cd_Mo_lying rfl (by decide) rfl ?_
      refine m_ist (pc' := 22) cd_Mo_lying rfl (Or.inl ⟨rfl, rfl⟩) (by decide) rfl (fun lv el => ?_)
      have l0 := tm_lk el l0 rfl (by decide)
      have l1 := tm_lk el l1 rfl (by decide)
      have l2 := tm_lk el l2 rfl (by decide)
      have l3 := tm_lk el l3 rfl (by decide)
      have l4 := tm_lk el l4 rfl (by decide)
      have l5 := tm_lk el l5 rfl (by decide)
      have l6 : lv.lookup 6 = some (.int 0) := tm_lks el
      clear el
      refine l_lyR1 (f0 := f) (A0 := A) (h := 1) (x4 := 1) hM hp (by decide) h1 L1 0 ([] ++ nz (fl (vis lo0 hi0 0 L0))) rfl (by decide) (by simp only [List.nil_append]; omega) (fun f7 A7 lv hM7 hF7 hg7 ef7 eA7 l0 l1 l2 l3 l4 l5 => ?_) f8 A8 lv hM9 hF9 hg9 ef9 eA9 l0 l1 l2 l3 l4 l5 l6
      rw [eT] at hM7 hF7 hg7 l3
      refine m_inc (y := 2) (pc' := 130) cd_Mo_lying rfl l4 (by decide) (by decide) rfl (fun lv el => ?_)
      have l0 := tm_lk el l0 rfl (by decide)
      have l1 := tm_lk el l1 rfl (by decide)
      have l2 := tm_lk el l2 rfl (by decide)
      have l3 := tm_lk el l3 rfl (by decide)
      have l5 := tm_lk el l5 rfl (by decide)
      have l4 : lv.lookup 4 = some (.int 2) := tm_lks el
      clear el
      refine m_pure (pc' := 5) (st' := []) cd_Mo_lying rfl rfl (fun _ _ => rfl) ?_
      refine m_ild (pc' := 7) cd_Mo_lying rfl (Or.inl ⟨rfl, rfl⟩) l4 rfl ?_
      refine m_k1 (v := 2) (pc' := 8) cd_Mo_lying rfl (by decide) rfl ?_
      refine m_if2 (t := 133) (pc' := 11) cd_Mo_lying rfl rfl rfl (fun c8 => ?_) (fun c8 => ?_)
      · have c8 : (2 : Int32) ≤ 2 := c8
        refine m_ild (pc' := 134) cd_Mo_lying rfl (Or.inr ⟨_, rfl, rfl, rfl⟩) l3 rfl ?_
        exact m_reti cd_Mo_lying rfl ⟨_, rfl, (kk f7 A7 hM7 hF7 hg7 ef7 eA7)⟩
      · exact absurd (show ¬ (2 : Int32) ≤ 2 from c8) (by decide)
set_option maxRecDepth 100000 in
theorem mo_look {sc : tm_X} {d : Nat} {f : Nat → Int32} {A : Nat → Nat → Int32} {T : List Tm} {DL : List (Int32 × Int32)} {G Kw : Tm → Prop} {dev : Nat → DV} {sto : Nat → ST} {ws : List (Tm × Int32)} {dir reg : Nat → Tm} {seen : List Tm} {ls : List RL} {lo dt db rt fl_ ll tl tf tg tm : Nat → Int32} {ck fo du : Int32} {p : Nat} {Q : Int32 → MS → Prop} (hM : MT f A T DL G Kw) (hS : RS f A T DL dev sto ws dir reg seen ls lo (dt, db, rt, fl_, ll, tl, tf, tg, tm, ck, fo, du)) (hp : p < 6) (kk : ∀ f1 A1, MT f1 A1 T DL (fun y => G y ∨ y ∈ st_terms (sto p)) Kw → (f1 16 = 1 ∨ (f1 16 = f 16 ∧ ∀ y, y ∈ st_terms (sto p) → G y)) → RS f1 A1 T DL dev sto ws dir reg (st_terms (sto p)) ls lo (dt, db, rt, (if fl_ p = 2147483647 then upd fl_ p (ck + 1) else fl_), upd ll p (ck + 1), tl, tf, tg, tm, ck + 1, fo, du) → Q (nI (st_terms (sto p)).length) (f1, A1)) : mGi sc (d + 2) 265 [.ref 1482, .int (nI p)] (f, A) Q := by
  have hst := hS.1.2.2 p hp
  have h21 := hS.2.2.2.1.2.1
  have h24 := hS.2.2.2.2.2.1.1
  have h25 := hS.2.2.2.2.2.1.2
  show mg sc (d + 2) 265 0 [(0, .ref 1482), (1, .int (nI p))] [] (f, A) _
  generalize elv : ([(0, .ref 1482), (1, .int (nI p))] : tm_L) = lv
  have l0 : lv.lookup 0 = some (.ref 1482) := by rw [← elv]; rfl
  have l1 : lv.lookup 1 = some (.int (nI p)) := by rw [← elv]; rfl
  clear elv
  refine m_ild (pc' := 1) cd_Mo_look rfl (Or.inr ⟨_, rfl, rfl, rfl⟩) l1 rfl ?_
  refine m_si (pc' := 4) cd_Mo_look rfl rfl rfl rfl rfl cd_Mo_isDevice rfl (Nat.le_of_ble_eq_true rfl) (m_isDev1 hp ?_)
  show mg _ _ _ 4 _ [.int 1] _ _
  refine m_if1 (t := 9) (pc' := 7) cd_Mo_look rfl rfl rfl (fun c4 => ?_) (fun c4 => ?_)
  · have c4 : ¬ (1 : Int32) = 0 := c4
    refine m_ald (pc' := 10) cd_Mo_look rfl (Or.inr ⟨_, rfl, rfl, rfl⟩) l0 rfl rfl ?_
    refine m_pure (pc' := 11) (st' := [.ref 1482, .ref 1482]) cd_Mo_look rfl rfl (fun _ _ => rfl) ?_
    refine m_fI (k := 21) (x := ck) (pc' := 14) cd_Mo_look rfl rfl rfl rfl rfl h21 ?_
    refine m_k1 (v := 1) (pc' := 15) cd_Mo_look rfl (by decide) rfl ?_
    refine m_pure (pc' := 16) (st' := [.int (ck + 1), .ref 1482]) cd_Mo_look rfl rfl (fun _ _ => rfl) ?_
    refine m_pI (k := 21) (pc' := 19) cd_Mo_look rfl rfl rfl rfl (by simp [tm_okV, narrow, fits]) rfl rfl ?_
    refine m_ald (pc' := 20) cd_Mo_look rfl (Or.inr ⟨_, rfl, rfl, rfl⟩) l0 rfl rfl ?_
    refine m_fR (r := 23) (a := 24) (ad := 1506) (pc' := 23) rfl rfl cd_Mo_look rfl rfl rfl rfl rfl ?_
    refine m_ild (pc' := 24) cd_Mo_look rfl (Or.inr ⟨_, rfl, rfl, rfl⟩) l1 rfl ?_
    refine m_aI (r := 23) (a := 24) (g := (A 24)) (x := (fl_ p)) (pc' := 25) rfl rfl cd_Mo_look rfl rfl rfl (vp_in_nI (by omega) (by decide)) ((congrArg (A 24) (nI_clamp (by omega))).trans (congrFun h24 _)) ?_
    refine m_ldcw (pc' := 28) cd_Mo_look rfl rfl rfl ?_
    refine m_if2 (t := 41) (pc' := 31) cd_Mo_look rfl rfl rfl (fun c28 => ?_) (fun c28 => ?_)
    · have c28 : ¬ (fl_ p) = 2147483647 := c28
      refine m_ald (pc' := 42) cd_Mo_look rfl (Or.inr ⟨_, rfl, rfl, rfl⟩) l0 rfl rfl ?_
      refine m_fR (r := 24) (a := 25) (ad := 1507) (pc' := 45) rfl rfl cd_Mo_look rfl rfl rfl rfl rfl ?_
      refine m_ild (pc' := 46) cd_Mo_look rfl (Or.inr ⟨_, rfl, rfl, rfl⟩) l1 rfl ?_
      refine m_ald (pc' := 47) cd_Mo_look rfl (Or.inr ⟨_, rfl, rfl, rfl⟩) l0 rfl rfl ?_
      refine m_fI (k := 21) (x := (ck + 1)) (pc' := 50) cd_Mo_look rfl rfl rfl rfl rfl rfl ?_
      refine m_aS (r := 24) (a := 25) (g := (A 25)) (p := p) (pc' := 51) rfl rfl cd_Mo_look rfl rfl rfl (vp_in_nI (by omega) (by decide)) (nI_clamp (by omega)) ?_
      refine m_ald (pc' := 52) cd_Mo_look rfl (Or.inr ⟨_, rfl, rfl, rfl⟩) l0 rfl rfl ?_
      refine m_ald (pc' := 53) cd_Mo_look rfl (Or.inr ⟨_, rfl, rfl, rfl⟩) l0 rfl rfl ?_
      refine m_ild (pc' := 54) cd_Mo_look rfl (Or.inr ⟨_, rfl, rfl, rfl⟩) l1 rfl ?_
      refine m_k1 (v := 1) (pc' := 55) cd_Mo_look rfl (by decide) rfl ?_
      refine m_ci (pc' := 58) cd_Mo_look rfl rfl rfl rfl rfl cd_Mo_lying rfl (Nat.le_of_ble_eq_true rfl) (m_lying1 (S := sto p) (by exact MT_i hM rfl rfl rfl rfl rfl rfl rfl rfl rfl rfl) hp (qSt_c (List.prefix_refl T) rfl rfl rfl (fun _ _ => rfl) (fun _ _ _ _ => rfl) (fun _ _ _ _ => rfl) hst) (fun f1 A1 hM1 hF1 hg1 ef1 eA1 => ?_))
      show mg _ _ _ 58 _ [.int (nI (st_terms (sto p)).length), .ref 1482] _ _
      refine m_pI (k := 63) (pc' := 61) cd_Mo_look rfl rfl rfl rfl (by simp [tm_okV, narrow, fits]) rfl rfl ?_
      refine m_ald (pc' := 62) cd_Mo_look rfl (Or.inr ⟨_, rfl, rfl, rfl⟩) l0 rfl rfl ?_
      refine m_fI (k := 63) (x := (nI (st_terms (sto p)).length)) (pc' := 65) cd_Mo_look rfl rfl rfl rfl rfl rfl ?_
      have hlen : (st_terms (sto p)).length ≤ 2144 := st_tl hst
      have hR : RS (fset f1 63 (nI (st_terms (sto p)).length)) A1 T DL dev sto ws dir reg (st_terms (sto p)) ls lo (dt, db, rt, (if fl_ p = 2147483647 then upd fl_ p (ck + 1) else fl_), upd ll p (ck + 1), tl, tf, tg, tm, ck + 1, fo, du) := by
        have F : ∀ k, k ≠ 16 → k ≠ 63 → k ≠ 21 → (fset f1 63 (nI (st_terms (sto p)).length)) k = f k := fun k k1 k2 k3 => (fset_ne k2).trans ((ef1 k k1).trans (fset_ne k3))
        have E : ∀ j, j ≠ 5 → j ≠ 46 → j ≠ 24 → j ≠ 25 → A1 j = A j := fun j j1 j2 j3 j4 => (eA1 j j1 j2).trans ((fset_ne j4))
        obtain ⟨⟨q1, q2, q3⟩, ⟨q4, q5, q6, q7, q8, q9⟩, ⟨q10, q12⟩, ⟨q13, q14, q15, q16⟩, ⟨q17, q17b, q17c⟩, ⟨q18, q19⟩, q20, q21, q22, q23⟩ := hS
        have d4 : ∀ j, j ≠ 5 → j ≠ 46 → j ≠ 24 → j ≠ 25 → A1 j = A j := E
        refine ⟨⟨fun p hp => by rw [E 16 (by decide) (by decide) (by decide) (by decide)]; exact q1 p hp, fun p hp => by rw [E 14 (by decide) (by decide) (by decide) (by decide)]; exact q2 p hp, fun p hp => qSt_c (List.prefix_refl T) (by rw [E 21 (by decide) (by decide) (by decide) (by decide)]) (by rw [E 22 (by decide) (by decide) (by decide) (by decide)]) (by rw [E 23 (by decide) (by decide) (by decide) (by decide)]) (fun _ _ => by rw [E 20 (by decide) (by decide) (by decide) (by decide)]) (fun _ _ _ _ => by rw [E 19 (by decide) (by decide) (by decide) (by decide)]) (fun _ _ _ _ => by rw [E 18 (by decide) (by decide) (by decide) (by decide)]) (q3 p hp)⟩, ⟨qWi_m (List.prefix_refl T) (F 40 (by decide) (by decide) (by decide)) (E 28 (by decide) (by decide) (by decide) (by decide)) (E 29 (by decide) (by decide) (by decide) (by decide)) q4, fun i hi => by rw [E 17 (by decide) (by decide) (by decide) (by decide)]; exact q5 i hi, fun i hi => by rw [E 45 (by decide) (by decide) (by decide) (by decide)]; exact q6 i hi, fset_same _ _ _, by omega, fun i X hX => by have := hF1 i X hX; rw [Nat.zero_add] at this; exact this⟩, ⟨qLs_m (List.prefix_refl T) (F 43 (by decide) (by decide) (by decide)) (fun j j1 j2 => E j (by omega) (by omega) (by omega) (by omega)) q10, (E 13 (by decide) (by decide) (by decide) (by decide)).trans q12⟩, ⟨(F 11 (by decide) (by decide) (by decide)).trans q13, (fset_ne (by decide)).trans ((ef1 21 (by decide)).trans (fset_same _ _ _)), (F 53 (by decide) (by decide) (by decide)).trans q15, (F 54 (by decide) (by decide) (by decide)).trans q16⟩, ⟨(E 10 (by decide) (by decide) (by decide) (by decide)).trans q17, (E 11 (by decide) (by decide) (by decide) (by decide)).trans q17b, (E 12 (by decide) (by decide) (by decide) (by decide)).trans q17c⟩, ⟨?_, ?_⟩, (E 39 (by decide) (by decide) (by decide) (by decide)).trans q20, (E 40 (by decide) (by decide) (by decide) (by decide)).trans q21, (E 41 (by decide) (by decide) (by decide) (by decide)).trans q22, (E 42 (by decide) (by decide) (by decide) (by decide)).trans q23⟩
        · rw [eA1 24 (by decide) (by decide), if_neg c28]
          show A 24 = _
          rw [q18]
        · rw [eA1 25 (by decide) (by decide)]
          show upd (A 25) p (ck + 1) = _
          rw [q19]
      exact m_reti cd_Mo_look rfl ⟨_, rfl, (kk _ _ (by exact MT_i hM1 rfl rfl rfl rfl rfl rfl rfl rfl rfl rfl) (by exact hg1) hR)⟩
    · have c28 : (fl_ p) = 2147483647 := Classical.not_not.mp c28
      refine m_ald (pc' := 32) cd_Mo_look rfl (Or.inr ⟨_, rfl, rfl, rfl⟩) l0 rfl rfl ?_
      refine m_fR (r := 23) (a := 24) (ad := 1506) (pc' := 35) rfl rfl cd_Mo_look rfl rfl rfl rfl rfl ?_
      refine m_ild (pc' := 36) cd_Mo_look rfl (Or.inr ⟨_, rfl, rfl, rfl⟩) l1 rfl ?_
      refine m_ald (pc' := 37) cd_Mo_look rfl (Or.inr ⟨_, rfl, rfl, rfl⟩) l0 rfl rfl ?_
      refine m_fI (k := 21) (x := (ck + 1)) (pc' := 40) cd_Mo_look rfl rfl rfl rfl rfl rfl ?_
      refine m_aS (r := 23) (a := 24) (g := (A 24)) (p := p) (pc' := 41) rfl rfl cd_Mo_look rfl rfl rfl (vp_in_nI (by omega) (by decide)) (nI_clamp (by omega)) ?_
      refine m_ald (pc' := 42) cd_Mo_look rfl (Or.inr ⟨_, rfl, rfl, rfl⟩) l0 rfl rfl ?_
      refine m_fR (r := 24) (a := 25) (ad := 1507) (pc' := 45) rfl rfl cd_Mo_look rfl rfl rfl rfl rfl ?_
      refine m_ild (pc' := 46) cd_Mo_look rfl (Or.inr ⟨_, rfl, rfl, rfl⟩) l1 rfl ?_
      refine m_ald (pc' := 47) cd_Mo_look rfl (Or.inr ⟨_, rfl, rfl, rfl⟩) l0 rfl rfl ?_
      refine m_fI (k := 21) (x := (ck + 1)) (pc' := 50) cd_Mo_look rfl rfl rfl rfl rfl rfl ?_
      refine m_aS (r := 24) (a := 25) (g := (A 25)) (p := p) (pc' := 51) rfl rfl cd_Mo_look rfl rfl rfl (vp_in_nI (by omega) (by decide)) (nI_clamp (by omega)) ?_
      refine m_ald (pc' := 52) cd_Mo_look rfl (Or.inr ⟨_, rfl, rfl, rfl⟩) l0 rfl rfl ?_
      refine m_ald (pc' := 53) cd_Mo_look rfl (Or.inr ⟨_, rfl, rfl, rfl⟩) l0 rfl rfl ?_
      refine m_ild (pc' := 54) cd_Mo_look rfl (Or.inr ⟨_, rfl, rfl, rfl⟩) l1 rfl ?_
      refine m_k1 (v := 1) (pc' := 55) cd_Mo_look rfl (by decide) rfl ?_
      refine m_ci (pc' := 58) cd_Mo_look rfl rfl rfl rfl rfl cd_Mo_lying rfl (Nat.le_of_ble_eq_true rfl) (m_lying1 (S := sto p) (by exact MT_i hM rfl rfl rfl rfl rfl rfl rfl rfl rfl rfl) hp (qSt_c (List.prefix_refl T) rfl rfl rfl (fun _ _ => rfl) (fun _ _ _ _ => rfl) (fun _ _ _ _ => rfl) hst) (fun f1 A1 hM1 hF1 hg1 ef1 eA1 => ?_))
      show mg _ _ _ 58 _ [.int (nI (st_terms (sto p)).length), .ref 1482] _ _
      refine m_pI (k := 63) (pc' := 61) cd_Mo_look rfl rfl rfl rfl (by simp [tm_okV, narrow, fits]) rfl rfl ?_
      refine m_ald (pc' := 62) cd_Mo_look rfl (Or.inr ⟨_, rfl, rfl, rfl⟩) l0 rfl rfl ?_
      refine m_fI (k := 63) (x := (nI (st_terms (sto p)).length)) (pc' := 65) cd_Mo_look rfl rfl rfl rfl rfl rfl ?_
      have hlen : (st_terms (sto p)).length ≤ 2144 := st_tl hst
      have hR : RS (fset f1 63 (nI (st_terms (sto p)).length)) A1 T DL dev sto ws dir reg (st_terms (sto p)) ls lo (dt, db, rt, (if fl_ p = 2147483647 then upd fl_ p (ck + 1) else fl_), upd ll p (ck + 1), tl, tf, tg, tm, ck + 1, fo, du) := by
        have F : ∀ k, k ≠ 16 → k ≠ 63 → k ≠ 21 → (fset f1 63 (nI (st_terms (sto p)).length)) k = f k := fun k k1 k2 k3 => (fset_ne k2).trans ((ef1 k k1).trans (fset_ne k3))
        have E : ∀ j, j ≠ 5 → j ≠ 46 → j ≠ 24 → j ≠ 25 → A1 j = A j := fun j j1 j2 j3 j4 => (eA1 j j1 j2).trans ((fset_ne j4).trans (fset_ne j3))
        obtain ⟨⟨q1, q2, q3⟩, ⟨q4, q5, q6, q7, q8, q9⟩, ⟨q10, q12⟩, ⟨q13, q14, q15, q16⟩, ⟨q17, q17b, q17c⟩, ⟨q18, q19⟩, q20, q21, q22, q23⟩ := hS
        have d4 : ∀ j, j ≠ 5 → j ≠ 46 → j ≠ 24 → j ≠ 25 → A1 j = A j := E
        refine ⟨⟨fun p hp => by rw [E 16 (by decide) (by decide) (by decide) (by decide)]; exact q1 p hp, fun p hp => by rw [E 14 (by decide) (by decide) (by decide) (by decide)]; exact q2 p hp, fun p hp => qSt_c (List.prefix_refl T) (by rw [E 21 (by decide) (by decide) (by decide) (by decide)]) (by rw [E 22 (by decide) (by decide) (by decide) (by decide)]) (by rw [E 23 (by decide) (by decide) (by decide) (by decide)]) (fun _ _ => by rw [E 20 (by decide) (by decide) (by decide) (by decide)]) (fun _ _ _ _ => by rw [E 19 (by decide) (by decide) (by decide) (by decide)]) (fun _ _ _ _ => by rw [E 18 (by decide) (by decide) (by decide) (by decide)]) (q3 p hp)⟩, ⟨qWi_m (List.prefix_refl T) (F 40 (by decide) (by decide) (by decide)) (E 28 (by decide) (by decide) (by decide) (by decide)) (E 29 (by decide) (by decide) (by decide) (by decide)) q4, fun i hi => by rw [E 17 (by decide) (by decide) (by decide) (by decide)]; exact q5 i hi, fun i hi => by rw [E 45 (by decide) (by decide) (by decide) (by decide)]; exact q6 i hi, fset_same _ _ _, by omega, fun i X hX => by have := hF1 i X hX; rw [Nat.zero_add] at this; exact this⟩, ⟨qLs_m (List.prefix_refl T) (F 43 (by decide) (by decide) (by decide)) (fun j j1 j2 => E j (by omega) (by omega) (by omega) (by omega)) q10, (E 13 (by decide) (by decide) (by decide) (by decide)).trans q12⟩, ⟨(F 11 (by decide) (by decide) (by decide)).trans q13, (fset_ne (by decide)).trans ((ef1 21 (by decide)).trans (fset_same _ _ _)), (F 53 (by decide) (by decide) (by decide)).trans q15, (F 54 (by decide) (by decide) (by decide)).trans q16⟩, ⟨(E 10 (by decide) (by decide) (by decide) (by decide)).trans q17, (E 11 (by decide) (by decide) (by decide) (by decide)).trans q17b, (E 12 (by decide) (by decide) (by decide) (by decide)).trans q17c⟩, ⟨?_, ?_⟩, (E 39 (by decide) (by decide) (by decide) (by decide)).trans q20, (E 40 (by decide) (by decide) (by decide) (by decide)).trans q21, (E 41 (by decide) (by decide) (by decide) (by decide)).trans q22, (E 42 (by decide) (by decide) (by decide) (by decide)).trans q23⟩
        · rw [eA1 24 (by decide) (by decide), if_pos c28]
          show upd (A 24) p (ck + 1) = _
          rw [q18]
        · rw [eA1 25 (by decide) (by decide)]
          show upd (A 25) p (ck + 1) = _
          rw [q19]
      exact m_reti cd_Mo_look rfl ⟨_, rfl, (kk _ _ (by exact MT_i hM1 rfl rfl rfl rfl rfl rfl rfl rfl rfl rfl) (by exact hg1) hR)⟩
  · exact absurd (show ¬ (¬ (1 : Int32) = 0) from c4) (by decide)
set_option maxRecDepth 100000 in
theorem mo_lookB {sc : tm_X} {d : Nat} {f : Nat → Int32} {A : Nat → Nat → Int32} {x : Int32} {Q : Int32 → MS → Prop} (hB : inR x 6 = false) (kk : Q (-1) (f, A)) : mGi sc (d + 2) 265 [.ref 1482, .int x] (f, A) Q := by
  show mg sc (d + 2) 265 0 [(0, .ref 1482), (1, .int x)] [] (f, A) _
  generalize elv : ([(0, .ref 1482), (1, .int x)] : tm_L) = lv
  have l0 : lv.lookup 0 = some (.ref 1482) := by rw [← elv]; rfl
  have l1 : lv.lookup 1 = some (.int x) := by rw [← elv]; rfl
  clear elv
  refine m_ild (pc' := 1) cd_Mo_look rfl (Or.inr ⟨_, rfl, rfl, rfl⟩) l1 rfl ?_
  refine m_si (pc' := 4) cd_Mo_look rfl rfl rfl rfl rfl cd_Mo_isDevice rfl (Nat.le_of_ble_eq_true rfl) (m_isDevice ?_)
  show mg _ _ _ 4 _ [.int (bz (inR x 6))] _ _
  refine m_if1 (t := 9) (pc' := 7) cd_Mo_look rfl rfl rfl (fun c4 => ?_) (fun c4 => ?_)
  · have c4 : (inR x 6) = true := bz_t c4
    exact absurd (c4.symm.trans hB) (by decide)
  · have c4 : (inR x 6) = false := bz_f (Classical.not_not.mp c4)
    refine m_k1 (v := (-1)) (pc' := 8) cd_Mo_look rfl (by decide) rfl ?_
    exact m_reti cd_Mo_look rfl ⟨_, rfl, kk⟩
set_option maxRecDepth 100000 in
theorem mo_upB {sc : tm_X} {d : Nat} {f : Nat → Int32} {A : Nat → Nat → Int32} {x : Int32} {Q : Int32 → MS → Prop} (hB : inR x 6 = false) (kk : Q (-1) (f, A)) : mGi sc (d + 2) 252 [.ref 1482, .int x] (f, A) Q := by
  show mg sc (d + 2) 252 0 [(0, .ref 1482), (1, .int x)] [] (f, A) _
  generalize elv : ([(0, .ref 1482), (1, .int x)] : tm_L) = lv
  have l0 : lv.lookup 0 = some (.ref 1482) := by rw [← elv]; rfl
  have l1 : lv.lookup 1 = some (.int x) := by rw [← elv]; rfl
  clear elv
  refine m_ild (pc' := 1) cd_Mo_up rfl (Or.inr ⟨_, rfl, rfl, rfl⟩) l1 rfl ?_
  refine m_si (pc' := 4) cd_Mo_up rfl rfl rfl rfl rfl cd_Mo_isDevice rfl (Nat.le_of_ble_eq_true rfl) (m_isDevice ?_)
  show mg _ _ _ 4 _ [.int (bz (inR x 6))] _ _
  refine m_if1 (t := 9) (pc' := 7) cd_Mo_up rfl rfl rfl (fun c4 => ?_) (fun c4 => ?_)
  · have c4 : (inR x 6) = true := bz_t c4
    exact absurd (c4.symm.trans hB) (by decide)
  · have c4 : (inR x 6) = false := bz_f (Classical.not_not.mp c4)
    refine m_k1 (v := (-1)) (pc' := 8) cd_Mo_up rfl (by decide) rfl ?_
    exact m_reti cd_Mo_up rfl ⟨_, rfl, kk⟩
set_option maxRecDepth 100000 in
theorem mo_taken {sc : tm_X} {d : Nat} {f : Nat → Int32} {A : Nat → Nat → Int32} {p : Nat} {x : Int32} {Q : Int32 → MS → Prop} (hp : p < 6) (kk : Q (if x = 0 then A 39 p else if x = 1 then A 40 p else if x = 2 then A 41 p else if x = 3 then A 42 p else -1) (f, A)) : mGi sc (d + 1) 278 [.ref 1482, .int (nI p), .int x] (f, A) Q := by
  show mg sc (d + 1) 278 0 [(0, .ref 1482), (1, .int (nI p)), (2, .int x)] [] (f, A) _
  generalize elv : ([(0, .ref 1482), (1, .int (nI p)), (2, .int x)] : tm_L) = lv
  have l0 : lv.lookup 0 = some (.ref 1482) := by rw [← elv]; rfl
  have l1 : lv.lookup 1 = some (.int (nI p)) := by rw [← elv]; rfl
  have l2 : lv.lookup 2 = some (.int x) := by rw [← elv]; rfl
  clear elv
  refine m_ild (pc' := 1) cd_Mo_taken rfl (Or.inr ⟨_, rfl, rfl, rfl⟩) l1 rfl ?_
  refine m_si (pc' := 4) cd_Mo_taken rfl rfl rfl rfl rfl cd_Mo_isDevice rfl (Nat.le_of_ble_eq_true rfl) (m_isDev1 hp ?_)
  show mg _ _ _ 4 _ [.int 1] _ _
  refine m_if1 (t := 9) (pc' := 7) cd_Mo_taken rfl rfl rfl (fun c4 => ?_) (fun c4 => ?_)
  · have c4 : ¬ (1 : Int32) = 0 := c4
    refine m_ild (pc' := 10) cd_Mo_taken rfl (Or.inr ⟨_, rfl, rfl, rfl⟩) l2 rfl ?_
    refine m_if1 (t := 22) (pc' := 13) cd_Mo_taken rfl rfl rfl (fun c10 => ?_) (fun c10 => ?_)
    · have c10 : ¬ x = 0 := c10
      refine m_ild (pc' := 23) cd_Mo_taken rfl (Or.inr ⟨_, rfl, rfl, rfl⟩) l2 rfl ?_
      refine m_k1 (v := 1) (pc' := 24) cd_Mo_taken rfl (by decide) rfl ?_
      refine m_if2 (t := 36) (pc' := 27) cd_Mo_taken rfl rfl rfl (fun c24 => ?_) (fun c24 => ?_)
      · have c24 : ¬ x = 1 := c24
        refine m_ild (pc' := 37) cd_Mo_taken rfl (Or.inr ⟨_, rfl, rfl, rfl⟩) l2 rfl ?_
        refine m_k1 (v := 2) (pc' := 38) cd_Mo_taken rfl (by decide) rfl ?_
        refine m_if2 (t := 50) (pc' := 41) cd_Mo_taken rfl rfl rfl (fun c38 => ?_) (fun c38 => ?_)
        · have c38 : ¬ x = 2 := c38
          refine m_ild (pc' := 51) cd_Mo_taken rfl (Or.inr ⟨_, rfl, rfl, rfl⟩) l2 rfl ?_
          refine m_k1 (v := 3) (pc' := 52) cd_Mo_taken rfl (by decide) rfl ?_
          refine m_if2 (t := 64) (pc' := 55) cd_Mo_taken rfl rfl rfl (fun c52 => ?_) (fun c52 => ?_)
          · have c52 : ¬ x = 3 := c52
            refine m_k1 (v := (-1)) (pc' := 65) cd_Mo_taken rfl (by decide) rfl ?_
            exact m_reti cd_Mo_taken rfl ⟨_, rfl, (by rw [if_neg c10, if_neg c24, if_neg c38, if_neg c52] at kk; exact kk)⟩
          · have c52 : x = 3 := Classical.not_not.mp c52
            refine m_ald (pc' := 56) cd_Mo_taken rfl (Or.inr ⟨_, rfl, rfl, rfl⟩) l0 rfl rfl ?_
            refine m_fR (r := 41) (a := 42) (ad := 1524) (pc' := 59) rfl rfl cd_Mo_taken rfl rfl rfl rfl rfl ?_
            refine m_ild (pc' := 60) cd_Mo_taken rfl (Or.inr ⟨_, rfl, rfl, rfl⟩) l1 rfl ?_
            refine m_aI (r := 41) (a := 42) (g := (A 42)) (x := ((A 42) p)) (pc' := 61) rfl rfl cd_Mo_taken rfl rfl rfl (vp_in_nI (by omega) (by decide)) (congrArg (A 42) (nI_clamp (by omega))) ?_
            refine m_pure (pc' := 65) (st' := [.int (((A 42) p))]) cd_Mo_taken rfl rfl (fun _ _ => rfl) ?_
            exact m_reti cd_Mo_taken rfl ⟨_, rfl, (by rw [if_neg c10, if_neg c24, if_neg c38, if_pos c52] at kk; exact kk)⟩
        · have c38 : x = 2 := Classical.not_not.mp c38
          refine m_ald (pc' := 42) cd_Mo_taken rfl (Or.inr ⟨_, rfl, rfl, rfl⟩) l0 rfl rfl ?_
          refine m_fR (r := 40) (a := 41) (ad := 1523) (pc' := 45) rfl rfl cd_Mo_taken rfl rfl rfl rfl rfl ?_
          refine m_ild (pc' := 46) cd_Mo_taken rfl (Or.inr ⟨_, rfl, rfl, rfl⟩) l1 rfl ?_
          refine m_aI (r := 40) (a := 41) (g := (A 41)) (x := ((A 41) p)) (pc' := 47) rfl rfl cd_Mo_taken rfl rfl rfl (vp_in_nI (by omega) (by decide)) (congrArg (A 41) (nI_clamp (by omega))) ?_
          refine m_pure (pc' := 65) (st' := [.int (((A 41) p))]) cd_Mo_taken rfl rfl (fun _ _ => rfl) ?_
          exact m_reti cd_Mo_taken rfl ⟨_, rfl, (by rw [if_neg c10, if_neg c24, if_pos c38] at kk; exact kk)⟩
      · have c24 : x = 1 := Classical.not_not.mp c24
        refine m_ald (pc' := 28) cd_Mo_taken rfl (Or.inr ⟨_, rfl, rfl, rfl⟩) l0 rfl rfl ?_
        refine m_fR (r := 39) (a := 40) (ad := 1522) (pc' := 31) rfl rfl cd_Mo_taken rfl rfl rfl rfl rfl ?_
        refine m_ild (pc' := 32) cd_Mo_taken rfl (Or.inr ⟨_, rfl, rfl, rfl⟩) l1 rfl ?_
        refine m_aI (r := 39) (a := 40) (g := (A 40)) (x := ((A 40) p)) (pc' := 33) rfl rfl cd_Mo_taken rfl rfl rfl (vp_in_nI (by omega) (by decide)) (congrArg (A 40) (nI_clamp (by omega))) ?_
        refine m_pure (pc' := 65) (st' := [.int (((A 40) p))]) cd_Mo_taken rfl rfl (fun _ _ => rfl) ?_
        exact m_reti cd_Mo_taken rfl ⟨_, rfl, (by rw [if_neg c10, if_pos c24] at kk; exact kk)⟩
    · have c10 : x = 0 := Classical.not_not.mp c10
      refine m_ald (pc' := 14) cd_Mo_taken rfl (Or.inr ⟨_, rfl, rfl, rfl⟩) l0 rfl rfl ?_
      refine m_fR (r := 38) (a := 39) (ad := 1521) (pc' := 17) rfl rfl cd_Mo_taken rfl rfl rfl rfl rfl ?_
      refine m_ild (pc' := 18) cd_Mo_taken rfl (Or.inr ⟨_, rfl, rfl, rfl⟩) l1 rfl ?_
      refine m_aI (r := 38) (a := 39) (g := (A 39)) (x := ((A 39) p)) (pc' := 19) rfl rfl cd_Mo_taken rfl rfl rfl (vp_in_nI (by omega) (by decide)) (congrArg (A 39) (nI_clamp (by omega))) ?_
      refine m_pure (pc' := 65) (st' := [.int (((A 39) p))]) cd_Mo_taken rfl rfl (fun _ _ => rfl) ?_
      exact m_reti cd_Mo_taken rfl ⟨_, rfl, (by rw [if_pos c10] at kk; exact kk)⟩
  · exact absurd (show ¬ (¬ (1 : Int32) = 0) from c4) (by decide)
set_option maxRecDepth 100000 in
theorem mo_takenB {sc : tm_X} {d : Nat} {f : Nat → Int32} {A : Nat → Nat → Int32} {x y : Int32} {Q : Int32 → MS → Prop} (hB : inR x 6 = false) (kk : Q (-1) (f, A)) : mGi sc (d + 1) 278 [.ref 1482, .int x, .int y] (f, A) Q := by
  show mg sc (d + 1) 278 0 [(0, .ref 1482), (1, .int x), (2, .int y)] [] (f, A) _
  generalize elv : ([(0, .ref 1482), (1, .int x), (2, .int y)] : tm_L) = lv
  have l0 : lv.lookup 0 = some (.ref 1482) := by rw [← elv]; rfl
  have l1 : lv.lookup 1 = some (.int x) := by rw [← elv]; rfl
  have l2 : lv.lookup 2 = some (.int y) := by rw [← elv]; rfl
  clear elv
  refine m_ild (pc' := 1) cd_Mo_taken rfl (Or.inr ⟨_, rfl, rfl, rfl⟩) l1 rfl ?_
  refine m_si (pc' := 4) cd_Mo_taken rfl rfl rfl rfl rfl cd_Mo_isDevice rfl (Nat.le_of_ble_eq_true rfl) (m_isDevice ?_)
  show mg _ _ _ 4 _ [.int (bz (inR x 6))] _ _
  refine m_if1 (t := 9) (pc' := 7) cd_Mo_taken rfl rfl rfl (fun c4 => ?_) (fun c4 => ?_)
  · have c4 : (inR x 6) = true := bz_t c4
    exact absurd (c4.symm.trans hB) (by decide)
  · have c4 : (inR x 6) = false := bz_f (Classical.not_not.mp c4)
    refine m_k1 (v := (-1)) (pc' := 8) cd_Mo_taken rfl (by decide) rfl ?_
    exact m_reti cd_Mo_taken rfl ⟨_, rfl, kk⟩
set_option maxRecDepth 100000 in
theorem mo_drawB {sc : tm_X} {d : Nat} {f : Nat → Int32} {A : Nat → Nat → Int32} {x : Int32} {Q : Int32 → MS → Prop} (hB : inR x 32 = false) (kk : Q (-1) (f, A)) : mGi sc (d + 2) 254 [.ref 1482, .int x] (f, A) Q := by
  show mg sc (d + 2) 254 0 [(0, .ref 1482), (1, .int x)] [] (f, A) _
  generalize elv : ([(0, .ref 1482), (1, .int x)] : tm_L) = lv
  have l0 : lv.lookup 0 = some (.ref 1482) := by rw [← elv]; rfl
  have l1 : lv.lookup 1 = some (.int x) := by rw [← elv]; rfl
  clear elv
  refine m_ild (pc' := 1) cd_Mo_draw rfl (Or.inr ⟨_, rfl, rfl, rfl⟩) l1 rfl ?_
  refine m_si (pc' := 4) cd_Mo_draw rfl rfl rfl rfl rfl cd_Mo_isRegister rfl (Nat.le_of_ble_eq_true rfl) (m_isReg0 hB ?_)
  show mg _ _ _ 4 _ [.int 0] _ _
  refine m_if1 (t := 9) (pc' := 7) cd_Mo_draw rfl rfl rfl (fun c4 => ?_) (fun c4 => ?_)
  · exact absurd (show ¬ (0 : Int32) = 0 from c4) (by decide)
  · have c4 : (0 : Int32) = 0 := Classical.not_not.mp c4
    refine m_k1 (v := (-1)) (pc' := 8) cd_Mo_draw rfl (by decide) rfl ?_
    exact m_reti cd_Mo_draw rfl ⟨_, rfl, kk⟩
theorem RS_reg {f : Nat → Int32} {A : Nat → Nat → Int32} {T : List Tm} {DL : List (Int32 × Int32)} {dev : Nat → DV} {sto : Nat → ST} {ws : List (Tm × Int32)} {dir reg reg' : Nat → Tm} {seen : List Tm} {ls : List RL} {lo : Nat → Int32} {R : RR} {g : Nat → Int32} (hS : RS f A T DL dev sto ws dir reg seen ls lo R) (h : ∀ i, i < 32 → tv T (g i) (reg' i)) : RS f (fset A 45 g) T DL dev sto ws dir reg' seen ls lo R := by
  obtain ⟨dt, db, rt, fl, ll, tl, tf, tg, tm, ck, fo, du⟩ := R
  obtain ⟨⟨q1, q2, q3⟩, ⟨q4, q5, q6, q7, q8, q9⟩, ⟨q10, q12⟩, ⟨q13, q14, q15, q16⟩, ⟨q17, q17b, q17c⟩, ⟨q18, q19⟩, q20, q21, q22, q23⟩ := hS
  exact ⟨⟨q1, q2, fun p hp => qSt_c (List.prefix_refl T) rfl rfl rfl (fun _ _ => rfl) (fun _ _ _ _ => rfl) (fun _ _ _ _ => rfl) (q3 p hp)⟩, ⟨qWi_m (List.prefix_refl T) rfl rfl rfl q4, q5, h, q7, q8, q9⟩, ⟨qLs_m (List.prefix_refl T) rfl (fun j j1 j2 => fset_ne (by omega)) q10, q12⟩, ⟨q13, q14, q15, q16⟩, ⟨q17, q17b, q17c⟩, ⟨q18, q19⟩, q20, q21, q22, q23⟩
set_option maxRecDepth 100000 in
theorem mo_draw {sc : tm_X} {d : Nat} {f : Nat → Int32} {A : Nat → Nat → Int32} {T : List Tm} {DL : List (Int32 × Int32)} {G Kw : Tm → Prop} {dev : Nat → DV} {sto : Nat → ST} {ws : List (Tm × Int32)} {dir reg : Nat → Tm} {seen : List Tm} {ls : List RL} {lo dt db rt fl ll tl tf tg tm : Nat → Int32} {ck fo du : Int32} {r : Nat} {Q : Int32 → MS → Prop} (hM : MT f A T DL G Kw) (hS : RS f A T DL dev sto ws dir reg seen ls lo (dt, db, rt, fl, ll, tl, tf, tg, tm, ck, fo, du)) (hl : T.length + 1 ≤ 4000) (hrc : rc (A 1) T.length < 1000) (hdl : DL.length ≤ 2960) (hws : ws.length ≤ 692) (hr : r < 32) (kk : ∀ f1 A1 T1, T <+: T1 → T1.length ≤ T.length + 1 → rc (A1 1) T1.length ≤ rc (A 1) T.length →  MT f1 A1 T1 (DL ++ [(6, 0)]) (fun y => G y ∨ (y = (Tsec (nI DL.length) 6 0) ∧ (Tsec (nI DL.length) 6 0) ≠ tz)) Kw → (f1 16 = 1 ∨ (f1 16 = f 16 ∧ ((Tsec (nI DL.length) 6 0) = tz ∨ G (Tsec (nI DL.length) 6 0)))) → RS f1 A1 T1 (DL ++ [(6, 0)]) dev sto ws dir (fset reg r (Tsec (nI DL.length) 6 0)) seen ls (upd lo DL.length (-1)) (upd dt DL.length (ck + 1), upd db DL.length 12, upd rt DL.length 0, fl, ll, tl, tf, tg, tm, ck + 1, fo, du) → Q 1 (f1, A1)) : mGi sc (d + 5) 254 [.ref 1482, .int (nI r)] (f, A) Q := by
  have hTl := MT_len hM
  have h21 := hS.2.2.2.1.2.1
  have h40 := hS.2.1.1.1.1
  have h11 : f 11 = nI DL.length := hS.2.2.2.1.1
  have hr2 := hrc
  show mg sc (d + 5) 254 0 [(0, .ref 1482), (1, .int (nI r))] [] (f, A) _
  generalize elv : ([(0, .ref 1482), (1, .int (nI r))] : tm_L) = lv
  have l0 : lv.lookup 0 = some (.ref 1482) := by rw [← elv]; rfl
  have l1 : lv.lookup 1 = some (.int (nI r)) := by rw [← elv]; rfl
  clear elv
  refine m_ild (pc' := 1) cd_Mo_draw rfl (Or.inr ⟨_, rfl, rfl, rfl⟩) l1 rfl ?_
  refine m_si (pc' := 4) cd_Mo_draw rfl rfl rfl rfl rfl cd_Mo_isRegister rfl (Nat.le_of_ble_eq_true rfl) (m_isReg1 hr ?_)
  show mg _ _ _ 4 _ [.int 1] _ _
  refine m_if1 (t := 9) (pc' := 7) cd_Mo_draw rfl rfl rfl (fun c4 => ?_) (fun c4 => ?_)
  · have c4 : ¬ (1 : Int32) = 0 := c4
    refine m_ald (pc' := 10) cd_Mo_draw rfl (Or.inr ⟨_, rfl, rfl, rfl⟩) l0 rfl rfl ?_
    refine m_ci (pc' := 13) cd_Mo_draw rfl rfl rfl rfl rfl cd_Mo_isFull rfl (Nat.le_of_ble_eq_true rfl) (m_isFull h11 hdl h40 hws ?_)
    show mg _ _ _ 13 _ [.int 0] _ _
    refine m_if1 (t := 19) (pc' := 16) cd_Mo_draw rfl rfl rfl (fun c13 => ?_) (fun c13 => ?_)
    · have c13 : (0 : Int32) = 0 := c13
      refine m_ald (pc' := 20) cd_Mo_draw rfl (Or.inr ⟨_, rfl, rfl, rfl⟩) l0 rfl rfl ?_
      refine m_pure (pc' := 21) (st' := [.ref 1482, .ref 1482]) cd_Mo_draw rfl rfl (fun _ _ => rfl) ?_
      refine m_fI (k := 21) (x := ck) (pc' := 24) cd_Mo_draw rfl rfl rfl rfl rfl h21 ?_
      refine m_k1 (v := 1) (pc' := 25) cd_Mo_draw rfl (by decide) rfl ?_
      refine m_pure (pc' := 26) (st' := [.int (ck + 1), .ref 1482]) cd_Mo_draw rfl rfl (fun _ _ => rfl) ?_
      refine m_pI (k := 21) (pc' := 29) cd_Mo_draw rfl rfl rfl rfl (by simp [tm_okV, narrow, fits]) rfl rfl ?_
      refine m_ald (pc' := 30) cd_Mo_draw rfl (Or.inr ⟨_, rfl, rfl, rfl⟩) l0 rfl rfl ?_
      refine m_k2 (v := 12) (pc' := 32) cd_Mo_draw rfl (by decide) rfl ?_
      refine m_k1 (v := 0) (pc' := 33) cd_Mo_draw rfl (by decide) rfl ?_
      refine m_ci (pc' := 36) cd_Mo_draw rfl rfl rfl rfl rfl cd_Mo_drawn rfl (Nat.le_of_ble_eq_true rfl) (m_drawn (rt := false) (xd := 6) (xp := 0) (by exact MT_i hM rfl rfl rfl rfl rfl rfl rfl rfl rfl rfl) (by omega) (by show rc (A 1) T.length < 1000; omega) h11 (by omega) (fun f1 A1 T1 r1 hx1 hr1 => ?_))
      obtain ⟨p1, q1, s1, hM1⟩ := hx1
      have hM1 : MT f1 A1 T1 _ _ _ := MT_i hM1 rfl rfl rfl rfl rfl rfl rfl rfl rfl rfl
      have s1 : rc (A1 1) T1.length ≤ rc (A 1) T.length + 0 := s1
      show mg _ _ _ 36 _ [.int r1] _ _
      refine m_ist (pc' := 37) cd_Mo_draw rfl (Or.inr ⟨_, rfl, rfl, rfl⟩) (by decide) rfl (fun lv el => ?_)
      have l0 := tm_lk el l0 rfl (by decide)
      have l1 := tm_lk el l1 rfl (by decide)
      have l2 : lv.lookup 2 = some (.int r1) := tm_lks el
      clear el
      refine m_ald (pc' := 38) cd_Mo_draw rfl (Or.inr ⟨_, rfl, rfl, rfl⟩) l0 rfl rfl ?_
      refine m_ild (pc' := 39) cd_Mo_draw rfl (Or.inr ⟨_, rfl, rfl, rfl⟩) l2 rfl ?_
      refine m_cv (pc' := 42) cd_Mo_draw rfl rfl rfl rfl rfl cd_Mo_give rfl (Nat.le_of_ble_eq_true rfl) (m_give (X := (Tsec (nI DL.length) 6 0)) (by exact MT_i hM1 rfl rfl rfl rfl rfl rfl rfl rfl rfl rfl) hr1 (fun v g hv hM2 => ?_))
      show mg _ _ _ 42 _ [] _ _
      refine m_ald (pc' := 43) cd_Mo_draw rfl (Or.inr ⟨_, rfl, rfl, rfl⟩) l0 rfl rfl ?_
      refine m_ild (pc' := 44) cd_Mo_draw rfl (Or.inr ⟨_, rfl, rfl, rfl⟩) l1 rfl ?_
      refine m_ild (pc' := 45) cd_Mo_draw rfl (Or.inr ⟨_, rfl, rfl, rfl⟩) l2 rfl ?_
      refine m_ci (pc' := 48) cd_Mo_draw rfl rfl rfl rfl rfl cd_Mo_set rfl (Nat.le_of_ble_eq_true rfl) (m_set (reg := reg) (X := (Tsec (nI DL.length) 6 0)) (by exact MT_i hM2 rfl rfl rfl rfl rfl rfl rfl rfl rfl rfl) (fun i hi => tv_mono p1 (hS.2.1.2.2.1 i hi)) hr1 (fun g45 h45 => ?_))
      show mg _ _ _ 48 _ [.int ((kp reg (nI r) (Tsec (nI DL.length) 6 0)).1)] _ _
      have hxz : (Tsec (nI DL.length) 6 0) ≠ tz := fun e => nomatch e
      have ekp : kp reg (nI r) (Tsec (nI DL.length) 6 0) = (1, fset reg r (Tsec (nI DL.length) 6 0)) := (if_pos ⟨inR_nI (n := 32) hr (by decide), tnil_f hxz⟩).trans (by rw [nI_clamp (by omega)])
      rw [ekp] at h45 ⊢
      exact m_reti cd_Mo_draw rfl ⟨_, rfl, (kk _ _ T1 p1 (by omega) (show rc (A1 1) _ ≤ _ by omega) (by exact MT_i hM2 rfl rfl rfl rfl rfl rfl rfl rfl rfl rfl) (by exact hv) (RS_reg (RS_p (dt' := upd dt DL.length (ck + 1)) (db' := upd db DL.length 12) (rt' := upd rt DL.length 0) (lo' := upd lo DL.length (-1)) hS p1 (show nI (DL.length + 1) = nI (List.length (DL ++ [((6 : Int32), (0 : Int32))])) from congrArg nI (by simp)) (show ck + 1 = ck + 1 from rfl) ⟨rfl, rfl, rfl, rfl, rfl⟩ ⟨rfl, rfl, rfl, rfl, rfl, rfl, rfl, rfl, rfl, rfl, rfl, rfl, rfl, rfl, rfl, rfl, rfl, rfl, rfl, rfl, rfl, rfl, rfl, rfl, rfl, rfl, rfl⟩ (fun i hi => tv_mono p1 (hS.2.1.2.1 i hi)) (congrArg (fun z => upd z DL.length (ck + 1)) hS.2.2.2.2.1.1) (congrArg (fun z => upd z DL.length 12) hS.2.2.2.2.1.2.1) (congrArg (fun z => upd z DL.length 0) hS.2.2.2.2.1.2.2) (congrArg (fun z => upd z DL.length (-1)) hS.2.2.1.2)) h45))⟩
    · exact absurd (show ¬ (0 : Int32) = 0 from c13) (by decide)
  · exact absurd (show ¬ (¬ (1 : Int32) = 0) from c4) (by decide)
