/-! The reference: copies, alter, swap -/
theorem row_of {f : Nat → Int32} {A : Nat → Nat → Int32} {T : List Tm} {DL : List (Int32 × Int32)} {G W : Tm → Prop} (hM : MT f A T DL G W) {i : Nat} {X : Tm} (h : T[i]? = some X) (hk : kd X = 7) : X = Trw (mk X) (nu X 0) (nu X 1) (nu X 2) (nu X 3) (pt X 0) (pt X 1) (pt X 2) (pt X 3) := by
  obtain ⟨k, n0, n1, n2, n3, a, b, c, d, rfl⟩ := Tsp_row (MT_sp hM h) hk
  rfl
theorem row_N {k n0 n1 n2 n3 v : Int32} {a b c d : Tm} {g : Nat → Int32} {i : Nat} (hi : i < 4) (e0 : g 0 = n0) (e1 : g 1 = n1) (e2 : g 2 = n2) (e3 : g 3 = n3) : Trw k (upd g i v 0) (upd g i v 1) (upd g i v 2) (upd g i v 3) a b c d = TwN (Trw k n0 n1 n2 n3 a b c d) i v := by
  rw [← e0, ← e1, ← e2, ← e3]
  rcases (show i = 0 ∨ i = 1 ∨ i = 2 ∨ i = 3 by omega) with rfl | rfl | rfl | rfl <;> rfl
theorem row_K {k n0 n1 n2 n3 v : Int32} {a b c d : Tm} {g : Nat → Int32} (e0 : g 0 = n0) (e1 : g 1 = n1) (e2 : g 2 = n2) (e3 : g 3 = n3) : Trw v (g 0) (g 1) (g 2) (g 3) a b c d = TwK (Trw k n0 n1 n2 n3 a b c d) v := by
  rw [← e0, ← e1, ← e2, ← e3]
  rfl
set_option maxRecDepth 100000 in
theorem l_mcop {sc : tm_X} {d : Nat} {f : Nat → Int32} {A : Nat → Nat → Int32} {T : List Tm} {DL : List (Int32 × Int32)} {G Kw : Tm → Prop} {i1 t1 : Nat} {X : Tm} {Q : Int32 → MS → Prop} (hM : MT f A T DL G Kw) (hi1 : i1 < 32) (et1 : A 45 i1 = nI t1) (ht1 : T[t1]? = some X) (k7 : kd X = 7) (kk : ∀ g, (∀ j, j < 4 → g j = nu X j) → (∀ j, j < 4 → tv T (g (4 + j)) (pt X j)) →  Q 1 (f, fset A 9 g)) : ∀ (r i : Nat) (g : Nat → Int32), i + r = 8 → (∀ j, j < 4 → j < i → g j = nu X j) → (∀ j, j < 4 → 4 + j < i → tv T (g (4 + j)) (pt X j)) → ∀ lv : tm_L, lv.lookup 0 = some (.ref 1482) → lv.lookup 2 = some (.int (nI i1)) → lv.lookup 5 = some (.int (nI i)) → mg sc (d + 1) 262 46 lv [] (f, fset A 9 g) (fun r s' => ∃ v, r = some (.int v) ∧ Q v s') := by
  have htl1 := tv_lt ht1
  have hTl := MT_len hM
  intro r
  induction r with
  | zero =>
    intro i g hi h1 h2 lv l0 l2 l5
    have hi2 : i = 8 := by omega
    subst hi2
    refine m_ild (pc' := 48) cd_Mo_copies rfl (Or.inl ⟨rfl, rfl⟩) l5 rfl ?_
    refine m_k2 (v := 8) (pc' := 50) cd_Mo_copies rfl (by decide) rfl ?_
    refine m_if2 (t := 78) (pc' := 53) cd_Mo_copies rfl rfl rfl (fun c50 => ?_) (fun c50 => ?_)
    · have c50 : (8 : Int32) ≤ (nI 8) := c50
      refine m_k1 (v := 1) (pc' := 79) cd_Mo_copies rfl (by decide) rfl ?_
      exact m_retz cd_Mo_copies rfl (Or.inr rfl) ⟨_, rfl, (kk g (fun j hj => h1 j hj (by omega)) (fun j hj => h2 j hj (by omega)))⟩
    · have c50 : ¬ (8 : Int32) ≤ (nI 8) := c50
      exact absurd (show (8 : Int32) ≤ nI 8 from by decide) c50
  | succ r ih =>
    intro i g hi h1 h2 lv l0 l2 l5
    by_cases c4 : i < 4
    · skip
      refine m_ild (pc' := 48) cd_Mo_copies rfl (Or.inl ⟨rfl, rfl⟩) l5 rfl ?_
      refine m_k2 (v := 8) (pc' := 50) cd_Mo_copies rfl (by decide) rfl ?_
      refine m_if2 (t := 78) (pc' := 53) cd_Mo_copies rfl rfl rfl (fun c50 => ?_) (fun c50 => ?_)
      · have c50 : (8 : Int32) ≤ (nI i) := c50
        exact absurd c50 (nI_ge (b := 8) (by omega) (by decide))
      · have c50 : ¬ (8 : Int32) ≤ (nI i) := c50
        refine m_ald (pc' := 54) cd_Mo_copies rfl (Or.inr ⟨_, rfl, rfl, rfl⟩) l0 rfl rfl ?_
        refine m_fR (r := 8) (a := 9) (ad := 1491) (pc' := 57) rfl rfl cd_Mo_copies rfl rfl rfl rfl rfl ?_
        refine m_ild (pc' := 59) cd_Mo_copies rfl (Or.inl ⟨rfl, rfl⟩) l5 rfl ?_
        refine m_ald (pc' := 60) cd_Mo_copies rfl (Or.inr ⟨_, rfl, rfl, rfl⟩) l0 rfl rfl ?_
        refine m_ald (pc' := 61) cd_Mo_copies rfl (Or.inr ⟨_, rfl, rfl, rfl⟩) l0 rfl rfl ?_
        refine m_fR (r := 44) (a := 45) (ad := 1527) (pc' := 64) rfl rfl cd_Mo_copies rfl rfl rfl rfl rfl ?_
        refine m_ild (pc' := 65) cd_Mo_copies rfl (Or.inr ⟨_, rfl, rfl, rfl⟩) l2 rfl ?_
        refine m_aI (r := 44) (a := 45) (g := (A 45)) (x := nI t1) (pc' := 66) rfl rfl cd_Mo_copies rfl rfl rfl (vp_in_nI (by omega) (by decide)) ((congrArg (A 45) (nI_clamp (by omega))).trans et1) ?_
        refine m_ild (pc' := 68) cd_Mo_copies rfl (Or.inl ⟨rfl, rfl⟩) l5 rfl ?_
        refine m_ci (pc' := 71) cd_Mo_copies rfl rfl rfl rfl rfl cd_Mo_cell rfl (Nat.le_of_ble_eq_true rfl) (m_cellN (k := i) (by exact MT_i hM rfl rfl rfl rfl rfl rfl rfl rfl rfl rfl) ht1 k7 c4 ?_)
        show mg _ _ _ 71 _ [.int (nu X i), .int (nI i), .ref 1491] _ _
        refine m_aS (r := 8) (a := 9) (g := g) (p := i) (pc' := 72) rfl rfl cd_Mo_copies rfl rfl rfl (vp_in_nI (by omega) (by decide)) (nI_clamp (by omega)) ?_
        refine m_inc (y := nI (i + 1)) (pc' := 75) cd_Mo_copies rfl l5 (by decide) (nI_add i 1) rfl (fun lv el => ?_)
        have l0 := tm_lk el l0 rfl (by decide)
        have l2 := tm_lk el l2 rfl (by decide)
        have l5 : lv.lookup 5 = some (.int (nI (i + 1))) := tm_lks el
        clear el
        refine m_pure (pc' := 46) (st' := []) cd_Mo_copies rfl rfl (fun _ _ => rfl) ?_
        rw [fset_fset]
        refine ih (i + 1) _ (by omega) (fun j j1 j2 => ?_) (fun j j1 j2 => ?_) lv l0 l2 l5
        · by_cases q : j = i
          · rw [q, upd_same]
          · rw [upd_ne q]; exact h1 j j1 (by omega)
        · exact absurd c4 (by omega)
    · obtain ⟨k, rfl⟩ : ∃ k, i = 4 + k := ⟨i - 4, by omega⟩
      refine m_ild (pc' := 48) cd_Mo_copies rfl (Or.inl ⟨rfl, rfl⟩) l5 rfl ?_
      refine m_k2 (v := 8) (pc' := 50) cd_Mo_copies rfl (by decide) rfl ?_
      refine m_if2 (t := 78) (pc' := 53) cd_Mo_copies rfl rfl rfl (fun c50 => ?_) (fun c50 => ?_)
      · have c50 : (8 : Int32) ≤ (nI (4 + k)) := c50
        exact absurd c50 (nI_ge (b := 8) (by omega) (by decide))
      · have c50 : ¬ (8 : Int32) ≤ (nI (4 + k)) := c50
        refine m_ald (pc' := 54) cd_Mo_copies rfl (Or.inr ⟨_, rfl, rfl, rfl⟩) l0 rfl rfl ?_
        refine m_fR (r := 8) (a := 9) (ad := 1491) (pc' := 57) rfl rfl cd_Mo_copies rfl rfl rfl rfl rfl ?_
        refine m_ild (pc' := 59) cd_Mo_copies rfl (Or.inl ⟨rfl, rfl⟩) l5 rfl ?_
        refine m_ald (pc' := 60) cd_Mo_copies rfl (Or.inr ⟨_, rfl, rfl, rfl⟩) l0 rfl rfl ?_
        refine m_ald (pc' := 61) cd_Mo_copies rfl (Or.inr ⟨_, rfl, rfl, rfl⟩) l0 rfl rfl ?_
        refine m_fR (r := 44) (a := 45) (ad := 1527) (pc' := 64) rfl rfl cd_Mo_copies rfl rfl rfl rfl rfl ?_
        refine m_ild (pc' := 65) cd_Mo_copies rfl (Or.inr ⟨_, rfl, rfl, rfl⟩) l2 rfl ?_
        refine m_aI (r := 44) (a := 45) (g := (A 45)) (x := nI t1) (pc' := 66) rfl rfl cd_Mo_copies rfl rfl rfl (vp_in_nI (by omega) (by decide)) ((congrArg (A 45) (nI_clamp (by omega))).trans et1) ?_
        refine m_ild (pc' := 68) cd_Mo_copies rfl (Or.inl ⟨rfl, rfl⟩) l5 rfl ?_
        refine m_ci (pc' := 71) cd_Mo_copies rfl rfl rfl rfl rfl cd_Mo_cell rfl (Nat.le_of_ble_eq_true rfl) (m_cellP (k := k) (by exact MT_i hM rfl rfl rfl rfl rfl rfl rfl rfl rfl rfl) ht1 k7 (by omega) (fun ro hro => ?_))
        show mg _ _ _ 71 _ [.int ro, .int (nI (4 + k)), .ref 1491] _ _
        refine m_aS (r := 8) (a := 9) (g := g) (p := (4 + k)) (pc' := 72) rfl rfl cd_Mo_copies rfl rfl rfl (vp_in_nI (by omega) (by decide)) (nI_clamp (by omega)) ?_
        refine m_inc (y := nI ((4 + k) + 1)) (pc' := 75) cd_Mo_copies rfl l5 (by decide) (nI_add (4 + k) 1) rfl (fun lv el => ?_)
        have l0 := tm_lk el l0 rfl (by decide)
        have l2 := tm_lk el l2 rfl (by decide)
        have l5 : lv.lookup 5 = some (.int (nI ((4 + k) + 1))) := tm_lks el
        clear el
        refine m_pure (pc' := 46) (st' := []) cd_Mo_copies rfl rfl (fun _ _ => rfl) ?_
        rw [fset_fset]
        refine ih ((4 + k) + 1) _ (by omega) (fun j j1 j2 => ?_) (fun j j1 j2 => ?_) lv l0 l2 l5
        · rw [upd_ne (by omega)]; exact h1 j j1 (by omega)
        · by_cases q : j = k
          · rw [q, upd_same]; exact hro
          · rw [upd_ne (by omega)]; exact h2 j j1 (by omega)
set_option maxRecDepth 100000 in
theorem m_copies4 {sc : tm_X} {d : Nat} {f : Nat → Int32} {A : Nat → Nat → Int32} {T : List Tm} {DL : List (Int32 × Int32)} {G Kw : Tm → Prop} {reg : Nat → Tm} {r x k : Int32} {Q : Int32 → MS → Prop} (hM : MT f A T DL G Kw) (hR : ∀ i, i < 32 → tv T (A 45 i) (reg i)) (k0 : ¬ (inR r 32 = true ∧ kd (hl reg x) = 7 ∧ inR k 5 = true) → Q 0 (f, A)) (kk : inR r 32 = true → ∀ i1 t1, x = nI i1 → i1 < 32 → A 45 i1 = nI t1 → T[t1]? = some (reg i1) → kd (reg i1) = 7 → inR k 5 = true → ∀ g, (∀ j, j < 4 → g j = nu (reg i1) j) → (∀ j, j < 4 → tv T (g (4 + j)) (pt (reg i1) j)) →  Q 1 (f, fset A 9 g)) : mGi sc (d + 2) 262 [.ref 1482, .int r, .int x, .int k, .int 4] (f, A) Q := by
  show mg sc (d + 2) 262 0 [(0, .ref 1482), (1, .int r), (2, .int x), (3, .int k), (4, .int 4)] [] (f, A) _
  generalize elv : ([(0, .ref 1482), (1, .int r), (2, .int x), (3, .int k), (4, .int 4)] : tm_L) = lv
  have l0 : lv.lookup 0 = some (.ref 1482) := by rw [← elv]; rfl
  have l1 : lv.lookup 1 = some (.int r) := by rw [← elv]; rfl
  have l2 : lv.lookup 2 = some (.int x) := by rw [← elv]; rfl
  have l3 : lv.lookup 3 = some (.int k) := by rw [← elv]; rfl
  have l4 : lv.lookup 4 = some (.int 4) := by rw [← elv]; rfl
  clear elv
  refine m_ild (pc' := 1) cd_Mo_copies rfl (Or.inr ⟨_, rfl, rfl, rfl⟩) l1 rfl ?_
  refine m_si (pc' := 4) cd_Mo_copies rfl rfl rfl rfl rfl cd_Mo_isRegister rfl (Nat.le_of_ble_eq_true rfl) (m_isRegister ?_)
  show mg _ _ _ 4 _ [.int (bz (inR r 32))] _ _
  refine m_if1 (t := 41) (pc' := 7) cd_Mo_copies rfl rfl rfl (fun c4 => ?_) (fun c4 => ?_)
  · have c4 : (inR r 32) = false := bz_f c4
    refine m_k1 (v := 0) (pc' := 42) cd_Mo_copies rfl (by decide) rfl ?_
    exact m_retz cd_Mo_copies rfl (Or.inl rfl) ⟨_, rfl, (k0 (fun q => Bool.noConfusion (c4.symm.trans q.1)))⟩
  · have c4 : (inR r 32) = true := bz_t c4
    refine m_ald (pc' := 8) cd_Mo_copies rfl (Or.inr ⟨_, rfl, rfl, rfl⟩) l0 rfl rfl ?_
    refine m_ild (pc' := 9) cd_Mo_copies rfl (Or.inr ⟨_, rfl, rfl, rfl⟩) l2 rfl ?_
    refine m_ci (pc' := 12) cd_Mo_copies rfl rfl rfl rfl rfl cd_Mo_isHeld rfl (Nat.le_of_ble_eq_true rfl) (m_held hM hR ?_)
    show mg _ _ _ 12 _ [.int (bz (!tnil (hl reg x)))] _ _
    refine m_if1 (t := 41) (pc' := 15) cd_Mo_copies rfl rfl rfl (fun c12 => ?_) (fun c12 => ?_)
    · have c12 : (!tnil (hl reg x)) = false := bz_f c12
      refine m_k1 (v := 0) (pc' := 42) cd_Mo_copies rfl (by decide) rfl ?_
      exact m_retz cd_Mo_copies rfl (Or.inl rfl) ⟨_, rfl, (k0 (fun q => by rw [held_no c12] at q; exact absurd q.2.1 (by decide)))⟩
    · have c12 : (!tnil (hl reg x)) = true := bz_t c12
      obtain ⟨i1, hi1, ex1, nz1⟩ := held_in c12
      subst ex1
      obtain ⟨t1, et1, ht1⟩ := hR i1 hi1
      have htl1 := tv_lt ht1
      have hTl0 := MT_len hM
      refine m_ald (pc' := 16) cd_Mo_copies rfl (Or.inr ⟨_, rfl, rfl, rfl⟩) l0 rfl rfl ?_
      refine m_fR (r := 0) (a := 1) (ad := 1483) (pc' := 19) rfl rfl cd_Mo_copies rfl rfl rfl rfl rfl ?_
      refine m_ald (pc' := 20) cd_Mo_copies rfl (Or.inr ⟨_, rfl, rfl, rfl⟩) l0 rfl rfl ?_
      refine m_fR (r := 44) (a := 45) (ad := 1527) (pc' := 23) rfl rfl cd_Mo_copies rfl rfl rfl rfl rfl ?_
      refine m_ild (pc' := 24) cd_Mo_copies rfl (Or.inr ⟨_, rfl, rfl, rfl⟩) l2 rfl ?_
      refine m_aI (r := 44) (a := 45) (g := (A 45)) (x := (nI t1)) (pc' := 25) rfl rfl cd_Mo_copies rfl rfl rfl (vp_in_nI (by omega) (by decide)) (by rw [(nI_clamp (by omega))]; exact et1) ?_
      refine m_aI (r := 0) (a := 1) (g := (A 1)) (x := (kd (reg i1))) (pc' := 26) rfl rfl cd_Mo_copies rfl rfl rfl (vp_in_nI (by omega) (by decide)) ((congrArg (A 1) (nI_clamp (by omega))).trans (MT_kd hM ht1)) ?_
      refine m_k2 (v := 7) (pc' := 28) cd_Mo_copies rfl (by decide) rfl ?_
      refine m_if2 (t := 41) (pc' := 31) cd_Mo_copies rfl rfl rfl (fun c28 => ?_) (fun c28 => ?_)
      · have c28 : ¬ (kd (reg i1)) = 7 := c28
        refine m_k1 (v := 0) (pc' := 42) cd_Mo_copies rfl (by decide) rfl ?_
        exact m_retz cd_Mo_copies rfl (Or.inl rfl) ⟨_, rfl, (k0 (fun q => by rw [hl_in hi1] at q; exact c28 q.2.1))⟩
      · have c28 : (kd (reg i1)) = 7 := Classical.not_not.mp c28
        refine m_ild (pc' := 32) cd_Mo_copies rfl (Or.inr ⟨_, rfl, rfl, rfl⟩) l3 rfl ?_
        refine m_if1 (t := 41) (pc' := 35) cd_Mo_copies rfl rfl rfl (fun c32 => ?_) (fun c32 => ?_)
        · have c32 : k < 0 := c32
          refine m_k1 (v := 0) (pc' := 42) cd_Mo_copies rfl (by decide) rfl ?_
          exact m_retz cd_Mo_copies rfl (Or.inl rfl) ⟨_, rfl, (k0 (fun q => Bool.noConfusion ((inR_lo c32).symm.trans q.2.2)))⟩
        · have c32 : ¬ k < 0 := c32
          refine m_ild (pc' := 36) cd_Mo_copies rfl (Or.inr ⟨_, rfl, rfl, rfl⟩) l3 rfl ?_
          refine m_ild (pc' := 38) cd_Mo_copies rfl (Or.inl ⟨rfl, rfl⟩) l4 rfl ?_
          refine m_if2 (t := 43) (pc' := 41) cd_Mo_copies rfl rfl rfl (fun c38 => ?_) (fun c38 => ?_)
          · have c38 : k ≤ 4 := c38
            refine m_k1 (v := 0) (pc' := 44) cd_Mo_copies rfl (by decide) rfl ?_
            refine m_ist (pc' := 46) cd_Mo_copies rfl (Or.inl ⟨rfl, rfl⟩) (by decide) rfl (fun lv el => ?_)
            have l0 := tm_lk el l0 rfl (by decide)
            have l1 := tm_lk el l1 rfl (by decide)
            have l2 := tm_lk el l2 rfl (by decide)
            have l3 := tm_lk el l3 rfl (by decide)
            have l4 := tm_lk el l4 rfl (by decide)
            have l5 : lv.lookup 5 = some (.int 0) := tm_lks el
            clear el
            have kx := l_mcop (sc := sc) (d := d + 1) hM hi1 et1 ht1 c28 (fun g q1 q2 => kk c4 i1 t1 rfl hi1 et1 ht1 c28 (inR_le (m := 4) (by decide) c32 c38) g q1 q2) 8 0 (A 9) rfl (fun j _ q => absurd q (by omega)) (fun j _ q => absurd q (by omega)) lv l0 l2 l5
            rw [fset_id] at kx
            exact kx
          · have c38 : ¬ k ≤ 4 := c38
            refine m_k1 (v := 0) (pc' := 42) cd_Mo_copies rfl (by decide) rfl ?_
            exact m_retz cd_Mo_copies rfl (Or.inl rfl) ⟨_, rfl, (k0 (fun q => Bool.noConfusion ((inR_gt (m := 4) (by decide) c38).symm.trans q.2.2)))⟩
set_option maxRecDepth 100000 in
theorem m_copies3 {sc : tm_X} {d : Nat} {f : Nat → Int32} {A : Nat → Nat → Int32} {T : List Tm} {DL : List (Int32 × Int32)} {G Kw : Tm → Prop} {reg : Nat → Tm} {r x k : Int32} {Q : Int32 → MS → Prop} (hM : MT f A T DL G Kw) (hR : ∀ i, i < 32 → tv T (A 45 i) (reg i)) (k0 : ¬ (inR r 32 = true ∧ kd (hl reg x) = 7 ∧ inR k 4 = true) → Q 0 (f, A)) (kk : inR r 32 = true → ∀ i1 t1, x = nI i1 → i1 < 32 → A 45 i1 = nI t1 → T[t1]? = some (reg i1) → kd (reg i1) = 7 → inR k 4 = true → ∀ g, (∀ j, j < 4 → g j = nu (reg i1) j) → (∀ j, j < 4 → tv T (g (4 + j)) (pt (reg i1) j)) →  Q 1 (f, fset A 9 g)) : mGi sc (d + 2) 262 [.ref 1482, .int r, .int x, .int k, .int 3] (f, A) Q := by
  show mg sc (d + 2) 262 0 [(0, .ref 1482), (1, .int r), (2, .int x), (3, .int k), (4, .int 3)] [] (f, A) _
  generalize elv : ([(0, .ref 1482), (1, .int r), (2, .int x), (3, .int k), (4, .int 3)] : tm_L) = lv
  have l0 : lv.lookup 0 = some (.ref 1482) := by rw [← elv]; rfl
  have l1 : lv.lookup 1 = some (.int r) := by rw [← elv]; rfl
  have l2 : lv.lookup 2 = some (.int x) := by rw [← elv]; rfl
  have l3 : lv.lookup 3 = some (.int k) := by rw [← elv]; rfl
  have l4 : lv.lookup 4 = some (.int 3) := by rw [← elv]; rfl
  clear elv
  refine m_ild (pc' := 1) cd_Mo_copies rfl (Or.inr ⟨_, rfl, rfl, rfl⟩) l1 rfl ?_
  refine m_si (pc' := 4) cd_Mo_copies rfl rfl rfl rfl rfl cd_Mo_isRegister rfl (Nat.le_of_ble_eq_true rfl) (m_isRegister ?_)
  show mg _ _ _ 4 _ [.int (bz (inR r 32))] _ _
  refine m_if1 (t := 41) (pc' := 7) cd_Mo_copies rfl rfl rfl (fun c4 => ?_) (fun c4 => ?_)
  · have c4 : (inR r 32) = false := bz_f c4
    refine m_k1 (v := 0) (pc' := 42) cd_Mo_copies rfl (by decide) rfl ?_
    exact m_retz cd_Mo_copies rfl (Or.inl rfl) ⟨_, rfl, (k0 (fun q => Bool.noConfusion (c4.symm.trans q.1)))⟩
  · have c4 : (inR r 32) = true := bz_t c4
    refine m_ald (pc' := 8) cd_Mo_copies rfl (Or.inr ⟨_, rfl, rfl, rfl⟩) l0 rfl rfl ?_
    refine m_ild (pc' := 9) cd_Mo_copies rfl (Or.inr ⟨_, rfl, rfl, rfl⟩) l2 rfl ?_
    refine m_ci (pc' := 12) cd_Mo_copies rfl rfl rfl rfl rfl cd_Mo_isHeld rfl (Nat.le_of_ble_eq_true rfl) (m_held hM hR ?_)
    show mg _ _ _ 12 _ [.int (bz (!tnil (hl reg x)))] _ _
    refine m_if1 (t := 41) (pc' := 15) cd_Mo_copies rfl rfl rfl (fun c12 => ?_) (fun c12 => ?_)
    · have c12 : (!tnil (hl reg x)) = false := bz_f c12
      refine m_k1 (v := 0) (pc' := 42) cd_Mo_copies rfl (by decide) rfl ?_
      exact m_retz cd_Mo_copies rfl (Or.inl rfl) ⟨_, rfl, (k0 (fun q => by rw [held_no c12] at q; exact absurd q.2.1 (by decide)))⟩
    · have c12 : (!tnil (hl reg x)) = true := bz_t c12
      obtain ⟨i1, hi1, ex1, nz1⟩ := held_in c12
      subst ex1
      obtain ⟨t1, et1, ht1⟩ := hR i1 hi1
      have htl1 := tv_lt ht1
      have hTl0 := MT_len hM
      refine m_ald (pc' := 16) cd_Mo_copies rfl (Or.inr ⟨_, rfl, rfl, rfl⟩) l0 rfl rfl ?_
      refine m_fR (r := 0) (a := 1) (ad := 1483) (pc' := 19) rfl rfl cd_Mo_copies rfl rfl rfl rfl rfl ?_
      refine m_ald (pc' := 20) cd_Mo_copies rfl (Or.inr ⟨_, rfl, rfl, rfl⟩) l0 rfl rfl ?_
      refine m_fR (r := 44) (a := 45) (ad := 1527) (pc' := 23) rfl rfl cd_Mo_copies rfl rfl rfl rfl rfl ?_
      refine m_ild (pc' := 24) cd_Mo_copies rfl (Or.inr ⟨_, rfl, rfl, rfl⟩) l2 rfl ?_
      refine m_aI (r := 44) (a := 45) (g := (A 45)) (x := (nI t1)) (pc' := 25) rfl rfl cd_Mo_copies rfl rfl rfl (vp_in_nI (by omega) (by decide)) (by rw [(nI_clamp (by omega))]; exact et1) ?_
      refine m_aI (r := 0) (a := 1) (g := (A 1)) (x := (kd (reg i1))) (pc' := 26) rfl rfl cd_Mo_copies rfl rfl rfl (vp_in_nI (by omega) (by decide)) ((congrArg (A 1) (nI_clamp (by omega))).trans (MT_kd hM ht1)) ?_
      refine m_k2 (v := 7) (pc' := 28) cd_Mo_copies rfl (by decide) rfl ?_
      refine m_if2 (t := 41) (pc' := 31) cd_Mo_copies rfl rfl rfl (fun c28 => ?_) (fun c28 => ?_)
      · have c28 : ¬ (kd (reg i1)) = 7 := c28
        refine m_k1 (v := 0) (pc' := 42) cd_Mo_copies rfl (by decide) rfl ?_
        exact m_retz cd_Mo_copies rfl (Or.inl rfl) ⟨_, rfl, (k0 (fun q => by rw [hl_in hi1] at q; exact c28 q.2.1))⟩
      · have c28 : (kd (reg i1)) = 7 := Classical.not_not.mp c28
        refine m_ild (pc' := 32) cd_Mo_copies rfl (Or.inr ⟨_, rfl, rfl, rfl⟩) l3 rfl ?_
        refine m_if1 (t := 41) (pc' := 35) cd_Mo_copies rfl rfl rfl (fun c32 => ?_) (fun c32 => ?_)
        · have c32 : k < 0 := c32
          refine m_k1 (v := 0) (pc' := 42) cd_Mo_copies rfl (by decide) rfl ?_
          exact m_retz cd_Mo_copies rfl (Or.inl rfl) ⟨_, rfl, (k0 (fun q => Bool.noConfusion ((inR_lo c32).symm.trans q.2.2)))⟩
        · have c32 : ¬ k < 0 := c32
          refine m_ild (pc' := 36) cd_Mo_copies rfl (Or.inr ⟨_, rfl, rfl, rfl⟩) l3 rfl ?_
          refine m_ild (pc' := 38) cd_Mo_copies rfl (Or.inl ⟨rfl, rfl⟩) l4 rfl ?_
          refine m_if2 (t := 43) (pc' := 41) cd_Mo_copies rfl rfl rfl (fun c38 => ?_) (fun c38 => ?_)
          · have c38 : k ≤ 3 := c38
            refine m_k1 (v := 0) (pc' := 44) cd_Mo_copies rfl (by decide) rfl ?_
            refine m_ist (pc' := 46) cd_Mo_copies rfl (Or.inl ⟨rfl, rfl⟩) (by decide) rfl (fun lv el => ?_)
            have l0 := tm_lk el l0 rfl (by decide)
            have l1 := tm_lk el l1 rfl (by decide)
            have l2 := tm_lk el l2 rfl (by decide)
            have l3 := tm_lk el l3 rfl (by decide)
            have l4 := tm_lk el l4 rfl (by decide)
            have l5 : lv.lookup 5 = some (.int 0) := tm_lks el
            clear el
            have kx := l_mcop (sc := sc) (d := d + 1) hM hi1 et1 ht1 c28 (fun g q1 q2 => kk c4 i1 t1 rfl hi1 et1 ht1 c28 (inR_le (m := 3) (by decide) c32 c38) g q1 q2) 8 0 (A 9) rfl (fun j _ q => absurd q (by omega)) (fun j _ q => absurd q (by omega)) lv l0 l2 l5
            rw [fset_id] at kx
            exact kx
          · have c38 : ¬ k ≤ 3 := c38
            refine m_k1 (v := 0) (pc' := 42) cd_Mo_copies rfl (by decide) rfl ?_
            exact m_retz cd_Mo_copies rfl (Or.inl rfl) ⟨_, rfl, (k0 (fun q => Bool.noConfusion ((inR_gt (m := 3) (by decide) c38).symm.trans q.2.2)))⟩
set_option maxRecDepth 100000 in
theorem mo_alter {sc : tm_X} {d : Nat} {f : Nat → Int32} {A : Nat → Nat → Int32} {T : List Tm} {DL : List (Int32 × Int32)} {G Kw : Tm → Prop} {reg : Nat → Tm} {r x k v : Int32} {Q : Int32 → MS → Prop} (hM : MT f A T DL G Kw) (hR : ∀ i, i < 32 → tv T (A 45 i) (reg i)) (hl0 : T.length < 4000) (hr0 : rc (A 1) T.length < 1000) (kk : ∀ f1 A1 T', T <+: T' → T'.length ≤ T.length + 1 → rc (A1 1) T'.length ≤ rc (A 1) T.length + 1 → MT f1 A1 T' DL G Kw → (∀ k, ¬ (k = 0 ∨ k = 7) → f1 k = f k) → (∀ j, ¬ (1 ≤ j ∧ j ≤ 9) → j ≠ 45 → A1 j = A j) → (∀ i, i < 32 → tv T' (A1 45 i) ((al_spec reg r x k v).2 i)) → Q (al_spec reg r x k v).1 (f1, A1)) : mGi sc (d + 3) 261 [.ref 1482, .int r, .int x, .int k, .int v] (f, A) Q := by
  show mg sc (d + 3) 261 0 [(0, .ref 1482), (1, .int r), (2, .int x), (3, .int k), (4, .int v)] [] (f, A) _
  generalize elv : ([(0, .ref 1482), (1, .int r), (2, .int x), (3, .int k), (4, .int v)] : tm_L) = lv
  have l0 : lv.lookup 0 = some (.ref 1482) := by rw [← elv]; rfl
  have l1 : lv.lookup 1 = some (.int r) := by rw [← elv]; rfl
  have l2 : lv.lookup 2 = some (.int x) := by rw [← elv]; rfl
  have l3 : lv.lookup 3 = some (.int k) := by rw [← elv]; rfl
  have l4 : lv.lookup 4 = some (.int v) := by rw [← elv]; rfl
  clear elv
  refine m_ild (pc' := 1) cd_Mo_alter rfl (Or.inr ⟨_, rfl, rfl, rfl⟩) l3 rfl ?_
  refine m_k1 (v := 4) (pc' := 2) cd_Mo_alter rfl (by decide) rfl ?_
  refine m_if2 (t := 18) (pc' := 5) cd_Mo_alter rfl rfl rfl (fun c2 => ?_) (fun c2 => ?_)
  · have c2 : ¬ k = 4 := c2
    refine m_ald (pc' := 19) cd_Mo_alter rfl (Or.inr ⟨_, rfl, rfl, rfl⟩) l0 rfl rfl ?_
    refine m_ild (pc' := 20) cd_Mo_alter rfl (Or.inr ⟨_, rfl, rfl, rfl⟩) l1 rfl ?_
    refine m_ild (pc' := 21) cd_Mo_alter rfl (Or.inr ⟨_, rfl, rfl, rfl⟩) l2 rfl ?_
    refine m_ild (pc' := 22) cd_Mo_alter rfl (Or.inr ⟨_, rfl, rfl, rfl⟩) l3 rfl ?_
    refine m_k1 (v := 4) (pc' := 23) cd_Mo_alter rfl (by decide) rfl ?_
    refine m_ci (pc' := 26) cd_Mo_alter rfl rfl rfl rfl rfl cd_Mo_copies rfl (Nat.le_of_ble_eq_true rfl) (m_copies4 hM hR (fun hno => ?_) (fun hr32 i1 t1 ex hi1 et1 ht1 k7 hk5 g hg1 hg2 => ?_))
    · skip
      show mg _ _ _ 26 _ [.int 0] _ _
      refine m_if1 (t := 31) (pc' := 29) cd_Mo_alter rfl rfl rfl (fun c26 => ?_) (fun c26 => ?_)
      · exact absurd (show ¬ (0 : Int32) = 0 from c26) (by decide)
      · have c26 : (0 : Int32) = 0 := Classical.not_not.mp c26
        refine m_k1 (v := (-1)) (pc' := 30) cd_Mo_alter rfl (by decide) rfl ?_
        exact m_reti cd_Mo_alter rfl ⟨_, rfl, (by rw [show al_spec reg r x k v = (-1, reg) from if_neg (fun q => hno ⟨q.1, q.2.1, q.2.2.1⟩)] at kk; exact kk f A T (List.prefix_refl T) (by omega) (by omega) hM (fun _ _ => rfl) (fun _ _ _ => rfl) hR)⟩
    · skip
      subst ex
      have htl1 := tv_lt ht1
      have hTl := MT_len hM
      have hmk := MT_mk hM ht1 (Or.inr (Or.inr k7))
      have hrow := row_of hM ht1 k7
      show mg _ _ _ 26 _ [.int 1] _ _
      refine m_if1 (t := 31) (pc' := 29) cd_Mo_alter rfl rfl rfl (fun c26 => ?_) (fun c26 => ?_)
      · have c26 : ¬ (1 : Int32) = 0 := c26
        obtain ⟨i, hi, ek⟩ := inR_of (n := 5) (by decide) hk5
        subst ek
        refine m_ild (pc' := 32) cd_Mo_alter rfl (Or.inr ⟨_, rfl, rfl, rfl⟩) l3 rfl ?_
        refine m_k1 (v := 4) (pc' := 33) cd_Mo_alter rfl (by decide) rfl ?_
        refine m_if2 (t := 44) (pc' := 36) cd_Mo_alter rfl rfl rfl (fun c33 => ?_) (fun c33 => ?_)
        · have c33 : (4 : Int32) ≤ (nI i) := c33
          have hi4 : i = 4 := by have := (nI_leI (a := 4) (by decide) (by omega)).mp c33; omega
          refine m_ald (pc' := 45) cd_Mo_alter rfl (Or.inr ⟨_, rfl, rfl, rfl⟩) l0 rfl rfl ?_
          refine m_ild (pc' := 46) cd_Mo_alter rfl (Or.inr ⟨_, rfl, rfl, rfl⟩) l1 rfl ?_
          refine m_ald (pc' := 47) cd_Mo_alter rfl (Or.inr ⟨_, rfl, rfl, rfl⟩) l0 rfl rfl ?_
          refine m_k2 (v := 7) (pc' := 49) cd_Mo_alter rfl (by decide) rfl ?_
          refine m_ild (pc' := 50) cd_Mo_alter rfl (Or.inr ⟨_, rfl, rfl, rfl⟩) l3 rfl ?_
          refine m_k1 (v := 4) (pc' := 51) cd_Mo_alter rfl (by decide) rfl ?_
          refine m_if2 (t := 59) (pc' := 54) cd_Mo_alter rfl rfl rfl (fun c51 => ?_) (fun c51 => ?_)
          · have c51 : ¬ (nI i) = 4 := c51
            exact absurd (by rw [hi4]; rfl) c51
          · have c51 : (nI i) = 4 := Classical.not_not.mp c51
            refine m_ild (pc' := 56) cd_Mo_alter rfl (Or.inl ⟨rfl, rfl⟩) l4 rfl ?_
            refine m_pure (pc' := 70) (st' := [.int v, .int 7, .ref 1482, .int r, .ref 1482]) cd_Mo_alter rfl rfl (fun _ _ => rfl) ?_
            refine m_k1 (v := 0) (pc' := 71) cd_Mo_alter rfl (by decide) rfl ?_
            refine m_k1 (v := 0) (pc' := 72) cd_Mo_alter rfl (by decide) rfl ?_
            refine m_ci (pc' := 75) cd_Mo_alter rfl rfl rfl rfl rfl cd_Mo_term rfl (Nat.le_of_ble_eq_true rfl) (m_row (P0 := pt (reg i1) 0) (P1 := pt (reg i1) 1) (P2 := pt (reg i1) 2) (P3 := pt (reg i1) 3) (by exact MT_i hM rfl rfl rfl rfl rfl rfl rfl rfl rfl rfl) hl0 (by exact hr0) (hg2 0 (by decide)) (hg2 1 (by decide)) (hg2 2 (by decide)) (hg2 3 (by decide)) (fun f1 A1 T1 r1 hx1 hr1 => ?_))
            have hM1 := hx1.2.2.2
            have hR1 : ∀ i, i < 32 → tv T1 (A 45 i) (reg i) := fun i hi => tv_mono hx1.1 (hR i hi)
            show mg _ _ _ 75 _ [.int r1, .int r, .ref 1482] _ _
            have hX : tv T1 r1 (Trw v (g 0) (g 1) (g 2) (g 3) (pt (reg i1) 0) (pt (reg i1) 1) (pt (reg i1) 2) (pt (reg i1) 3)) := hr1
            rw [row_K (k := mk (reg i1)) (hg1 0 (by decide)) (hg1 1 (by decide)) (hg1 2 (by decide)) (hg1 3 (by decide)), ← hrow] at hX
            refine m_ci (pc' := 78) cd_Mo_alter rfl rfl rfl rfl rfl cd_Mo_set rfl (Nat.le_of_ble_eq_true rfl) (m_set (X := (TwK (reg i1) v)) (reg := reg) (by exact MT_i hM1 rfl rfl rfl rfl rfl rfl rfl rfl rfl rfl) hR1 hX (fun g45 hg45 => ?_))
            show mg _ _ _ 78 _ [.int ((kp reg r (TwK (reg i1) v)).1)] _ _
            have es : al_spec reg r (nI i1) (nI i) v = kp reg r (TwK (reg i1) v) := (if_pos ⟨hr32, by rw [hl_in hi1]; exact k7, hk5, fun e => absurd e c2⟩).trans (by rw [hl_in hi1, if_pos c51])
            rw [es] at kk
            exact m_reti cd_Mo_alter rfl ⟨_, rfl, (kk _ _ T1 hx1.1 hx1.2.1 hx1.2.2.1 (by exact MT_i hM1 rfl rfl rfl rfl rfl rfl rfl rfl rfl rfl) (fun k q => by have e0 : ¬ k = 0 := (by omega); have e7 : ¬ k = 7 := (by omega); simp only [mjF, e0, e7, or_self, if_false]) (fun j q q2 => by have e0 : ¬ (1 ≤ j ∧ j ≤ 8) := (by omega); have e9 : ¬ j = 9 := (by omega); simp only [fset, mjA, e0, e9, q2, if_false]) hg45)⟩
        · have c33 : ¬ (4 : Int32) ≤ (nI i) := c33
          have hi4 : i < 4 := (nI_ltI (b := 4) (by omega) (by decide)).mp (Int32.not_le.mp c33)
          refine m_ald (pc' := 37) cd_Mo_alter rfl (Or.inr ⟨_, rfl, rfl, rfl⟩) l0 rfl rfl ?_
          refine m_fR (r := 8) (a := 9) (ad := 1491) (pc' := 40) rfl rfl cd_Mo_alter rfl rfl rfl rfl rfl ?_
          refine m_ild (pc' := 41) cd_Mo_alter rfl (Or.inr ⟨_, rfl, rfl, rfl⟩) l3 rfl ?_
          refine m_ild (pc' := 43) cd_Mo_alter rfl (Or.inl ⟨rfl, rfl⟩) l4 rfl ?_
          refine m_aS (r := 8) (a := 9) (g := g) (p := i) (pc' := 44) rfl rfl cd_Mo_alter rfl rfl rfl (vp_in_nI (by omega) (by decide)) (nI_clamp (by omega)) ?_
          refine m_ald (pc' := 45) cd_Mo_alter rfl (Or.inr ⟨_, rfl, rfl, rfl⟩) l0 rfl rfl ?_
          refine m_ild (pc' := 46) cd_Mo_alter rfl (Or.inr ⟨_, rfl, rfl, rfl⟩) l1 rfl ?_
          refine m_ald (pc' := 47) cd_Mo_alter rfl (Or.inr ⟨_, rfl, rfl, rfl⟩) l0 rfl rfl ?_
          refine m_k2 (v := 7) (pc' := 49) cd_Mo_alter rfl (by decide) rfl ?_
          refine m_ild (pc' := 50) cd_Mo_alter rfl (Or.inr ⟨_, rfl, rfl, rfl⟩) l3 rfl ?_
          refine m_k1 (v := 4) (pc' := 51) cd_Mo_alter rfl (by decide) rfl ?_
          refine m_if2 (t := 59) (pc' := 54) cd_Mo_alter rfl rfl rfl (fun c51 => ?_) (fun c51 => ?_)
          · have c51 : ¬ (nI i) = 4 := c51
            refine m_ald (pc' := 60) cd_Mo_alter rfl (Or.inr ⟨_, rfl, rfl, rfl⟩) l0 rfl rfl ?_
            refine m_fR (r := 1) (a := 2) (ad := 1484) (pc' := 63) rfl rfl cd_Mo_alter rfl rfl rfl rfl rfl ?_
            refine m_ald (pc' := 64) cd_Mo_alter rfl (Or.inr ⟨_, rfl, rfl, rfl⟩) l0 rfl rfl ?_
            refine m_fR (r := 44) (a := 45) (ad := 1527) (pc' := 67) rfl rfl cd_Mo_alter rfl rfl rfl rfl rfl ?_
            refine m_ild (pc' := 68) cd_Mo_alter rfl (Or.inr ⟨_, rfl, rfl, rfl⟩) l2 rfl ?_
            refine m_aI (r := 44) (a := 45) (g := (A 45)) (x := (nI t1)) (pc' := 69) rfl rfl cd_Mo_alter rfl rfl rfl (vp_in_nI (by omega) (by decide)) (by rw [(nI_clamp (by omega))]; exact et1) ?_
            refine m_aI (r := 1) (a := 2) (g := (A 2)) (x := (mk (reg i1))) (pc' := 70) rfl rfl cd_Mo_alter rfl rfl rfl (vp_in_nI (by omega) (by decide)) ((congrArg (A 2) (nI_clamp (by omega))).trans hmk) ?_
            refine m_k1 (v := 0) (pc' := 71) cd_Mo_alter rfl (by decide) rfl ?_
            refine m_k1 (v := 0) (pc' := 72) cd_Mo_alter rfl (by decide) rfl ?_
            refine m_ci (pc' := 75) cd_Mo_alter rfl rfl rfl rfl rfl cd_Mo_term rfl (Nat.le_of_ble_eq_true rfl) (m_row (P0 := pt (reg i1) 0) (P1 := pt (reg i1) 1) (P2 := pt (reg i1) 2) (P3 := pt (reg i1) 3) (by exact MT_i hM rfl rfl rfl rfl rfl rfl rfl rfl rfl rfl) hl0 (by exact hr0) (by show tv T (upd g i v 4) _; rw [upd_ne (by omega)]; exact hg2 0 (by decide)) (by show tv T (upd g i v 5) _; rw [upd_ne (by omega)]; exact hg2 1 (by decide)) (by show tv T (upd g i v 6) _; rw [upd_ne (by omega)]; exact hg2 2 (by decide)) (by show tv T (upd g i v 7) _; rw [upd_ne (by omega)]; exact hg2 3 (by decide)) (fun f1 A1 T1 r1 hx1 hr1 => ?_))
            have hM1 := hx1.2.2.2
            have hR1 : ∀ i, i < 32 → tv T1 (A 45 i) (reg i) := fun i hi => tv_mono hx1.1 (hR i hi)
            show mg _ _ _ 75 _ [.int r1, .int r, .ref 1482] _ _
            have hX : tv T1 r1 (Trw (mk (reg i1)) (upd g i v 0) (upd g i v 1) (upd g i v 2) (upd g i v 3) (pt (reg i1) 0) (pt (reg i1) 1) (pt (reg i1) 2) (pt (reg i1) 3)) := hr1
            rw [row_N hi4 (hg1 0 (by decide)) (hg1 1 (by decide)) (hg1 2 (by decide)) (hg1 3 (by decide)), ← hrow] at hX
            refine m_ci (pc' := 78) cd_Mo_alter rfl rfl rfl rfl rfl cd_Mo_set rfl (Nat.le_of_ble_eq_true rfl) (m_set (X := (TwN (reg i1) i v)) (reg := reg) (by exact MT_i hM1 rfl rfl rfl rfl rfl rfl rfl rfl rfl rfl) hR1 hX (fun g45 hg45 => ?_))
            show mg _ _ _ 78 _ [.int ((kp reg r (TwN (reg i1) i v)).1)] _ _
            have es : al_spec reg r (nI i1) (nI i) v = kp reg r (TwN (reg i1) i v) := (if_pos ⟨hr32, by rw [hl_in hi1]; exact k7, hk5, fun e => absurd e c51⟩).trans (by rw [hl_in hi1, if_neg c51, nI_clamp (by omega)])
            rw [es] at kk
            exact m_reti cd_Mo_alter rfl ⟨_, rfl, (kk _ _ T1 hx1.1 hx1.2.1 hx1.2.2.1 (by exact MT_i hM1 rfl rfl rfl rfl rfl rfl rfl rfl rfl rfl) (fun k q => by have e0 : ¬ k = 0 := (by omega); have e7 : ¬ k = 7 := (by omega); simp only [mjF, e0, e7, or_self, if_false]) (fun j q q2 => by have e0 : ¬ (1 ≤ j ∧ j ≤ 8) := (by omega); have e9 : ¬ j = 9 := (by omega); simp only [fset, mjA, e0, e9, q2, if_false]) hg45)⟩
          · have c51 : (nI i) = 4 := Classical.not_not.mp c51
            exact absurd c51 (fun e => absurd (nI_cxl (b := 4) (by omega) (by decide) e) (by omega))
      · exact absurd (show ¬ (¬ (1 : Int32) = 0) from c26) (by decide)
  · have c2 : k = 4 := Classical.not_not.mp c2
    refine m_ild (pc' := 7) cd_Mo_alter rfl (Or.inl ⟨rfl, rfl⟩) l4 rfl ?_
    refine m_k1 (v := 1) (pc' := 8) cd_Mo_alter rfl (by decide) rfl ?_
    refine m_if2 (t := 29) (pc' := 11) cd_Mo_alter rfl rfl rfl (fun c8 => ?_) (fun c8 => ?_)
    · have c8 : v < 1 := c8
      refine m_k1 (v := (-1)) (pc' := 30) cd_Mo_alter rfl (by decide) rfl ?_
      exact m_reti cd_Mo_alter rfl ⟨_, rfl, (by rw [show al_spec reg r x k v = (-1, reg) from if_neg (fun q => (q.2.2.2 c2).1 c8)] at kk; exact kk f A T (List.prefix_refl T) (by omega) (by omega) hM (fun _ _ => rfl) (fun _ _ _ => rfl) hR)⟩
    · have c8 : ¬ v < 1 := c8
      refine m_ild (pc' := 13) cd_Mo_alter rfl (Or.inl ⟨rfl, rfl⟩) l4 rfl ?_
      refine m_k2 (v := 7) (pc' := 15) cd_Mo_alter rfl (by decide) rfl ?_
      refine m_if2 (t := 29) (pc' := 18) cd_Mo_alter rfl rfl rfl (fun c15 => ?_) (fun c15 => ?_)
      · have c15 : (7 : Int32) < v := c15
        refine m_k1 (v := (-1)) (pc' := 30) cd_Mo_alter rfl (by decide) rfl ?_
        exact m_reti cd_Mo_alter rfl ⟨_, rfl, (by rw [show al_spec reg r x k v = (-1, reg) from if_neg (fun q => absurd (q.2.2.2 c2).2 (Int32.not_le.mpr c15))] at kk; exact kk f A T (List.prefix_refl T) (by omega) (by omega) hM (fun _ _ => rfl) (fun _ _ _ => rfl) hR)⟩
      · have c15 : ¬ (7 : Int32) < v := c15
        refine m_ald (pc' := 19) cd_Mo_alter rfl (Or.inr ⟨_, rfl, rfl, rfl⟩) l0 rfl rfl ?_
        refine m_ild (pc' := 20) cd_Mo_alter rfl (Or.inr ⟨_, rfl, rfl, rfl⟩) l1 rfl ?_
        refine m_ild (pc' := 21) cd_Mo_alter rfl (Or.inr ⟨_, rfl, rfl, rfl⟩) l2 rfl ?_
        refine m_ild (pc' := 22) cd_Mo_alter rfl (Or.inr ⟨_, rfl, rfl, rfl⟩) l3 rfl ?_
        refine m_k1 (v := 4) (pc' := 23) cd_Mo_alter rfl (by decide) rfl ?_
        refine m_ci (pc' := 26) cd_Mo_alter rfl rfl rfl rfl rfl cd_Mo_copies rfl (Nat.le_of_ble_eq_true rfl) (m_copies4 hM hR (fun hno => ?_) (fun hr32 i1 t1 ex hi1 et1 ht1 k7 hk5 g hg1 hg2 => ?_))
        · skip
          show mg _ _ _ 26 _ [.int 0] _ _
          refine m_if1 (t := 31) (pc' := 29) cd_Mo_alter rfl rfl rfl (fun c26 => ?_) (fun c26 => ?_)
          · exact absurd (show ¬ (0 : Int32) = 0 from c26) (by decide)
          · have c26 : (0 : Int32) = 0 := Classical.not_not.mp c26
            refine m_k1 (v := (-1)) (pc' := 30) cd_Mo_alter rfl (by decide) rfl ?_
            exact m_reti cd_Mo_alter rfl ⟨_, rfl, (by rw [show al_spec reg r x k v = (-1, reg) from if_neg (fun q => hno ⟨q.1, q.2.1, q.2.2.1⟩)] at kk; exact kk f A T (List.prefix_refl T) (by omega) (by omega) hM (fun _ _ => rfl) (fun _ _ _ => rfl) hR)⟩
        · skip
          subst ex
          have htl1 := tv_lt ht1
          have hTl := MT_len hM
          have hmk := MT_mk hM ht1 (Or.inr (Or.inr k7))
          have hrow := row_of hM ht1 k7
          show mg _ _ _ 26 _ [.int 1] _ _
          refine m_if1 (t := 31) (pc' := 29) cd_Mo_alter rfl rfl rfl (fun c26 => ?_) (fun c26 => ?_)
          · have c26 : ¬ (1 : Int32) = 0 := c26
            obtain ⟨i, hi, ek⟩ := inR_of (n := 5) (by decide) hk5
            subst ek
            refine m_ild (pc' := 32) cd_Mo_alter rfl (Or.inr ⟨_, rfl, rfl, rfl⟩) l3 rfl ?_
            refine m_k1 (v := 4) (pc' := 33) cd_Mo_alter rfl (by decide) rfl ?_
            refine m_if2 (t := 44) (pc' := 36) cd_Mo_alter rfl rfl rfl (fun c33 => ?_) (fun c33 => ?_)
            · have c33 : (4 : Int32) ≤ (nI i) := c33
              have hi4 : i = 4 := by have := (nI_leI (a := 4) (by decide) (by omega)).mp c33; omega
              refine m_ald (pc' := 45) cd_Mo_alter rfl (Or.inr ⟨_, rfl, rfl, rfl⟩) l0 rfl rfl ?_
              refine m_ild (pc' := 46) cd_Mo_alter rfl (Or.inr ⟨_, rfl, rfl, rfl⟩) l1 rfl ?_
              refine m_ald (pc' := 47) cd_Mo_alter rfl (Or.inr ⟨_, rfl, rfl, rfl⟩) l0 rfl rfl ?_
              refine m_k2 (v := 7) (pc' := 49) cd_Mo_alter rfl (by decide) rfl ?_
              refine m_ild (pc' := 50) cd_Mo_alter rfl (Or.inr ⟨_, rfl, rfl, rfl⟩) l3 rfl ?_
              refine m_k1 (v := 4) (pc' := 51) cd_Mo_alter rfl (by decide) rfl ?_
              refine m_if2 (t := 59) (pc' := 54) cd_Mo_alter rfl rfl rfl (fun c51 => ?_) (fun c51 => ?_)
              · have c51 : ¬ (nI i) = 4 := c51
                exact absurd (by rw [hi4]; rfl) c51
              · have c51 : (nI i) = 4 := Classical.not_not.mp c51
                refine m_ild (pc' := 56) cd_Mo_alter rfl (Or.inl ⟨rfl, rfl⟩) l4 rfl ?_
                refine m_pure (pc' := 70) (st' := [.int v, .int 7, .ref 1482, .int r, .ref 1482]) cd_Mo_alter rfl rfl (fun _ _ => rfl) ?_
                refine m_k1 (v := 0) (pc' := 71) cd_Mo_alter rfl (by decide) rfl ?_
                refine m_k1 (v := 0) (pc' := 72) cd_Mo_alter rfl (by decide) rfl ?_
                refine m_ci (pc' := 75) cd_Mo_alter rfl rfl rfl rfl rfl cd_Mo_term rfl (Nat.le_of_ble_eq_true rfl) (m_row (P0 := pt (reg i1) 0) (P1 := pt (reg i1) 1) (P2 := pt (reg i1) 2) (P3 := pt (reg i1) 3) (by exact MT_i hM rfl rfl rfl rfl rfl rfl rfl rfl rfl rfl) hl0 (by exact hr0) (hg2 0 (by decide)) (hg2 1 (by decide)) (hg2 2 (by decide)) (hg2 3 (by decide)) (fun f1 A1 T1 r1 hx1 hr1 => ?_))
                have hM1 := hx1.2.2.2
                have hR1 : ∀ i, i < 32 → tv T1 (A 45 i) (reg i) := fun i hi => tv_mono hx1.1 (hR i hi)
                show mg _ _ _ 75 _ [.int r1, .int r, .ref 1482] _ _
                have hX : tv T1 r1 (Trw v (g 0) (g 1) (g 2) (g 3) (pt (reg i1) 0) (pt (reg i1) 1) (pt (reg i1) 2) (pt (reg i1) 3)) := hr1
                rw [row_K (k := mk (reg i1)) (hg1 0 (by decide)) (hg1 1 (by decide)) (hg1 2 (by decide)) (hg1 3 (by decide)), ← hrow] at hX
                refine m_ci (pc' := 78) cd_Mo_alter rfl rfl rfl rfl rfl cd_Mo_set rfl (Nat.le_of_ble_eq_true rfl) (m_set (X := (TwK (reg i1) v)) (reg := reg) (by exact MT_i hM1 rfl rfl rfl rfl rfl rfl rfl rfl rfl rfl) hR1 hX (fun g45 hg45 => ?_))
                show mg _ _ _ 78 _ [.int ((kp reg r (TwK (reg i1) v)).1)] _ _
                have es : al_spec reg r (nI i1) (nI i) v = kp reg r (TwK (reg i1) v) := (if_pos ⟨hr32, by rw [hl_in hi1]; exact k7, hk5, fun _ => ⟨c8, Int32.not_lt.mp c15⟩⟩).trans (by rw [hl_in hi1, if_pos c51])
                rw [es] at kk
                exact m_reti cd_Mo_alter rfl ⟨_, rfl, (kk _ _ T1 hx1.1 hx1.2.1 hx1.2.2.1 (by exact MT_i hM1 rfl rfl rfl rfl rfl rfl rfl rfl rfl rfl) (fun k q => by have e0 : ¬ k = 0 := (by omega); have e7 : ¬ k = 7 := (by omega); simp only [mjF, e0, e7, or_self, if_false]) (fun j q q2 => by have e0 : ¬ (1 ≤ j ∧ j ≤ 8) := (by omega); have e9 : ¬ j = 9 := (by omega); simp only [fset, mjA, e0, e9, q2, if_false]) hg45)⟩
            · have c33 : ¬ (4 : Int32) ≤ (nI i) := c33
              have hi4 : i < 4 := (nI_ltI (b := 4) (by omega) (by decide)).mp (Int32.not_le.mp c33)
              refine m_ald (pc' := 37) cd_Mo_alter rfl (Or.inr ⟨_, rfl, rfl, rfl⟩) l0 rfl rfl ?_
              refine m_fR (r := 8) (a := 9) (ad := 1491) (pc' := 40) rfl rfl cd_Mo_alter rfl rfl rfl rfl rfl ?_
              refine m_ild (pc' := 41) cd_Mo_alter rfl (Or.inr ⟨_, rfl, rfl, rfl⟩) l3 rfl ?_
              refine m_ild (pc' := 43) cd_Mo_alter rfl (Or.inl ⟨rfl, rfl⟩) l4 rfl ?_
              refine m_aS (r := 8) (a := 9) (g := g) (p := i) (pc' := 44) rfl rfl cd_Mo_alter rfl rfl rfl (vp_in_nI (by omega) (by decide)) (nI_clamp (by omega)) ?_
              refine m_ald (pc' := 45) cd_Mo_alter rfl (Or.inr ⟨_, rfl, rfl, rfl⟩) l0 rfl rfl ?_
              refine m_ild (pc' := 46) cd_Mo_alter rfl (Or.inr ⟨_, rfl, rfl, rfl⟩) l1 rfl ?_
              refine m_ald (pc' := 47) cd_Mo_alter rfl (Or.inr ⟨_, rfl, rfl, rfl⟩) l0 rfl rfl ?_
              refine m_k2 (v := 7) (pc' := 49) cd_Mo_alter rfl (by decide) rfl ?_
              refine m_ild (pc' := 50) cd_Mo_alter rfl (Or.inr ⟨_, rfl, rfl, rfl⟩) l3 rfl ?_
              refine m_k1 (v := 4) (pc' := 51) cd_Mo_alter rfl (by decide) rfl ?_
              refine m_if2 (t := 59) (pc' := 54) cd_Mo_alter rfl rfl rfl (fun c51 => ?_) (fun c51 => ?_)
              · have c51 : ¬ (nI i) = 4 := c51
                refine m_ald (pc' := 60) cd_Mo_alter rfl (Or.inr ⟨_, rfl, rfl, rfl⟩) l0 rfl rfl ?_
                refine m_fR (r := 1) (a := 2) (ad := 1484) (pc' := 63) rfl rfl cd_Mo_alter rfl rfl rfl rfl rfl ?_
                refine m_ald (pc' := 64) cd_Mo_alter rfl (Or.inr ⟨_, rfl, rfl, rfl⟩) l0 rfl rfl ?_
                refine m_fR (r := 44) (a := 45) (ad := 1527) (pc' := 67) rfl rfl cd_Mo_alter rfl rfl rfl rfl rfl ?_
                refine m_ild (pc' := 68) cd_Mo_alter rfl (Or.inr ⟨_, rfl, rfl, rfl⟩) l2 rfl ?_
                refine m_aI (r := 44) (a := 45) (g := (A 45)) (x := (nI t1)) (pc' := 69) rfl rfl cd_Mo_alter rfl rfl rfl (vp_in_nI (by omega) (by decide)) (by rw [(nI_clamp (by omega))]; exact et1) ?_
                refine m_aI (r := 1) (a := 2) (g := (A 2)) (x := (mk (reg i1))) (pc' := 70) rfl rfl cd_Mo_alter rfl rfl rfl (vp_in_nI (by omega) (by decide)) ((congrArg (A 2) (nI_clamp (by omega))).trans hmk) ?_
                refine m_k1 (v := 0) (pc' := 71) cd_Mo_alter rfl (by decide) rfl ?_
                refine m_k1 (v := 0) (pc' := 72) cd_Mo_alter rfl (by decide) rfl ?_
                refine m_ci (pc' := 75) cd_Mo_alter rfl rfl rfl rfl rfl cd_Mo_term rfl (Nat.le_of_ble_eq_true rfl) (m_row (P0 := pt (reg i1) 0) (P1 := pt (reg i1) 1) (P2 := pt (reg i1) 2) (P3 := pt (reg i1) 3) (by exact MT_i hM rfl rfl rfl rfl rfl rfl rfl rfl rfl rfl) hl0 (by exact hr0) (by show tv T (upd g i v 4) _; rw [upd_ne (by omega)]; exact hg2 0 (by decide)) (by show tv T (upd g i v 5) _; rw [upd_ne (by omega)]; exact hg2 1 (by decide)) (by show tv T (upd g i v 6) _; rw [upd_ne (by omega)]; exact hg2 2 (by decide)) (by show tv T (upd g i v 7) _; rw [upd_ne (by omega)]; exact hg2 3 (by decide)) (fun f1 A1 T1 r1 hx1 hr1 => ?_))
                have hM1 := hx1.2.2.2
                have hR1 : ∀ i, i < 32 → tv T1 (A 45 i) (reg i) := fun i hi => tv_mono hx1.1 (hR i hi)
                show mg _ _ _ 75 _ [.int r1, .int r, .ref 1482] _ _
                have hX : tv T1 r1 (Trw (mk (reg i1)) (upd g i v 0) (upd g i v 1) (upd g i v 2) (upd g i v 3) (pt (reg i1) 0) (pt (reg i1) 1) (pt (reg i1) 2) (pt (reg i1) 3)) := hr1
                rw [row_N hi4 (hg1 0 (by decide)) (hg1 1 (by decide)) (hg1 2 (by decide)) (hg1 3 (by decide)), ← hrow] at hX
                refine m_ci (pc' := 78) cd_Mo_alter rfl rfl rfl rfl rfl cd_Mo_set rfl (Nat.le_of_ble_eq_true rfl) (m_set (X := (TwN (reg i1) i v)) (reg := reg) (by exact MT_i hM1 rfl rfl rfl rfl rfl rfl rfl rfl rfl rfl) hR1 hX (fun g45 hg45 => ?_))
                show mg _ _ _ 78 _ [.int ((kp reg r (TwN (reg i1) i v)).1)] _ _
                have es : al_spec reg r (nI i1) (nI i) v = kp reg r (TwN (reg i1) i v) := (if_pos ⟨hr32, by rw [hl_in hi1]; exact k7, hk5, fun e => absurd e c51⟩).trans (by rw [hl_in hi1, if_neg c51, nI_clamp (by omega)])
                rw [es] at kk
                exact m_reti cd_Mo_alter rfl ⟨_, rfl, (kk _ _ T1 hx1.1 hx1.2.1 hx1.2.2.1 (by exact MT_i hM1 rfl rfl rfl rfl rfl rfl rfl rfl rfl rfl) (fun k q => by have e0 : ¬ k = 0 := (by omega); have e7 : ¬ k = 7 := (by omega); simp only [mjF, e0, e7, or_self, if_false]) (fun j q q2 => by have e0 : ¬ (1 ≤ j ∧ j ≤ 8) := (by omega); have e9 : ¬ j = 9 := (by omega); simp only [fset, mjA, e0, e9, q2, if_false]) hg45)⟩
              · have c51 : (nI i) = 4 := Classical.not_not.mp c51
                exact absurd c51 (fun e => absurd (nI_cxl (b := 4) (by omega) (by decide) e) (by omega))
          · exact absurd (show ¬ (¬ (1 : Int32) = 0) from c26) (by decide)
