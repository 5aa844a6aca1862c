/-! The reference: prekeyAt, onceOf -/
theorem mF_end {f f' : Nat → Int32} {A A' : Nat → Nat → Int32} {Q : MS → Prop} (h1 : ∀ k, ¬ (k = 0 ∨ k = 7) → f' k = f k) (h2 : ∀ j, ¬ (1 ≤ j ∧ j ≤ 8) → A' j = A j) (h : Q (mjF f' f, mjA A' A)) : Q (f', A') := by
  rw [mjF_of h1, mjA_of h2] at h
  exact h
theorem Tpub_nz (a : Tm) : Tpub a ≠ tz := fun e => nomatch e
theorem pk_find0 {K0 K1 : PK} {A : Tm} (h : 0 < K0.2.1 ∧ Tpub K0.1 = A) : pk_find K0 K1 A = some false := cif_t h
theorem pk_find1 {K0 K1 : PK} {A : Tm} (h0 : ¬ (0 < K0.2.1 ∧ Tpub K0.1 = A)) (h : 0 < K1.2.1 ∧ Tpub K1.1 = A) : pk_find K0 K1 A = some true := (cif_f h0).trans (cif_t h)
theorem pk_findN {K0 K1 : PK} {A : Tm} (h0 : ¬ (0 < K0.2.1 ∧ Tpub K0.1 = A)) (h : ¬ (0 < K1.2.1 ∧ Tpub K1.1 = A)) : pk_find K0 K1 A = none := (cif_f h0).trans (cif_f h)
theorem pk_find_s {K0 K1 : PK} {A : Tm} {b : Bool} (h : pk_find K0 K1 A = some b) : 0 < (pk_of K0 K1 b).2.1 ∧ Tpub (pk_of K0 K1 b).1 = A := by
  unfold pk_find at h
  by_cases c0 : 0 < K0.2.1 ∧ Tpub K0.1 = A
  · rw [cif_t c0] at h
    cases h
    exact c0
  · rw [cif_f c0] at h
    by_cases c1 : 0 < K1.2.1 ∧ Tpub K1.1 = A
    · rw [cif_t c1] at h
      cases h
      exact c1
    · rw [cif_f c1] at h
      cases h
theorem on_find_s {A : Tm} : ∀ {l : List (Tm × Int32)} {i : Nat}, on_find A l = some i → ∃ e, l[i]? = some e ∧ Tpub e.1 = A
  | [], i, h => by cases h
  | e :: l, i, h => by
    unfold on_find at h
    by_cases c : Tpub e.1 = A
    · rw [cif_t c] at h
      cases h
      exact ⟨e, rfl, c⟩
    · rw [cif_f c] at h
      cases h2 : on_find A l with
      | none => rw [h2] at h; cases h
      | some j =>
        rw [h2] at h
        cases h
        obtain ⟨e', he, h3⟩ := on_find_s (l := l) h2
        exact ⟨e', he, h3⟩
theorem qPk_of {w : Nat → Int32} {T : List Tm} {K0 K1 : PK} (h0 : qPk w T 0 K0) (h1 : qPk w T 7 K1) (b : Bool) : qPk w T (7 * sh b) (pk_of K0 K1 b) := by
  cases b
  · exact h0
  · exact h1
set_option maxRecDepth 100000 in
theorem m_prekeyAt {sc : tm_X} {d : Nat} {f : Nat → Int32} {A : Nat → Nat → Int32} {T : List Tm} {DL : List (Int32 × Int32)} {G Kw : Tm → Prop} {K0 K1 : PK} {x : Int32} {P : Tm} {Q : Int32 → MS → Prop} (hM : MT f A T DL G Kw) (hl : T.length + 2 ≤ 4000) (hr : rc (A 1) T.length < 1000) (hK0 : qPk (A 15) T 0 K0) (hK1 : qPk (A 15) T 7 K1) (z0 : 0 < K0.2.1 ↔ K0.1 ≠ tz) (z1 : 0 < K1.2.1 ↔ K1.1 ≠ tz) (d0 : 0 < K0.2.1 → kd K0.1 = 1) (d1 : 0 < K1.2.1 → kd K1.1 = 1) (hx : tv T x P) (k0 : pk_find K0 K1 P = none → ∀ f1 A1 T1, mx f f1 A A1 T T1 2 0 DL G Kw → Q (-1) (mjF f1 f, mjA A1 A)) (kk : ∀ b, pk_find K0 K1 P = some b → ∀ f1 A1 T1, mx f f1 A A1 T T1 2 0 DL G Kw → Q (nI (7 * sh b)) (mjF f1 f, mjA A1 A)) : mGi sc (d + 4) 234 [.ref 1482, .int x] (f, A) Q := by
  have hTl := MT_len hM
  have g0 := hK0.1.1
  have g1 := hK1.1.1
  show mg sc (d + 4) 234 0 [(0, .ref 1482), (1, .int x)] [] (f, A) _
  generalize elv : ([(0, .ref 1482), (1, .int x)] : tm_L) = lv
  have l0 : lv.lookup 0 = some (.ref 1482) := by rw [← elv]; rfl
  have l1 : lv.lookup 1 = some (.int x) := by rw [← elv]; rfl
  clear elv
  refine m_ald (pc' := 1) cd_Mo_prekeyAt rfl (Or.inr ⟨_, rfl, rfl, rfl⟩) l0 rfl rfl ?_
  refine m_fR (r := 14) (a := 15) (ad := 1497) (pc' := 4) rfl rfl cd_Mo_prekeyAt rfl rfl rfl rfl rfl ?_
  refine m_k1 (v := 0) (pc' := 5) cd_Mo_prekeyAt rfl (by decide) rfl ?_
  refine m_aI (r := 14) (a := 15) (g := (A 15)) (x := ((A 15) 0)) (pc' := 6) rfl rfl cd_Mo_prekeyAt rfl rfl rfl (vp_in_nI (n := 0) (by decide) (by decide)) (congrArg (A 15) (show (0 : Int32).toNatClampNeg = 0 by decide)) ?_
  refine m_if1 (t := 27) (pc' := 9) cd_Mo_prekeyAt rfl rfl rfl (fun c6 => ?_) (fun c6 => ?_)
  · have c6 : ((A 15) 0) = 0 := c6
    refine m_ald (pc' := 28) cd_Mo_prekeyAt rfl (Or.inr ⟨_, rfl, rfl, rfl⟩) l0 rfl rfl ?_
    refine m_fR (r := 14) (a := 15) (ad := 1497) (pc' := 31) rfl rfl cd_Mo_prekeyAt rfl rfl rfl rfl rfl ?_
    refine m_k2 (v := 7) (pc' := 33) cd_Mo_prekeyAt rfl (by decide) rfl ?_
    refine m_aI (r := 14) (a := 15) (g := (A 15)) (x := ((A 15) 7)) (pc' := 34) rfl rfl cd_Mo_prekeyAt rfl rfl rfl (vp_in_nI (n := 7) (by decide) (by decide)) (congrArg (A 15) (show (7 : Int32).toNatClampNeg = 7 by decide)) ?_
    refine m_if1 (t := 57) (pc' := 37) cd_Mo_prekeyAt rfl rfl rfl (fun c34 => ?_) (fun c34 => ?_)
    · have c34 : ((A 15) 7) = 0 := c34
      refine m_k1 (v := (-1)) (pc' := 58) cd_Mo_prekeyAt rfl (by decide) rfl ?_
      exact m_reti cd_Mo_prekeyAt rfl ⟨_, rfl, (mF_end (Q := Q _) (f := f) (A := A) (fun _ _ => rfl) (fun _ _ => rfl) (k0 (pk_findN (fun q => z0.mp q.1 ((MT_0 hM g0).mp c6)) (fun q => z1.mp q.1 ((MT_0 hM g1).mp c34))) _ _ _ ⟨(List.prefix_refl T), by omega, (by show rc (A 1) _ ≤ _; omega), (by exact MT_i hM rfl rfl rfl rfl rfl rfl rfl rfl rfl rfl)⟩))⟩
    · have c34 : ¬ ((A 15) 7) = 0 := c34
      refine m_ald (pc' := 38) cd_Mo_prekeyAt rfl (Or.inr ⟨_, rfl, rfl, rfl⟩) l0 rfl rfl ?_
      refine m_ald (pc' := 39) cd_Mo_prekeyAt rfl (Or.inr ⟨_, rfl, rfl, rfl⟩) l0 rfl rfl ?_
      refine m_fR (r := 14) (a := 15) (ad := 1497) (pc' := 42) rfl rfl cd_Mo_prekeyAt rfl rfl rfl rfl rfl ?_
      refine m_k2 (v := 7) (pc' := 44) cd_Mo_prekeyAt rfl (by decide) rfl ?_
      refine m_aI (r := 14) (a := 15) (g := (A 15)) (x := ((A 15) 7)) (pc' := 45) rfl rfl cd_Mo_prekeyAt rfl rfl rfl (vp_in_nI (n := 7) (by decide) (by decide)) (congrArg (A 15) (show (7 : Int32).toNatClampNeg = 7 by decide)) ?_
      refine m_ci (pc' := 48) cd_Mo_prekeyAt rfl rfl rfl rfl rfl cd_Mo_publicOf rfl (Nat.le_of_ble_eq_true rfl) (m_publicOf (by exact MT_i hM rfl rfl rfl rfl rfl rfl rfl rfl rfl rfl) (by omega) (by show rc (A 1) T.length < 1000; omega) g1 (d1 (z1.mpr (fun q => c34 ((MT_0 hM g1).mpr q)))) (fun f1 A1 T1 r1 hx1 hr1 => ?_))
      obtain ⟨p1, q1, s1, hM1⟩ := hx1
      have hM1 : MT f1 A1 T1 _ _ _ := MT_i hM1 rfl rfl rfl rfl rfl rfl rfl rfl rfl rfl
      have s1 : rc (A1 1) T1.length ≤ rc (A 1) T.length + 0 := s1
      show mg _ _ _ 48 _ [.int r1] _ _
      refine m_ild (pc' := 49) cd_Mo_prekeyAt rfl (Or.inr ⟨_, rfl, rfl, rfl⟩) l1 rfl ?_
      refine m_if2 (t := 57) (pc' := 52) cd_Mo_prekeyAt rfl rfl rfl (fun c49 => ?_) (fun c49 => ?_)
      · have c49 : ¬ r1 = x := c49
        refine m_k1 (v := (-1)) (pc' := 58) cd_Mo_prekeyAt rfl (by decide) rfl ?_
        exact m_reti cd_Mo_prekeyAt rfl ⟨_, rfl, (mF_end (Q := Q _) (f := f) (A := A) (fun k q => by simp only [mjF, q, if_false]) (fun j q => by simp only [mjA, q, if_false]) (k0 (pk_findN (fun q => z0.mp q.1 ((MT_0 hM g0).mp c6)) (fun q => c49 ((MT_eq hM1 hr1 (tv_mono p1 hx)).mpr q.2))) _ _ _ ⟨p1, by omega, (by show rc (A1 1) _ ≤ _; omega), (by exact MT_i hM1 rfl rfl rfl rfl rfl rfl rfl rfl rfl rfl)⟩))⟩
      · have c49 : r1 = x := Classical.not_not.mp c49
        refine m_k2 (v := 7) (pc' := 54) cd_Mo_prekeyAt rfl (by decide) rfl ?_
        refine m_pure (pc' := 58) (st' := [.int 7]) cd_Mo_prekeyAt rfl rfl (fun _ _ => rfl) ?_
        exact m_reti cd_Mo_prekeyAt rfl ⟨_, rfl, (mF_end (Q := Q _) (f := f) (A := A) (fun k q => by simp only [mjF, q, if_false]) (fun j q => by simp only [mjA, q, if_false]) (kk true (pk_find1 (fun q => z0.mp q.1 ((MT_0 hM g0).mp c6)) ⟨z1.mpr (fun q => c34 ((MT_0 hM g1).mpr q)), (MT_eq hM1 hr1 (tv_mono p1 hx)).mp c49⟩) _ _ _ ⟨p1, by omega, (by show rc (A1 1) _ ≤ _; omega), (by exact MT_i hM1 rfl rfl rfl rfl rfl rfl rfl rfl rfl rfl)⟩))⟩
  · have c6 : ¬ ((A 15) 0) = 0 := c6
    refine m_ald (pc' := 10) cd_Mo_prekeyAt rfl (Or.inr ⟨_, rfl, rfl, rfl⟩) l0 rfl rfl ?_
    refine m_ald (pc' := 11) cd_Mo_prekeyAt rfl (Or.inr ⟨_, rfl, rfl, rfl⟩) l0 rfl rfl ?_
    refine m_fR (r := 14) (a := 15) (ad := 1497) (pc' := 14) rfl rfl cd_Mo_prekeyAt rfl rfl rfl rfl rfl ?_
    refine m_k1 (v := 0) (pc' := 15) cd_Mo_prekeyAt rfl (by decide) rfl ?_
    refine m_aI (r := 14) (a := 15) (g := (A 15)) (x := ((A 15) 0)) (pc' := 16) rfl rfl cd_Mo_prekeyAt rfl rfl rfl (vp_in_nI (n := 0) (by decide) (by decide)) (congrArg (A 15) (show (0 : Int32).toNatClampNeg = 0 by decide)) ?_
    refine m_ci (pc' := 19) cd_Mo_prekeyAt rfl rfl rfl rfl rfl cd_Mo_publicOf rfl (Nat.le_of_ble_eq_true rfl) (m_publicOf (by exact MT_i hM rfl rfl rfl rfl rfl rfl rfl rfl rfl rfl) (by omega) (by show rc (A 1) T.length < 1000; omega) g0 (d0 (z0.mpr (fun q => c6 ((MT_0 hM g0).mpr q)))) (fun f1 A1 T1 r1 hx1 hr1 => ?_))
    obtain ⟨p1, q1, s1, hM1⟩ := hx1
    have hM1 : MT f1 A1 T1 _ _ _ := MT_i hM1 rfl rfl rfl rfl rfl rfl rfl rfl rfl rfl
    have s1 : rc (A1 1) T1.length ≤ rc (A 1) T.length + 0 := s1
    show mg _ _ _ 19 _ [.int r1] _ _
    refine m_ild (pc' := 20) cd_Mo_prekeyAt rfl (Or.inr ⟨_, rfl, rfl, rfl⟩) l1 rfl ?_
    refine m_if2 (t := 27) (pc' := 23) cd_Mo_prekeyAt rfl rfl rfl (fun c20 => ?_) (fun c20 => ?_)
    · have c20 : ¬ r1 = x := c20
      refine m_ald (pc' := 28) cd_Mo_prekeyAt rfl (Or.inr ⟨_, rfl, rfl, rfl⟩) l0 rfl rfl ?_
      refine m_fR (r := 14) (a := 15) (ad := 1497) (pc' := 31) rfl rfl cd_Mo_prekeyAt rfl rfl rfl rfl rfl ?_
      refine m_k2 (v := 7) (pc' := 33) cd_Mo_prekeyAt rfl (by decide) rfl ?_
      refine m_aI (r := 14) (a := 15) (g := (A 15)) (x := ((A 15) 7)) (pc' := 34) rfl rfl cd_Mo_prekeyAt rfl rfl rfl (vp_in_nI (n := 7) (by decide) (by decide)) (congrArg (A 15) (show (7 : Int32).toNatClampNeg = 7 by decide)) ?_
      refine m_if1 (t := 57) (pc' := 37) cd_Mo_prekeyAt rfl rfl rfl (fun c34 => ?_) (fun c34 => ?_)
      · have c34 : ((A 15) 7) = 0 := c34
        refine m_k1 (v := (-1)) (pc' := 58) cd_Mo_prekeyAt rfl (by decide) rfl ?_
        exact m_reti cd_Mo_prekeyAt rfl ⟨_, rfl, (mF_end (Q := Q _) (f := f) (A := A) (fun k q => by simp only [mjF, q, if_false]) (fun j q => by simp only [mjA, q, if_false]) (k0 (pk_findN (fun q => c20 ((MT_eq hM1 hr1 (tv_mono p1 hx)).mpr q.2)) (fun q => z1.mp q.1 ((MT_0 hM g1).mp c34))) _ _ _ ⟨p1, by omega, (by show rc (A1 1) _ ≤ _; omega), (by exact MT_i hM1 rfl rfl rfl rfl rfl rfl rfl rfl rfl rfl)⟩))⟩
      · have c34 : ¬ ((A 15) 7) = 0 := c34
        refine m_ald (pc' := 38) cd_Mo_prekeyAt rfl (Or.inr ⟨_, rfl, rfl, rfl⟩) l0 rfl rfl ?_
        refine m_ald (pc' := 39) cd_Mo_prekeyAt rfl (Or.inr ⟨_, rfl, rfl, rfl⟩) l0 rfl rfl ?_
        refine m_fR (r := 14) (a := 15) (ad := 1497) (pc' := 42) rfl rfl cd_Mo_prekeyAt rfl rfl rfl rfl rfl ?_
        refine m_k2 (v := 7) (pc' := 44) cd_Mo_prekeyAt rfl (by decide) rfl ?_
        refine m_aI (r := 14) (a := 15) (g := (A 15)) (x := ((A 15) 7)) (pc' := 45) rfl rfl cd_Mo_prekeyAt rfl rfl rfl (vp_in_nI (n := 7) (by decide) (by decide)) (congrArg (A 15) (show (7 : Int32).toNatClampNeg = 7 by decide)) ?_
        refine m_ci (pc' := 48) cd_Mo_prekeyAt rfl rfl rfl rfl rfl cd_Mo_publicOf rfl (Nat.le_of_ble_eq_true rfl) (m_publicOf (by exact MT_i hM1 rfl rfl rfl rfl rfl rfl rfl rfl rfl rfl) (by omega) (by show rc (A1 1) T1.length < 1000; omega) (tv_mono p1 g1) (d1 (z1.mpr (fun q => c34 ((MT_0 hM g1).mpr q)))) (fun f2 A2 T2 r2 hx2 hr2 => ?_))
        obtain ⟨p2, q2, s2, hM2⟩ := hx2
        have hM2 : MT f2 A2 T2 _ _ _ := MT_i hM2 rfl rfl rfl rfl rfl rfl rfl rfl rfl rfl
        have s2 : rc (A2 1) T2.length ≤ rc (A1 1) T1.length + 0 := s2
        show mg _ _ _ 48 _ [.int r2] _ _
        refine m_ild (pc' := 49) cd_Mo_prekeyAt rfl (Or.inr ⟨_, rfl, rfl, rfl⟩) l1 rfl ?_
        refine m_if2 (t := 57) (pc' := 52) cd_Mo_prekeyAt rfl rfl rfl (fun c49 => ?_) (fun c49 => ?_)
        · have c49 : ¬ r2 = x := c49
          refine m_k1 (v := (-1)) (pc' := 58) cd_Mo_prekeyAt rfl (by decide) rfl ?_
          exact m_reti cd_Mo_prekeyAt rfl ⟨_, rfl, (mF_end (Q := Q _) (f := f) (A := A) (fun k q => by simp only [mjF, q, if_false]) (fun j q => by simp only [mjA, q, if_false]) (k0 (pk_findN (fun q => c20 ((MT_eq hM1 hr1 (tv_mono p1 hx)).mpr q.2)) (fun q => c49 ((MT_eq hM2 hr2 (tv_mono p2 (tv_mono p1 hx))).mpr q.2))) _ _ _ ⟨(p1.trans p2), by omega, (by show rc (A2 1) _ ≤ _; omega), (by exact MT_i hM2 rfl rfl rfl rfl rfl rfl rfl rfl rfl rfl)⟩))⟩
        · have c49 : r2 = x := Classical.not_not.mp c49
          refine m_k2 (v := 7) (pc' := 54) cd_Mo_prekeyAt rfl (by decide) rfl ?_
          refine m_pure (pc' := 58) (st' := [.int 7]) cd_Mo_prekeyAt rfl rfl (fun _ _ => rfl) ?_
          exact m_reti cd_Mo_prekeyAt rfl ⟨_, rfl, (mF_end (Q := Q _) (f := f) (A := A) (fun k q => by simp only [mjF, q, if_false]) (fun j q => by simp only [mjA, q, if_false]) (kk true (pk_find1 (fun q => c20 ((MT_eq hM1 hr1 (tv_mono p1 hx)).mpr q.2)) ⟨z1.mpr (fun q => c34 ((MT_0 hM g1).mpr q)), (MT_eq hM2 hr2 (tv_mono p2 (tv_mono p1 hx))).mp c49⟩) _ _ _ ⟨(p1.trans p2), by omega, (by show rc (A2 1) _ ≤ _; omega), (by exact MT_i hM2 rfl rfl rfl rfl rfl rfl rfl rfl rfl rfl)⟩))⟩
    · have c20 : r1 = x := Classical.not_not.mp c20
      refine m_k1 (v := 0) (pc' := 24) cd_Mo_prekeyAt rfl (by decide) rfl ?_
      refine m_pure (pc' := 58) (st' := [.int 0]) cd_Mo_prekeyAt rfl rfl (fun _ _ => rfl) ?_
      exact m_reti cd_Mo_prekeyAt rfl ⟨_, rfl, (mF_end (Q := Q _) (f := f) (A := A) (fun k q => by simp only [mjF, q, if_false]) (fun j q => by simp only [mjA, q, if_false]) (kk false (pk_find0 ⟨z0.mpr (fun q => c6 ((MT_0 hM g0).mpr q)), (MT_eq hM1 hr1 (tv_mono p1 hx)).mp c20⟩) _ _ _ ⟨p1, by omega, (by show rc (A1 1) _ ≤ _; omega), (by exact MT_i hM1 rfl rfl rfl rfl rfl rfl rfl rfl rfl rfl)⟩))⟩
set_option maxRecDepth 100000 in
theorem l_monce {sc : tm_X} {d : Nat} {DL : List (Int32 × Int32)} {G Kw : Tm → Prop} {on : List (Tm × Int32)} {x : Int32} {P : Tm} {Q : Int32 → MS → Prop} (dn : ∀ e, e ∈ on → kd e.1 = 1) : ∀ (r i : Nat) (f : Nat → Int32) (A : Nat → Nat → Int32) (T : List Tm), i + r = on.length → (∀ j e, j < i → on[j]? = some e → Tpub e.1 ≠ P) → MT f A T DL G Kw → T.length + r ≤ 4000 → rc (A 1) T.length < 1000 → qOn (A 15) T on → tv T x P → (on_find P on = none → ∀ f1 A1 T1, mx f f1 A A1 T T1 r 0 DL G Kw → Q (-1) (mjF f1 f, mjA A1 A)) → (∀ i, on_find P on = some i → ∀ f1 A1 T1, mx f f1 A A1 T T1 r 0 DL G Kw → Q (nI i) (mjF f1 f, mjA A1 A)) → ∀ lv : tm_L, lv.lookup 0 = some (.ref 1482) → lv.lookup 1 = some (.int x) → lv.lookup 2 = some (.int (nI i)) → mg sc (d + 4) 235 2 lv [] (f, A) (fun r s' => ∃ v, r = some (.int v) ∧ Q v s') := by
  intro r
  induction r with
  | zero =>
    intro i f A T hi hb hM hl hr hO hx k0 kk lv l0 l1 l2
    have hTl := MT_len hM
    have h14 := hO.1.1
    have h4 := hO.1.2
    refine m_ild (pc' := 3) cd_Mo_onceOf rfl (Or.inr ⟨_, rfl, rfl, rfl⟩) l2 rfl ?_
    refine m_ald (pc' := 4) cd_Mo_onceOf rfl (Or.inr ⟨_, rfl, rfl, rfl⟩) l0 rfl rfl ?_
    refine m_fR (r := 14) (a := 15) (ad := 1497) (pc' := 7) rfl rfl cd_Mo_onceOf rfl rfl rfl rfl rfl ?_
    refine m_k2 (v := 14) (pc' := 9) cd_Mo_onceOf rfl (by decide) rfl ?_
    refine m_aI (r := 14) (a := 15) (g := (A 15)) (x := nI on.length) (pc' := 10) rfl rfl cd_Mo_onceOf rfl rfl rfl (vp_in_nI (n := 14) (by decide) (by decide)) (by rw [(show (14 : Int32).toNatClampNeg = 14 by decide)]; exact h14) ?_
    refine m_if2 (t := 38) (pc' := 13) cd_Mo_onceOf rfl rfl rfl (fun c10 => ?_) (fun c10 => ?_)
    · have c10 : (nI on.length) ≤ (nI i) := c10
      refine m_k1 (v := (-1)) (pc' := 39) cd_Mo_onceOf rfl (by decide) rfl ?_
      exact m_reti cd_Mo_onceOf rfl ⟨_, rfl, (mF_end (Q := Q _) (f := f) (A := A) (fun _ _ => rfl) (fun _ _ => rfl) (k0 (on_find_no (fun j e he => hb j e (by have := (List.getElem?_eq_some_iff.mp he).1; omega) he)) f A T (mx_self 0 0 hM)))⟩
    · have c10 : ¬ (nI on.length) ≤ (nI i) := c10
      exact absurd (nI_le (by omega) (by omega)) c10
  | succ r ih =>
    intro i f A T hi hb hM hl hr hO hx k0 kk lv l0 l1 l2
    have hTl := MT_len hM
    have h14 := hO.1.1
    have h4 := hO.1.2
    obtain ⟨e, he⟩ : ∃ e, on[i]? = some e := ⟨_, List.getElem?_eq_getElem (by omega)⟩
    have g1 := (hO.2 i e he).1
    have kE := dn e (List.mem_of_getElem? he)
    refine m_ild (pc' := 3) cd_Mo_onceOf rfl (Or.inr ⟨_, rfl, rfl, rfl⟩) l2 rfl ?_
    refine m_ald (pc' := 4) cd_Mo_onceOf rfl (Or.inr ⟨_, rfl, rfl, rfl⟩) l0 rfl rfl ?_
    refine m_fR (r := 14) (a := 15) (ad := 1497) (pc' := 7) rfl rfl cd_Mo_onceOf rfl rfl rfl rfl rfl ?_
    refine m_k2 (v := 14) (pc' := 9) cd_Mo_onceOf rfl (by decide) rfl ?_
    refine m_aI (r := 14) (a := 15) (g := (A 15)) (x := nI on.length) (pc' := 10) rfl rfl cd_Mo_onceOf rfl rfl rfl (vp_in_nI (n := 14) (by decide) (by decide)) (by rw [(show (14 : Int32).toNatClampNeg = 14 by decide)]; exact h14) ?_
    refine m_if2 (t := 38) (pc' := 13) cd_Mo_onceOf rfl rfl rfl (fun c10 => ?_) (fun c10 => ?_)
    · have c10 : (nI on.length) ≤ (nI i) := c10
      exact absurd c10 (nI_ge (by omega) (by omega))
    · have c10 : ¬ (nI on.length) ≤ (nI i) := c10
      refine m_ald (pc' := 14) cd_Mo_onceOf rfl (Or.inr ⟨_, rfl, rfl, rfl⟩) l0 rfl rfl ?_
      refine m_ald (pc' := 15) cd_Mo_onceOf rfl (Or.inr ⟨_, rfl, rfl, rfl⟩) l0 rfl rfl ?_
      refine m_fR (r := 14) (a := 15) (ad := 1497) (pc' := 18) rfl rfl cd_Mo_onceOf rfl rfl rfl rfl rfl ?_
      refine m_k2 (v := 15) (pc' := 20) cd_Mo_onceOf rfl (by decide) rfl ?_
      refine m_ild (pc' := 21) cd_Mo_onceOf rfl (Or.inr ⟨_, rfl, rfl, rfl⟩) l2 rfl ?_
      refine m_pure (pc' := 22) (st' := [.int ((15 : Int32) + (nI i)), .ref 1497, .ref 1482]) cd_Mo_onceOf rfl rfl (fun _ _ => rfl) ?_
      refine m_eq (show ((15 : Int32) + (nI i) : Int32) = nI (15 + i) from nI_add 15 i) ?_
      refine m_aI (r := 14) (a := 15) (g := (A 15)) (x := ((A 15) (15 + i))) (pc' := 23) rfl rfl cd_Mo_onceOf rfl rfl rfl (vp_in_nI (by omega) (by decide)) (congrArg (A 15) (nI_clamp (by omega))) ?_
      refine m_ci (pc' := 26) cd_Mo_onceOf rfl rfl rfl rfl rfl cd_Mo_publicOf rfl (Nat.le_of_ble_eq_true rfl) (m_publicOf (by exact MT_i hM rfl rfl rfl rfl rfl rfl rfl rfl rfl rfl) (by omega) (by show rc (A 1) T.length < 1000; omega) g1 kE (fun f1 A1 T1 r1 hx1 hr1 => ?_))
      obtain ⟨p1, q1, s1, hM1⟩ := hx1
      have hM1 : MT f1 A1 T1 _ _ _ := MT_i hM1 rfl rfl rfl rfl rfl rfl rfl rfl rfl rfl
      have s1 : rc (A1 1) T1.length ≤ rc (A 1) T.length + 0 := s1
      show mg _ _ _ 26 _ [.int r1] _ _
      refine m_ild (pc' := 27) cd_Mo_onceOf rfl (Or.inr ⟨_, rfl, rfl, rfl⟩) l1 rfl ?_
      refine m_if2 (t := 32) (pc' := 30) cd_Mo_onceOf rfl rfl rfl (fun c27 => ?_) (fun c27 => ?_)
      · have c27 : ¬ r1 = x := c27
        refine m_inc (y := nI (i + 1)) (pc' := 35) cd_Mo_onceOf rfl l2 (by decide) (nI_add i 1) rfl (fun lv el => ?_)
        have l0 := tm_lk el l0 rfl (by decide)
        have l1 := tm_lk el l1 rfl (by decide)
        have l2 : lv.lookup 2 = some (.int (nI (i + 1))) := tm_lks el
        clear el
        refine m_pure (pc' := 2) (st' := []) cd_Mo_onceOf rfl rfl (fun _ _ => rfl) ?_
        have hm1 : mx f f1 A A1 T T1 1 0 DL G Kw := ⟨p1, q1, (by show rc (A1 1) _ ≤ _; omega), (by exact MT_i hM1 rfl rfl rfl rfl rfl rfl rfl rfl rfl rfl)⟩
        refine ih (i + 1) (mjF f1 f) (mjA A1 A) T1 (by omega) (fun j e' hj hje => ?_) (by exact MT_i hM1 rfl rfl rfl rfl rfl rfl rfl rfl rfl rfl) (by omega) (by show rc (A1 1) T1.length < 1000; omega) (qOn_c p1 (fun _ _ _ => rfl) hO) (tv_mono p1 hx) (fun hN f2 A2 T2 hm2 => ?_) (fun i2 hN f2 A2 T2 hm2 => ?_) lv l0 l1 l2
        · by_cases q : j = i
          · rw [q, he] at hje
            cases hje
            exact fun q => c27 ((MT_eq hM1 hr1 (tv_mono p1 hx)).mpr q)
          · exact hb j e' (by omega) hje
        · have hm3 := mx_tr hm1 hm2
          rw [mjF_mjF, mjA_mjA]
          exact k0 hN f2 A2 T2 ⟨hm3.1, by have := hm3.2.1; omega, by have := hm3.2.2.1; omega, hm3.2.2.2⟩
        · have hm3 := mx_tr hm1 hm2
          rw [mjF_mjF, mjA_mjA]
          exact kk i2 hN f2 A2 T2 ⟨hm3.1, by have := hm3.2.1; omega, by have := hm3.2.2.1; omega, hm3.2.2.2⟩
      · have c27 : r1 = x := Classical.not_not.mp c27
        refine m_ild (pc' := 31) cd_Mo_onceOf rfl (Or.inr ⟨_, rfl, rfl, rfl⟩) l2 rfl ?_
        exact m_reti cd_Mo_onceOf rfl ⟨_, rfl, (mF_end (Q := Q _) (f := f) (A := A) (fun k q => by simp only [mjF, q, if_false]) (fun j q => by simp only [mjA, q, if_false]) (kk i (on_find_at he ((MT_eq hM1 hr1 (tv_mono p1 hx)).mp c27) hb) _ _ _ ⟨p1, by omega, (by show rc (A1 1) _ ≤ _; omega), (by exact MT_i hM1 rfl rfl rfl rfl rfl rfl rfl rfl rfl rfl)⟩))⟩
set_option maxRecDepth 100000 in
theorem m_onceOf {sc : tm_X} {d : Nat} {f : Nat → Int32} {A : Nat → Nat → Int32} {T : List Tm} {DL : List (Int32 × Int32)} {G Kw : Tm → Prop} {on : List (Tm × Int32)} {x : Int32} {P : Tm} {Q : Int32 → MS → Prop} (hM : MT f A T DL G Kw) (hl : T.length + 4 ≤ 4000) (hr : rc (A 1) T.length < 1000) (hO : qOn (A 15) T on) (dn : ∀ e, e ∈ on → kd e.1 = 1) (hx : tv T x P) (k0 : on_find P on = none → ∀ f1 A1 T1, mx f f1 A A1 T T1 4 0 DL G Kw → Q (-1) (mjF f1 f, mjA A1 A)) (kk : ∀ i, on_find P on = some i → ∀ f1 A1 T1, mx f f1 A A1 T T1 4 0 DL G Kw → Q (nI i) (mjF f1 f, mjA A1 A)) : mGi sc (d + 4) 235 [.ref 1482, .int x] (f, A) Q := by
  have h4 := hO.1.2
  show mg sc (d + 4) 235 0 [(0, .ref 1482), (1, .int x)] [] (f, A) _
  generalize elv : ([(0, .ref 1482), (1, .int x)] : tm_L) = lv
  have l0 : lv.lookup 0 = some (.ref 1482) := by rw [← elv]; rfl
  have l1 : lv.lookup 1 = some (.int x) := by rw [← elv]; rfl
  clear elv
  refine m_k1 (v := 0) (pc' := 1) cd_Mo_onceOf rfl (by decide) rfl ?_
  refine m_ist (pc' := 2) cd_Mo_onceOf rfl (Or.inr ⟨_, rfl, rfl, rfl⟩) (by decide) rfl (fun lv el => ?_)
  have l0 := tm_lk el l0 rfl (by decide)
  have l1 := tm_lk el l1 rfl (by decide)
  have l2 : lv.lookup 2 = some (.int 0) := tm_lks el
  clear el
  refine l_monce dn on.length 0 f A T (by omega) (fun j e q => absurd q (by omega)) hM (by omega) hr hO hx (fun hN f1 A1 T1 hm => k0 hN f1 A1 T1 ⟨hm.1, by have := hm.2.1; omega, hm.2.2⟩) (fun i hN f1 A1 T1 hm => kk i hN f1 A1 T1 ⟨hm.1, by have := hm.2.1; omega, hm.2.2⟩) lv l0 l1 l2
