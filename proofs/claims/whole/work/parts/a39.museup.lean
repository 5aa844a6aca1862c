/-! The reference: useUp -/
set_option maxRecDepth 100000 in
theorem m_useUpP {sc : tm_X} {d : Nat} {f : Nat → Int32} {A : Nat → Nat → Int32} {T : List Tm} {DL : List (Int32 × Int32)} {G Kw : Tm → Prop} {K0 K1 : PK} {on : List (Tm × Int32)} {H : Tm} {hi : Nat} {b : Bool} {Q : MS → Prop} (hM : MT f A T DL G Kw) (hl : T.length + 4 ≤ 4000) (hr : rc (A 1) T.length < 1000) (hK0 : qPk (A 15) T 0 K0) (hK1 : qPk (A 15) T 7 K1) (z0 : 0 < K0.2.1 ↔ K0.1 ≠ tz) (z1 : 0 < K1.2.1 ↔ K1.1 ≠ tz) (d0 : 0 < K0.2.1 → kd K0.1 = 1) (d1 : 0 < K1.2.1 → kd K1.1 = 1) (hO : qOn (A 15) T on) (dn : ∀ e, e ∈ on → kd e.1 = 1) (hH : T[hi]? = some H) (kH : kd H = 7) (hpk : pk_find K0 K1 (pt H 2) = some b) (z3 : pt H 3 = tz) (h4 : (pk_of K0 K1 b).2.2.length < 4) (kk : ∀ f1 A1 T1, T <+: T1 → T1.length ≤ T.length + 4 → rc (A1 1) T1.length ≤ rc (A 1) T.length →  MT (mjF f1 f) (mjUA A1 A) T1 DL G Kw → qPk (A1 15) T1 0 (as_used K0 K1 on H).1 → qPk (A1 15) T1 7 (as_used K0 K1 on H).2.1 → qOn (A1 15) T1 (as_used K0 K1 on H).2.2 → (∀ k, 23 ≤ k → A1 15 k = A 15 k) → Q (mjF f1 f, mjUA A1 A)) : mGv sc (d + 5) 239 [.ref 1482, .int (nI hi)] (f, A) Q := by
  have hTl := MT_len hM
  have hhi := tv_lt hH
  have hsb := sh_lt b
  show mg sc (d + 5) 239 0 [(0, .ref 1482), (1, .int (nI hi))] [] (f, A) _
  generalize elv : ([(0, .ref 1482), (1, .int (nI hi))] : tm_L) = lv
  have l0 : lv.lookup 0 = some (.ref 1482) := by rw [← elv]; rfl
  have l1 : lv.lookup 1 = some (.int (nI hi)) := by rw [← elv]; rfl
  clear elv
  refine m_ald (pc' := 1) cd_Mo_useUp rfl (Or.inr ⟨_, rfl, rfl, rfl⟩) l0 rfl rfl ?_
  refine m_ild (pc' := 2) cd_Mo_useUp rfl (Or.inr ⟨_, rfl, rfl, rfl⟩) l1 rfl ?_
  refine m_k2 (v := 7) (pc' := 4) cd_Mo_useUp rfl (by decide) rfl ?_
  refine m_ci (pc' := 7) cd_Mo_useUp rfl rfl rfl rfl rfl cd_Mo_cell rfl (Nat.le_of_ble_eq_true rfl) (m_cellP (k := 3) hM hH kH (by decide) (fun ro hro => ?_))
  obtain ⟨i3, rfl, hi3⟩ := hro
  show mg _ _ _ 7 _ [.int (nI i3)] _ _
  refine m_ist (pc' := 8) cd_Mo_useUp rfl (Or.inr ⟨_, rfl, rfl, rfl⟩) (by decide) rfl (fun lv el => ?_)
  have l0 := tm_lk el l0 rfl (by decide)
  have l1 := tm_lk el l1 rfl (by decide)
  have l2 : lv.lookup 2 = some (.int (nI i3)) := tm_lks el
  clear el
  refine m_ild (pc' := 9) cd_Mo_useUp rfl (Or.inr ⟨_, rfl, rfl, rfl⟩) l2 rfl ?_
  refine m_if1 (t := 60) (pc' := 12) cd_Mo_useUp rfl rfl rfl (fun c9 => ?_) (fun c9 => ?_)
  · have c9 : ¬ (nI i3) = 0 := c9
    exact absurd ((MT_0 hM ⟨i3, rfl, hi3⟩).mpr z3) c9
  · have c9 : (nI i3) = 0 := Classical.not_not.mp c9
    refine m_ald (pc' := 13) cd_Mo_useUp rfl (Or.inr ⟨_, rfl, rfl, rfl⟩) l0 rfl rfl ?_
    refine m_ald (pc' := 14) cd_Mo_useUp rfl (Or.inr ⟨_, rfl, rfl, rfl⟩) l0 rfl rfl ?_
    refine m_ild (pc' := 15) cd_Mo_useUp rfl (Or.inr ⟨_, rfl, rfl, rfl⟩) l1 rfl ?_
    refine m_k2 (v := 6) (pc' := 17) cd_Mo_useUp rfl (by decide) rfl ?_
    refine m_ci (pc' := 20) cd_Mo_useUp rfl rfl rfl rfl rfl cd_Mo_cell rfl (Nat.le_of_ble_eq_true rfl) (m_cellP (k := 2) hM hH kH (by decide) (fun ro hro => ?_))
    obtain ⟨i2, rfl, hi2⟩ := hro
    show mg _ _ _ 20 _ [.int (nI i2), .ref 1482] _ _
    refine m_ci (pc' := 23) cd_Mo_useUp rfl rfl rfl rfl rfl cd_Mo_prekeyAt rfl (Nat.le_of_ble_eq_true rfl) (m_prekeyAt hM (by omega) hr hK0 hK1 z0 z1 d0 d1 ⟨i2, rfl, hi2⟩ (fun hN => absurd (hN.symm.trans hpk) (fun e => nomatch e)) (fun b2 hb2 f1 A1 T1 hx1 => ?_))
    rw [Option.some.inj (hb2.symm.trans hpk)]
    obtain ⟨p1, q1, s1, hM1⟩ := hx1
    have s1 : rc (A1 1) T1.length ≤ rc (A 1) T.length := s1
    have h2 := (qPk_of hK0 hK1 b).1.2.2.1
    show mg _ _ _ 23 _ [.int (nI (7 * sh b))] _ _
    refine m_ist (pc' := 24) cd_Mo_useUp rfl (Or.inr ⟨_, rfl, rfl, rfl⟩) (by decide) rfl (fun lv el => ?_)
    have l0 := tm_lk el l0 rfl (by decide)
    have l1 := tm_lk el l1 rfl (by decide)
    have l2 := tm_lk el l2 rfl (by decide)
    have l3 : lv.lookup 3 = some (.int (nI (7 * sh b))) := tm_lks el
    clear el
    refine m_ald (pc' := 25) cd_Mo_useUp rfl (Or.inr ⟨_, rfl, rfl, rfl⟩) l0 rfl rfl ?_
    refine m_fR (r := 14) (a := 15) (ad := 1497) (pc' := 28) rfl rfl cd_Mo_useUp rfl rfl rfl rfl rfl ?_
    refine m_ild (pc' := 29) cd_Mo_useUp rfl (Or.inr ⟨_, rfl, rfl, rfl⟩) l3 rfl ?_
    refine m_k1 (v := 3) (pc' := 30) cd_Mo_useUp rfl (by decide) rfl ?_
    refine m_pure (pc' := 31) (st' := [.int ((nI (7 * sh b)) + 3), .ref 1497]) cd_Mo_useUp rfl rfl (fun _ _ => rfl) ?_
    refine m_eq (show ((nI (7 * sh b)) + 3 : Int32) = nI ((7 * sh b) + 3) from nI_add (7 * sh b) 3) ?_
    refine m_ald (pc' := 32) cd_Mo_useUp rfl (Or.inr ⟨_, rfl, rfl, rfl⟩) l0 rfl rfl ?_
    refine m_fR (r := 14) (a := 15) (ad := 1497) (pc' := 35) rfl rfl cd_Mo_useUp rfl rfl rfl rfl rfl ?_
    refine m_ild (pc' := 36) cd_Mo_useUp rfl (Or.inr ⟨_, rfl, rfl, rfl⟩) l3 rfl ?_
    refine m_k1 (v := 2) (pc' := 37) cd_Mo_useUp rfl (by decide) rfl ?_
    refine m_pure (pc' := 38) (st' := [.int ((nI (7 * sh b)) + 2), .ref 1497, .int (nI ((7 * sh b) + 3)), .ref 1497]) cd_Mo_useUp rfl rfl (fun _ _ => rfl) ?_
    refine m_eq (show ((nI (7 * sh b)) + 2 : Int32) = nI ((7 * sh b) + 2) from nI_add (7 * sh b) 2) ?_
    refine m_aI (r := 14) (a := 15) (g := (A 15)) (x := nI (pk_of K0 K1 b).2.2.length) (pc' := 39) rfl rfl cd_Mo_useUp rfl rfl rfl (vp_in_nI (by omega) (by decide)) (by rw [(nI_clamp (by omega))]; exact h2) ?_
    refine m_pure (pc' := 40) (st' := [.int ((nI ((7 * sh b) + 3)) + (nI (pk_of K0 K1 b).2.2.length)), .ref 1497]) cd_Mo_useUp rfl rfl (fun _ _ => rfl) ?_
    refine m_eq (show ((nI ((7 * sh b) + 3)) + (nI (pk_of K0 K1 b).2.2.length) : Int32) = nI (((7 * sh b) + 3) + (pk_of K0 K1 b).2.2.length) from nI_add ((7 * sh b) + 3) (pk_of K0 K1 b).2.2.length) ?_
    refine m_ald (pc' := 41) cd_Mo_useUp rfl (Or.inr ⟨_, rfl, rfl, rfl⟩) l0 rfl rfl ?_
    refine m_ild (pc' := 42) cd_Mo_useUp rfl (Or.inr ⟨_, rfl, rfl, rfl⟩) l1 rfl ?_
    refine m_k1 (v := 4) (pc' := 43) cd_Mo_useUp rfl (by decide) rfl ?_
    refine m_ci (pc' := 46) cd_Mo_useUp rfl rfl rfl rfl rfl cd_Mo_cell rfl (Nat.le_of_ble_eq_true rfl) (m_cellP (k := 0) (by exact MT_i hM1 rfl rfl rfl rfl rfl rfl rfl rfl rfl rfl) (pfx_get p1 hH) kH (by decide) (fun ro hro => ?_))
    show mg _ _ _ 46 _ [.int ro, .int (nI (((7 * sh b) + 3) + (pk_of K0 K1 b).2.2.length)), .ref 1497] _ _
    refine m_aS (r := 14) (a := 15) (g := (A 15)) (p := (((7 * sh b) + 3) + (pk_of K0 K1 b).2.2.length)) (pc' := 47) rfl rfl cd_Mo_useUp rfl rfl rfl (vp_in_nI (by omega) (by decide)) (nI_clamp (by omega)) ?_
    refine m_ald (pc' := 48) cd_Mo_useUp rfl (Or.inr ⟨_, rfl, rfl, rfl⟩) l0 rfl rfl ?_
    refine m_fR (r := 14) (a := 15) (ad := 1497) (pc' := 51) rfl rfl cd_Mo_useUp rfl rfl rfl rfl rfl ?_
    refine m_ild (pc' := 52) cd_Mo_useUp rfl (Or.inr ⟨_, rfl, rfl, rfl⟩) l3 rfl ?_
    refine m_k1 (v := 2) (pc' := 53) cd_Mo_useUp rfl (by decide) rfl ?_
    refine m_pure (pc' := 54) (st' := [.int ((nI (7 * sh b)) + 2), .ref 1497]) cd_Mo_useUp rfl rfl (fun _ _ => rfl) ?_
    refine m_eq (show ((nI (7 * sh b)) + 2 : Int32) = nI ((7 * sh b) + 2) from nI_add (7 * sh b) 2) ?_
    refine m_pure (pc' := 55) (st' := [.int (nI ((7 * sh b) + 2)), .ref 1497, .int (nI ((7 * sh b) + 2)), .ref 1497]) cd_Mo_useUp rfl rfl (fun _ _ => rfl) ?_
    refine m_aI (r := 14) (a := 15) (g := (upd (A 15) (((7 * sh b) + 3) + (pk_of K0 K1 b).2.2.length) ro)) (x := nI (pk_of K0 K1 b).2.2.length) (pc' := 56) rfl rfl cd_Mo_useUp rfl rfl rfl (vp_in_nI (by omega) (by decide)) (by rw [(nI_clamp (by omega)), upd_ne (by omega)]; exact h2) ?_
    refine m_k1 (v := 1) (pc' := 57) cd_Mo_useUp rfl (by decide) rfl ?_
    refine m_pure (pc' := 58) (st' := [.int ((nI (pk_of K0 K1 b).2.2.length) + 1), .int (nI ((7 * sh b) + 2)), .ref 1497]) cd_Mo_useUp rfl rfl (fun _ _ => rfl) ?_
    refine m_eq (show ((nI (pk_of K0 K1 b).2.2.length) + 1 : Int32) = nI ((pk_of K0 K1 b).2.2.length + 1) from nI_add (pk_of K0 K1 b).2.2.length 1) ?_
    refine m_aS (r := 14) (a := 15) (g := (upd (A 15) (((7 * sh b) + 3) + (pk_of K0 K1 b).2.2.length) ro)) (p := ((7 * sh b) + 2)) (pc' := 59) rfl rfl cd_Mo_useUp rfl rfl rfl (vp_in_nI (by omega) (by decide)) (nI_clamp (by omega)) ?_
    rw [fset_fset]
    have hu := au_2 (on := on) hpk z3
    rw [hu] at kk
    have hq := qPk_add (BA := pt H 0) (g := (upd (upd (A 15) (((7 * sh b) + 3) + (pk_of K0 K1 b).2.2.length) ro) ((7 * sh b) + 2) (nI ((pk_of K0 K1 b).2.2.length + 1)))) p1 hK0 hK1 h4 (fun k k1 k2 => by rw [upd_ne k1, upd_ne k2]) (by rw [upd_same]) (by rw [upd_ne (by omega), upd_same]; exact hro)
    exact m_retv cd_Mo_useUp rfl ⟨rfl, (mU_end (f := f) (A := A) (fun k q => by have e0 : ¬ k = 0 := (by omega); have e7 : ¬ k = 7 := (by omega); simp only [mjF, e0, e7, or_self, if_false]) (fun j q => by have e0 : ¬ (1 ≤ j ∧ j ≤ 8) := (by omega); have e15 : ¬ j = 15 := (by omega); simp only [fset, mjA, mjUA, e0, e15, or_self, if_false]) (kk _ _ T1 p1 (by omega) (show rc (A1 1) _ ≤ _ by omega) (by exact MT_i hM1 rfl rfl rfl rfl rfl rfl rfl rfl rfl rfl) hq.1 hq.2 (qOn_c p1 (fun k k1 k2 => by show (upd (upd (A 15) (((7 * sh b) + 3) + (pk_of K0 K1 b).2.2.length) ro) ((7 * sh b) + 2) (nI ((pk_of K0 K1 b).2.2.length + 1))) k = A 15 k; rw [upd_ne (by omega), upd_ne (by omega)]) hO) (fun k k1 => by show (upd (upd (A 15) (((7 * sh b) + 3) + (pk_of K0 K1 b).2.2.length) ro) ((7 * sh b) + 2) (nI ((pk_of K0 K1 b).2.2.length + 1))) k = A 15 k; rw [upd_ne (by omega), upd_ne (by omega)])))⟩
set_option maxRecDepth 100000 in
theorem l_muse {sc : tm_X} {d : Nat} {f : Nat → Int32} {A : Nat → Nat → Int32} {i : Nat} {Q : Option Value → MS → Prop} (kk : ∀ lv : tm_L, lv.lookup 0 = some (.ref 1482) → mg sc (d + 5) 239 123 lv [] (f, fset A 15 (onW (A 15) i 3)) Q) : ∀ (r k : Nat), k + r = 3 → i ≤ k → ∀ lv : tm_L, lv.lookup 0 = some (.ref 1482) → lv.lookup 4 = some (.int (nI k)) → mg sc (d + 5) 239 69 lv [] (f, fset A 15 (onW (A 15) i k)) Q := by
  intro r
  induction r with
  | zero =>
    intro k hk hik lv l0 l4
    have hk2 : k = 3 := by omega
    subst hk2
    refine m_ild (pc' := 71) cd_Mo_useUp rfl (Or.inl ⟨rfl, rfl⟩) l4 rfl ?_
    refine m_k1 (v := 1) (pc' := 72) cd_Mo_useUp rfl (by decide) rfl ?_
    refine m_pure (pc' := 73) (st' := [.int ((nI 3) + 1)]) cd_Mo_useUp rfl rfl (fun _ _ => rfl) ?_
    refine m_eq (show ((nI 3) + 1 : Int32) = 4 from by decide) ?_
    refine m_k1 (v := 4) (pc' := 74) cd_Mo_useUp rfl (by decide) rfl ?_
    refine m_if2 (t := 123) (pc' := 77) cd_Mo_useUp rfl rfl rfl (fun c74 => ?_) (fun c74 => ?_)
    · have c74 : (4 : Int32) ≤ 4 := c74
      exact kk lv l0
    · exact absurd (show ¬ (4 : Int32) ≤ 4 from c74) (by decide)
  | succ r ih =>
    intro k hk hik lv l0 l4
    refine m_ild (pc' := 71) cd_Mo_useUp rfl (Or.inl ⟨rfl, rfl⟩) l4 rfl ?_
    refine m_k1 (v := 1) (pc' := 72) cd_Mo_useUp rfl (by decide) rfl ?_
    refine m_pure (pc' := 73) (st' := [.int ((nI k) + 1)]) cd_Mo_useUp rfl rfl (fun _ _ => rfl) ?_
    refine m_eq (show ((nI k) + 1 : Int32) = nI (k + 1) from nI_add k 1) ?_
    refine m_k1 (v := 4) (pc' := 74) cd_Mo_useUp rfl (by decide) rfl ?_
    refine m_if2 (t := 123) (pc' := 77) cd_Mo_useUp rfl rfl rfl (fun c74 => ?_) (fun c74 => ?_)
    · have c74 : (4 : Int32) ≤ (nI (k + 1)) := c74
      exact absurd c74 (nI_ge (b := 4) (by omega) (by decide))
    · have c74 : ¬ (4 : Int32) ≤ (nI (k + 1)) := c74
      refine m_ald (pc' := 78) cd_Mo_useUp rfl (Or.inr ⟨_, rfl, rfl, rfl⟩) l0 rfl rfl ?_
      refine m_fR (r := 14) (a := 15) (ad := 1497) (pc' := 81) rfl rfl cd_Mo_useUp rfl rfl rfl rfl rfl ?_
      refine m_k2 (v := 15) (pc' := 83) cd_Mo_useUp rfl (by decide) rfl ?_
      refine m_ild (pc' := 85) cd_Mo_useUp rfl (Or.inl ⟨rfl, rfl⟩) l4 rfl ?_
      refine m_pure (pc' := 86) (st' := [.int ((15 : Int32) + (nI k)), .ref 1497]) cd_Mo_useUp rfl rfl (fun _ _ => rfl) ?_
      refine m_eq (show ((15 : Int32) + (nI k) : Int32) = nI (15 + k) from nI_add 15 k) ?_
      refine m_ald (pc' := 87) cd_Mo_useUp rfl (Or.inr ⟨_, rfl, rfl, rfl⟩) l0 rfl rfl ?_
      refine m_fR (r := 14) (a := 15) (ad := 1497) (pc' := 90) rfl rfl cd_Mo_useUp rfl rfl rfl rfl rfl ?_
      refine m_k2 (v := 16) (pc' := 92) cd_Mo_useUp rfl (by decide) rfl ?_
      refine m_ild (pc' := 94) cd_Mo_useUp rfl (Or.inl ⟨rfl, rfl⟩) l4 rfl ?_
      refine m_pure (pc' := 95) (st' := [.int ((16 : Int32) + (nI k)), .ref 1497, .int (nI (15 + k)), .ref 1497]) cd_Mo_useUp rfl rfl (fun _ _ => rfl) ?_
      refine m_eq (show ((16 : Int32) + (nI k) : Int32) = nI (16 + k) from nI_add 16 k) ?_
      refine m_aI (r := 14) (a := 15) (g := (onW (A 15) i k)) (x := (A 15 (16 + k))) (pc' := 96) rfl rfl cd_Mo_useUp rfl rfl rfl (vp_in_nI (by omega) (by decide)) (by rw [(nI_clamp (by omega)), onW_out (by omega)]) ?_
      refine m_aS (r := 14) (a := 15) (g := (onW (A 15) i k)) (p := (15 + k)) (pc' := 97) rfl rfl cd_Mo_useUp rfl rfl rfl (vp_in_nI (by omega) (by decide)) (nI_clamp (by omega)) ?_
      refine m_ald (pc' := 98) cd_Mo_useUp rfl (Or.inr ⟨_, rfl, rfl, rfl⟩) l0 rfl rfl ?_
      refine m_fR (r := 14) (a := 15) (ad := 1497) (pc' := 101) rfl rfl cd_Mo_useUp rfl rfl rfl rfl rfl ?_
      refine m_k2 (v := 19) (pc' := 103) cd_Mo_useUp rfl (by decide) rfl ?_
      refine m_ild (pc' := 105) cd_Mo_useUp rfl (Or.inl ⟨rfl, rfl⟩) l4 rfl ?_
      refine m_pure (pc' := 106) (st' := [.int ((19 : Int32) + (nI k)), .ref 1497]) cd_Mo_useUp rfl rfl (fun _ _ => rfl) ?_
      refine m_eq (show ((19 : Int32) + (nI k) : Int32) = nI (19 + k) from nI_add 19 k) ?_
      refine m_ald (pc' := 107) cd_Mo_useUp rfl (Or.inr ⟨_, rfl, rfl, rfl⟩) l0 rfl rfl ?_
      refine m_fR (r := 14) (a := 15) (ad := 1497) (pc' := 110) rfl rfl cd_Mo_useUp rfl rfl rfl rfl rfl ?_
      refine m_k2 (v := 20) (pc' := 112) cd_Mo_useUp rfl (by decide) rfl ?_
      refine m_ild (pc' := 114) cd_Mo_useUp rfl (Or.inl ⟨rfl, rfl⟩) l4 rfl ?_
      refine m_pure (pc' := 115) (st' := [.int ((20 : Int32) + (nI k)), .ref 1497, .int (nI (19 + k)), .ref 1497]) cd_Mo_useUp rfl rfl (fun _ _ => rfl) ?_
      refine m_eq (show ((20 : Int32) + (nI k) : Int32) = nI (20 + k) from nI_add 20 k) ?_
      refine m_aI (r := 14) (a := 15) (g := (upd (onW (A 15) i k) (15 + k) (A 15 (16 + k)))) (x := (A 15 (20 + k))) (pc' := 116) rfl rfl cd_Mo_useUp rfl rfl rfl (vp_in_nI (by omega) (by decide)) (by rw [(nI_clamp (by omega)), upd_ne (by omega), onW_out (by omega)]) ?_
      refine m_aS (r := 14) (a := 15) (g := (upd (onW (A 15) i k) (15 + k) (A 15 (16 + k)))) (p := (19 + k)) (pc' := 117) rfl rfl cd_Mo_useUp rfl rfl rfl (vp_in_nI (by omega) (by decide)) (nI_clamp (by omega)) ?_
      rw [fset_fset]
      refine m_inc (y := nI (k + 1)) (pc' := 120) cd_Mo_useUp rfl l4 (by decide) (nI_add k 1) rfl (fun lv el => ?_)
      have l0 := tm_lk el l0 rfl (by decide)
      have l4 : lv.lookup 4 = some (.int (nI (k + 1))) := tm_lks el
      clear el
      refine m_pure (pc' := 69) (st' := []) cd_Mo_useUp rfl rfl (fun _ _ => rfl) ?_
      rw [fset_fset, onW_s (by omega) (by omega)]
      exact ih (k + 1) (by omega) (by omega) lv l0 l4
set_option maxRecDepth 100000 in
theorem m_useUpO {sc : tm_X} {d : Nat} {f : Nat → Int32} {A : Nat → Nat → Int32} {T : List Tm} {DL : List (Int32 × Int32)} {G Kw : Tm → Prop} {K0 K1 : PK} {on : List (Tm × Int32)} {H : Tm} {hi : Nat} {b : Bool} {i : Nat} {Q : MS → Prop} (hM : MT f A T DL G Kw) (hl : T.length + 4 ≤ 4000) (hr : rc (A 1) T.length < 1000) (hK0 : qPk (A 15) T 0 K0) (hK1 : qPk (A 15) T 7 K1) (z0 : 0 < K0.2.1 ↔ K0.1 ≠ tz) (z1 : 0 < K1.2.1 ↔ K1.1 ≠ tz) (d0 : 0 < K0.2.1 → kd K0.1 = 1) (d1 : 0 < K1.2.1 → kd K1.1 = 1) (hO : qOn (A 15) T on) (dn : ∀ e, e ∈ on → kd e.1 = 1) (hH : T[hi]? = some H) (kH : kd H = 7) (hpk : pk_find K0 K1 (pt H 2) = some b) (z3 : pt H 3 ≠ tz) (hon : on_find (pt H 3) on = some i) (kk : ∀ f1 A1 T1, T <+: T1 → T1.length ≤ T.length + 4 → rc (A1 1) T1.length ≤ rc (A 1) T.length →  MT (mjF f1 f) (mjUA A1 A) T1 DL G Kw → qPk (A1 15) T1 0 (as_used K0 K1 on H).1 → qPk (A1 15) T1 7 (as_used K0 K1 on H).2.1 → qOn (A1 15) T1 (as_used K0 K1 on H).2.2 → (∀ k, 23 ≤ k → A1 15 k = A 15 k) → Q (mjF f1 f, mjUA A1 A)) : mGv sc (d + 5) 239 [.ref 1482, .int (nI hi)] (f, A) Q := by
  have hTl := MT_len hM
  have hhi := tv_lt hH
  obtain ⟨e, he, hpe⟩ := on_find_s hon
  have hi4 : i < on.length := (List.getElem?_eq_some_iff.mp he).1
  have ho4 := hO.1.2
  have h14 := hO.1.1
  show mg sc (d + 5) 239 0 [(0, .ref 1482), (1, .int (nI hi))] [] (f, A) _
  generalize elv : ([(0, .ref 1482), (1, .int (nI hi))] : tm_L) = lv
  have l0 : lv.lookup 0 = some (.ref 1482) := by rw [← elv]; rfl
  have l1 : lv.lookup 1 = some (.int (nI hi)) := by rw [← elv]; rfl
  clear elv
  refine m_ald (pc' := 1) cd_Mo_useUp rfl (Or.inr ⟨_, rfl, rfl, rfl⟩) l0 rfl rfl ?_
  refine m_ild (pc' := 2) cd_Mo_useUp rfl (Or.inr ⟨_, rfl, rfl, rfl⟩) l1 rfl ?_
  refine m_k2 (v := 7) (pc' := 4) cd_Mo_useUp rfl (by decide) rfl ?_
  refine m_ci (pc' := 7) cd_Mo_useUp rfl rfl rfl rfl rfl cd_Mo_cell rfl (Nat.le_of_ble_eq_true rfl) (m_cellP (k := 3) hM hH kH (by decide) (fun ro hro => ?_))
  obtain ⟨i3, rfl, hi3⟩ := hro
  show mg _ _ _ 7 _ [.int (nI i3)] _ _
  refine m_ist (pc' := 8) cd_Mo_useUp rfl (Or.inr ⟨_, rfl, rfl, rfl⟩) (by decide) rfl (fun lv el => ?_)
  have l0 := tm_lk el l0 rfl (by decide)
  have l1 := tm_lk el l1 rfl (by decide)
  have l2 : lv.lookup 2 = some (.int (nI i3)) := tm_lks el
  clear el
  refine m_ild (pc' := 9) cd_Mo_useUp rfl (Or.inr ⟨_, rfl, rfl, rfl⟩) l2 rfl ?_
  refine m_if1 (t := 60) (pc' := 12) cd_Mo_useUp rfl rfl rfl (fun c9 => ?_) (fun c9 => ?_)
  · have c9 : ¬ (nI i3) = 0 := c9
    refine m_ald (pc' := 61) cd_Mo_useUp rfl (Or.inr ⟨_, rfl, rfl, rfl⟩) l0 rfl rfl ?_
    refine m_ild (pc' := 62) cd_Mo_useUp rfl (Or.inr ⟨_, rfl, rfl, rfl⟩) l2 rfl ?_
    refine m_ci (pc' := 65) cd_Mo_useUp rfl rfl rfl rfl rfl cd_Mo_onceOf rfl (Nat.le_of_ble_eq_true rfl) (m_onceOf hM (by omega) hr hO dn ⟨i3, rfl, hi3⟩ (fun hN => absurd (hN.symm.trans hon) (fun e => nomatch e)) (fun i2 hi2 f1 A1 T1 hx1 => ?_))
    rw [Option.some.inj (hi2.symm.trans hon)]
    obtain ⟨p1, q1, s1, hM1⟩ := hx1
    have s1 : rc (A1 1) T1.length ≤ rc (A 1) T.length := s1
    show mg _ _ _ 65 _ [.int (nI i)] _ _
    refine m_ist (pc' := 66) cd_Mo_useUp rfl (Or.inr ⟨_, rfl, rfl, rfl⟩) (by decide) rfl (fun lv el => ?_)
    have l0 := tm_lk el l0 rfl (by decide)
    have l1 := tm_lk el l1 rfl (by decide)
    have l2 := tm_lk el l2 rfl (by decide)
    have l3 : lv.lookup 3 = some (.int (nI i)) := tm_lks el
    clear el
    refine m_ild (pc' := 67) cd_Mo_useUp rfl (Or.inr ⟨_, rfl, rfl, rfl⟩) l3 rfl ?_
    refine m_ist (pc' := 69) cd_Mo_useUp rfl (Or.inl ⟨rfl, rfl⟩) (by decide) rfl (fun lv el => ?_)
    have l0 := tm_lk el l0 rfl (by decide)
    have l1 := tm_lk el l1 rfl (by decide)
    have l2 := tm_lk el l2 rfl (by decide)
    have l3 := tm_lk el l3 rfl (by decide)
    have l4 : lv.lookup 4 = some (.int (nI i)) := tm_lks el
    clear el
    by_cases hi3b : i ≤ 3
    · have k0 : mg sc (d + 5) 239 69 lv [] (mjF f1 f, fset (mjA A1 A) 15 (onW (A 15) i i)) (fun r s' => r = none ∧ Q s') := by
        refine l_muse (A := mjA A1 A) (fun lv l0 => ?_) (3 - i) i (by omega) (Nat.le_refl _) lv l0 l4
        refine m_ald (pc' := 124) cd_Mo_useUp rfl (Or.inr ⟨_, rfl, rfl, rfl⟩) l0 rfl rfl ?_
        refine m_fR (r := 14) (a := 15) (ad := 1497) (pc' := 127) rfl rfl cd_Mo_useUp rfl rfl rfl rfl rfl ?_
        refine m_k2 (v := 18) (pc' := 129) cd_Mo_useUp rfl (by decide) rfl ?_
        refine m_k1 (v := 0) (pc' := 130) cd_Mo_useUp rfl (by decide) rfl ?_
        refine m_aS (r := 14) (a := 15) (g := (onW (A 15) i 3)) (p := 18) (pc' := 131) rfl rfl cd_Mo_useUp rfl rfl rfl (vp_in_nI (n := 18) (by decide) (by decide)) (show (18 : Int32).toNatClampNeg = 18 by decide) ?_
        refine m_ald (pc' := 132) cd_Mo_useUp rfl (Or.inr ⟨_, rfl, rfl, rfl⟩) l0 rfl rfl ?_
        refine m_fR (r := 14) (a := 15) (ad := 1497) (pc' := 135) rfl rfl cd_Mo_useUp rfl rfl rfl rfl rfl ?_
        refine m_k2 (v := 22) (pc' := 137) cd_Mo_useUp rfl (by decide) rfl ?_
        refine m_k1 (v := 0) (pc' := 138) cd_Mo_useUp rfl (by decide) rfl ?_
        refine m_aS (r := 14) (a := 15) (g := (upd (onW (A 15) i 3) 18 0)) (p := 22) (pc' := 139) rfl rfl cd_Mo_useUp rfl rfl rfl (vp_in_nI (n := 22) (by decide) (by decide)) (show (22 : Int32).toNatClampNeg = 22 by decide) ?_
        rw [fset_fset]
        refine m_ald (pc' := 140) cd_Mo_useUp rfl (Or.inr ⟨_, rfl, rfl, rfl⟩) l0 rfl rfl ?_
        refine m_fR (r := 14) (a := 15) (ad := 1497) (pc' := 143) rfl rfl cd_Mo_useUp rfl rfl rfl rfl rfl ?_
        refine m_k2 (v := 14) (pc' := 145) cd_Mo_useUp rfl (by decide) rfl ?_
        refine m_pure (pc' := 146) (st' := [.int 14, .ref 1497, .int 14, .ref 1497]) cd_Mo_useUp rfl rfl (fun _ _ => rfl) ?_
        refine m_aI (r := 14) (a := 15) (g := (upd (upd (onW (A 15) i 3) 18 0) 22 0)) (x := nI on.length) (pc' := 147) rfl rfl cd_Mo_useUp rfl rfl rfl (vp_in_nI (n := 14) (by decide) (by decide)) (by rw [(show (14 : Int32).toNatClampNeg = 14 by decide), upd_ne (by omega), upd_ne (by omega), onW_out (by omega)]; exact h14) ?_
        refine m_k1 (v := 1) (pc' := 148) cd_Mo_useUp rfl (by decide) rfl ?_
        refine m_pure (pc' := 149) (st' := [.int ((nI on.length) - 1), .int 14, .ref 1497]) cd_Mo_useUp rfl rfl (fun _ _ => rfl) ?_
        refine m_eq (show ((nI on.length) - 1 : Int32) = nI (on.length - 1) from pk_sub (a := on.length) (b := 1) (by omega)) ?_
        refine m_aS (r := 14) (a := 15) (g := (upd (upd (onW (A 15) i 3) 18 0) 22 0)) (p := 14) (pc' := 150) rfl rfl cd_Mo_useUp rfl rfl rfl (vp_in_nI (n := 14) (by decide) (by decide)) (show (14 : Int32).toNatClampNeg = 14 by decide) ?_
        rw [fset_fset]
        have hu := au_3 hpk z3 hon
        rw [hu] at kk
        have hq : qOn (upd (upd (upd (onW (A 15) i 3) 18 0) 22 0) 14 (nI (on.length - 1))) T1 (on.eraseIdx i) := qOn_era hi4 (qOn_c (h := A 15) p1 (fun _ _ _ => rfl) hO) (by rw [upd_same]) (fun j j1 j2 j3 => by rw [upd_ne (by omega), upd_ne (by omega), upd_ne (by omega)])
        exact m_retv cd_Mo_useUp rfl ⟨rfl, (mU_end (f := f) (A := A) (fun k q => by have e0 : ¬ k = 0 := (by omega); have e7 : ¬ k = 7 := (by omega); simp only [mjF, e0, e7, or_self, if_false]) (fun j q => by have e0 : ¬ (1 ≤ j ∧ j ≤ 8) := (by omega); have e15 : ¬ j = 15 := (by omega); simp only [fset, mjA, mjUA, e0, e15, or_self, if_false]) (kk _ _ T1 p1 (by omega) (show rc (A1 1) _ ≤ _ by omega) (by exact MT_i hM1 rfl rfl rfl rfl rfl rfl rfl rfl rfl rfl) (qPk_c p1 (fun k k1 k2 => by show (upd (upd (upd (onW (A 15) i 3) 18 0) 22 0) 14 (nI (on.length - 1))) k = A 15 k; rw [upd_ne (by omega), upd_ne (by omega), upd_ne (by omega), onW_out (by omega)]) hK0) (qPk_c p1 (fun k k1 k2 => by show (upd (upd (upd (onW (A 15) i 3) 18 0) 22 0) 14 (nI (on.length - 1))) k = A 15 k; rw [upd_ne (by omega), upd_ne (by omega), upd_ne (by omega), onW_out (by omega)]) hK1) hq (fun k k1 => by show (upd (upd (upd (onW (A 15) i 3) 18 0) 22 0) 14 (nI (on.length - 1))) k = A 15 k; rw [upd_ne (by omega), upd_ne (by omega), upd_ne (by omega), onW_out (by omega)])))⟩
      rw [onW_0] at k0
      have k1 : mg sc (d + 5) 239 69 lv [] (mjF f1 f, fset (mjA A1 A) 15 ((mjA A1 A) 15)) (fun r s' => r = none ∧ Q s') := k0
      rw [fset_id] at k1
      exact k1
    · exact absurd hi4 (by omega)
  · have c9 : (nI i3) = 0 := Classical.not_not.mp c9
    exact absurd ((MT_0 hM ⟨i3, rfl, hi3⟩).mp c9) z3
