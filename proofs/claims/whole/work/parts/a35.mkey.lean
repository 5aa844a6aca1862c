/-! The reference: keyOf -/
noncomputable def sk_spec (S : SS) (P : Tm) (ix en : Int32) : Option (Tm × SS) := match lf_take P ix S.1.2.2.2 with
  | some (K, l) => some (K, ((S.1.1, S.1.2.1, S.1.2.2.1, l), S.2))
  | none => match ss_follow S P en with
    | none => none
    | some S1 => (ib_next S1.1 ix).map fun r => (r.1, (r.2, S1.2))
theorem sk_key (S : SS) (H : Tm) : ss_key S H = sk_spec S (pt H 1) (nu H 2) (nu H 3) := rfl
theorem sk_left {S : SS} {P K : Tm} {ix en : Int32} {l : List (Tm × Int32 × Tm)} (h : lf_take P ix S.1.2.2.2 = some (K, l)) : sk_spec S P ix en = some (K, ((S.1.1, S.1.2.1, S.1.2.2.1, l), S.2)) := by unfold sk_spec; rw [h]
theorem sk_fn {S : SS} {P : Tm} {ix en : Int32} (h : lf_take P ix S.1.2.2.2 = none) (h2 : ss_follow S P en = none) : sk_spec S P ix en = none := by unfold sk_spec; rw [h]; dsimp only; rw [h2]
theorem sk_fs {S S1 : SS} {P : Tm} {ix en : Int32} (h : lf_take P ix S.1.2.2.2 = none) (h2 : ss_follow S P en = some S1) : sk_spec S P ix en = (ib_next S1.1 ix).map fun r => (r.1, (r.2, S1.2)) := by unfold sk_spec; rw [h]; dsimp only; rw [h2]
theorem sk_nn {S S1 : SS} {P : Tm} {ix en : Int32} (h : lf_take P ix S.1.2.2.2 = none) (h2 : ss_follow S P en = some S1) (h3 : ib_next S1.1 ix = none) : sk_spec S P ix en = none := by rw [sk_fs h h2, h3]; rfl
theorem sk_ns {S S1 : SS} {P : Tm} {ix en : Int32} {r : Tm × IB} (h : lf_take P ix S.1.2.2.2 = none) (h2 : ss_follow S P en = some S1) (h3 : ib_next S1.1 ix = some r) : sk_spec S P ix en = some (r.1, (r.2, S1.2)) := by rw [sk_fs h h2, h3]; rfl
theorem fo_skipJ {I J : IB} {R : Tm × Tm × Tm × Tm × Int32 × Int32 × Bool × Tm × Tm × Bool} {p : Tm} {en : Int32} (h : ¬ (p = I.1 ∧ I.2.1 ≠ tz)) (h2 : I.2.1 ≠ tz ∧ I.2.2.1 < en) (hJ : ib_skipTo I en = some J) : ss_follow (I, R) p en = some (ss_recv (J, R) p) := by
  rw [ss_follow_skip (S := (I, R)) h h2]
  show (ib_skipTo I en).map _ = _
  rw [hJ]
  rfl
theorem fo_skipN {I : IB} {R : Tm × Tm × Tm × Tm × Int32 × Int32 × Bool × Tm × Tm × Bool} {p : Tm} {en : Int32} (h : ¬ (p = I.1 ∧ I.2.1 ≠ tz)) (h2 : I.2.1 ≠ tz ∧ I.2.2.1 < en) (hJ : ib_skipTo I en = none) : ss_follow (I, R) p en = none := by
  rw [ss_follow_skip (S := (I, R)) h h2]
  show (ib_skipTo I en).map _ = _
  rw [hJ]
  rfl
set_option maxRecDepth 100000 in
theorem l_mkey0 {sc : tm_X} {d : Nat} {f : Nat → Int32} {A : Nat → Nat → Int32} {a : Nat} {Q : Option Value → MS → Prop} (kk : ∀ lv : tm_L, lv.lookup 0 = some (.ref 1482) → mg sc (d + 6) 236 99 lv [] (f, fset A 43 (shW 3 (A 43) a 34)) Q) : ∀ (r j : Nat), j + r = 34 → a ≤ j → ∀ lv : tm_L, lv.lookup 0 = some (.ref 1482) → lv.lookup 6 = some (.int (nI j)) → mg sc (d + 6) 236 68 lv [] (f, fset A 43 (shW 3 (A 43) a j)) Q := by
  intro r
  induction r with
  | zero =>
    intro j hj haj lv l0 l6
    have hk2 : j = 34 := by omega
    subst hk2
    refine m_ild (pc' := 70) cd_Mo_keyOf rfl (Or.inl ⟨rfl, rfl⟩) l6 rfl ?_
    refine m_k1 (v := 3) (pc' := 71) cd_Mo_keyOf rfl (by decide) rfl ?_
    refine m_pure (pc' := 72) (st' := [.int ((nI 34) + 3)]) cd_Mo_keyOf rfl rfl (fun _ _ => rfl) ?_
    refine m_eq (show ((nI 34) + 3 : Int32) = 37 from by decide) ?_
    refine m_k2 (v := 37) (pc' := 74) cd_Mo_keyOf rfl (by decide) rfl ?_
    refine m_if2 (t := 99) (pc' := 77) cd_Mo_keyOf rfl rfl rfl (fun c74 => ?_) (fun c74 => ?_)
    · have c74 : (37 : Int32) ≤ 37 := c74
      exact kk lv l0
    · exact absurd (show ¬ (37 : Int32) ≤ 37 from c74) (by decide)
  | succ r ih =>
    intro j hj haj lv l0 l6
    refine m_ild (pc' := 70) cd_Mo_keyOf rfl (Or.inl ⟨rfl, rfl⟩) l6 rfl ?_
    refine m_k1 (v := 3) (pc' := 71) cd_Mo_keyOf rfl (by decide) rfl ?_
    refine m_pure (pc' := 72) (st' := [.int ((nI j) + 3)]) cd_Mo_keyOf rfl rfl (fun _ _ => rfl) ?_
    refine m_eq (show ((nI j) + 3 : Int32) = nI (j + 3) from nI_add j 3) ?_
    refine m_k2 (v := 37) (pc' := 74) cd_Mo_keyOf rfl (by decide) rfl ?_
    refine m_if2 (t := 99) (pc' := 77) cd_Mo_keyOf rfl rfl rfl (fun c74 => ?_) (fun c74 => ?_)
    · have c74 : (37 : Int32) ≤ (nI (j + 3)) := c74
      exact absurd c74 (nI_ge (b := 37) (by omega) (by decide))
    · have c74 : ¬ (37 : Int32) ≤ (nI (j + 3)) := c74
      refine m_ald (pc' := 78) cd_Mo_keyOf rfl (Or.inr ⟨_, rfl, rfl, rfl⟩) l0 rfl rfl ?_
      refine m_fR (r := 42) (a := 43) (ad := 1525) (pc' := 81) rfl rfl cd_Mo_keyOf rfl rfl rfl rfl rfl ?_
      refine m_ild (pc' := 83) cd_Mo_keyOf rfl (Or.inl ⟨rfl, rfl⟩) l6 rfl ?_
      refine m_ald (pc' := 84) cd_Mo_keyOf rfl (Or.inr ⟨_, rfl, rfl, rfl⟩) l0 rfl rfl ?_
      refine m_fR (r := 42) (a := 43) (ad := 1525) (pc' := 87) rfl rfl cd_Mo_keyOf rfl rfl rfl rfl rfl ?_
      refine m_ild (pc' := 89) cd_Mo_keyOf rfl (Or.inl ⟨rfl, rfl⟩) l6 rfl ?_
      refine m_k1 (v := 3) (pc' := 90) cd_Mo_keyOf rfl (by decide) rfl ?_
      refine m_pure (pc' := 91) (st' := [.int ((nI j) + 3), .ref 1525, .int (nI j), .ref 1525]) cd_Mo_keyOf rfl rfl (fun _ _ => rfl) ?_
      refine m_eq (show ((nI j) + 3 : Int32) = nI (j + 3) from nI_add j 3) ?_
      refine m_aI (r := 42) (a := 43) (g := (shW 3 (A 43) a j)) (x := (A 43 (j + 3))) (pc' := 92) rfl rfl cd_Mo_keyOf rfl rfl rfl (vp_in_nI (by omega) (by decide)) (by rw [(nI_clamp (by omega)), shW_n]) ?_
      refine m_aS (r := 42) (a := 43) (g := (shW 3 (A 43) a j)) (p := j) (pc' := 93) rfl rfl cd_Mo_keyOf rfl rfl rfl (vp_in_nI (by omega) (by decide)) (nI_clamp (by omega)) ?_
      refine m_inc (y := nI (j + 1)) (pc' := 96) cd_Mo_keyOf rfl l6 (by decide) (nI_add j 1) rfl (fun lv el => ?_)
      have l0 := tm_lk el l0 rfl (by decide)
      have l6 : lv.lookup 6 = some (.int (nI (j + 1))) := tm_lks el
      clear el
      refine m_pure (pc' := 68) (st' := []) cd_Mo_keyOf rfl rfl (fun _ _ => rfl) ?_
      rw [fset_fset, shW_s 3 (A 43) (by omega)]
      exact ih (j + 1) (by omega) (by omega) lv l0 l6
set_option maxRecDepth 100000 in
theorem l_mkeyF {sc : tm_X} {d : Nat} {f : Nat → Int32} {A : Nat → Nat → Int32} {T : List Tm} {DL : List (Int32 × Int32)} {G Kw : Tm → Prop} {th ch ba ro mi sd bp bo : Tm} {nx n b : Int32} {le : List (Tm × Int32 × Tm)} {br on : Bool} {i : Nat} {e : Tm × Int32 × Tm} {Q : Int32 → MS → Prop} (hM : MT f A T DL G Kw) (hS : qSe (A 43) T 0 ((th, ch, nx, le), ba, ro, mi, sd, n, b, br, bp, bo, on)) (he : le[i]? = some e) (kk : ∀ f1 A1, MT (mjKf f1 f) (mjKA A1 A) T DL G Kw → A1 1 = A 1 → tv T (f1 61) e.2.2 → qSe (A1 43) T 0 ((th, ch, nx, le.eraseIdx i), ba, ro, mi, sd, n, b, br, bp, bo, on) → Q 0 (mjKf f1 f, mjKA A1 A)) : ∀ lv : tm_L, lv.lookup 0 = some (.ref 1482) → lv.lookup 5 = some (.int (nI (13 + (3 * i)))) → mg sc (d + 6) 236 51 lv [] (f, A) (fun r s' => ∃ v, r = some (.int v) ∧ Q v s') := by
  intro lv l0 l5
  have hS2 := hS
  obtain ⟨⟨a1, a2, a3, a4, a5, a6⟩, ⟨a7, a8, a9⟩, ⟨a10, a11⟩, ⟨a12, a13⟩, a14, a15⟩ := hS
  have hi : i < le.length := (List.getElem?_eq_some_iff.mp he).1
  have h61 := (a14 i e he).2.2
  rw [show 0 + 15 + 3 * i = 13 + (3 * i) + 2 by omega] at h61
  refine m_ald (pc' := 52) cd_Mo_keyOf rfl (Or.inr ⟨_, rfl, rfl, rfl⟩) l0 rfl rfl ?_
  refine m_ald (pc' := 53) cd_Mo_keyOf rfl (Or.inr ⟨_, rfl, rfl, rfl⟩) l0 rfl rfl ?_
  refine m_fR (r := 42) (a := 43) (ad := 1525) (pc' := 56) rfl rfl cd_Mo_keyOf rfl rfl rfl rfl rfl ?_
  refine m_ild (pc' := 58) cd_Mo_keyOf rfl (Or.inl ⟨rfl, rfl⟩) l5 rfl ?_
  refine m_k1 (v := 2) (pc' := 59) cd_Mo_keyOf rfl (by decide) rfl ?_
  refine m_pure (pc' := 60) (st' := [.int ((nI (13 + (3 * i))) + 2), .ref 1525, .ref 1482]) cd_Mo_keyOf rfl rfl (fun _ _ => rfl) ?_
  refine m_eq (show ((nI (13 + (3 * i))) + 2 : Int32) = nI ((13 + (3 * i)) + 2) from nI_add (13 + (3 * i)) 2) ?_
  refine m_aI (r := 42) (a := 43) (g := (A 43)) (x := ((A 43) ((13 + (3 * i)) + 2))) (pc' := 61) rfl rfl cd_Mo_keyOf rfl rfl rfl (vp_in_nI (by omega) (by decide)) (congrArg (A 43) (nI_clamp (by omega))) ?_
  refine m_pI (k := 61) (pc' := 64) cd_Mo_keyOf rfl rfl rfl rfl (by simp [tm_okV, narrow, fits]) rfl rfl ?_
  refine m_ild (pc' := 66) cd_Mo_keyOf rfl (Or.inl ⟨rfl, rfl⟩) l5 rfl ?_
  refine m_ist (pc' := 68) cd_Mo_keyOf rfl (Or.inl ⟨rfl, rfl⟩) (by decide) rfl (fun lv el => ?_)
  have l0 := tm_lk el l0 rfl (by decide)
  have l5 := tm_lk el l5 rfl (by decide)
  have l6 : lv.lookup 6 = some (.int (nI (13 + (3 * i)))) := tm_lks el
  clear el
  have k0 : mg sc (d + 6) 236 68 lv [] (fset f 61 (A 43 (13 + (3 * i) + 2)), fset A 43 (shW 3 (A 43) (13 + (3 * i)) (13 + (3 * i)))) (fun r s' => ∃ v, r = some (.int v) ∧ Q v s') := by
    refine l_mkey0 (fun lv l0 => ?_) (34 - (13 + (3 * i))) (13 + (3 * i)) (by omega) (Nat.le_refl _) lv l0 l6
    refine m_ald (pc' := 100) cd_Mo_keyOf rfl (Or.inr ⟨_, rfl, rfl, rfl⟩) l0 rfl rfl ?_
    refine m_fR (r := 42) (a := 43) (ad := 1525) (pc' := 103) rfl rfl cd_Mo_keyOf rfl rfl rfl rfl rfl ?_
    refine m_k2 (v := 12) (pc' := 105) cd_Mo_keyOf rfl (by decide) rfl ?_
    refine m_pure (pc' := 106) (st' := [.int 12, .ref 1525, .int 12, .ref 1525]) cd_Mo_keyOf rfl rfl (fun _ _ => rfl) ?_
    refine m_aI (r := 42) (a := 43) (g := (shW 3 (A 43) (13 + (3 * i)) 34)) (x := nI le.length) (pc' := 107) rfl rfl cd_Mo_keyOf rfl rfl rfl (vp_in_nI (n := 12) (by decide) (by decide)) (by rw [(show (12 : Int32).toNatClampNeg = 12 by decide), shW_out (by omega)]; exact a12) ?_
    refine m_k1 (v := 1) (pc' := 108) cd_Mo_keyOf rfl (by decide) rfl ?_
    refine m_pure (pc' := 109) (st' := [.int ((nI le.length) - 1), .int 12, .ref 1525]) cd_Mo_keyOf rfl rfl (fun _ _ => rfl) ?_
    refine m_eq (show ((nI le.length) - 1 : Int32) = nI (le.length - 1) from pk_sub (a := le.length) (b := 1) (by omega)) ?_
    refine m_aS (r := 42) (a := 43) (g := (shW 3 (A 43) (13 + (3 * i)) 34)) (p := 12) (pc' := 110) rfl rfl cd_Mo_keyOf rfl rfl rfl (vp_in_nI (n := 12) (by decide) (by decide)) (show (12 : Int32).toNatClampNeg = 12 by decide) ?_
    refine m_k1 (v := 0) (pc' := 111) cd_Mo_keyOf rfl (by decide) rfl ?_
    have hl2 : (le.eraseIdx i).length = le.length - 1 := by rw [List.length_eraseIdx, if_pos hi]
    have hq : qSe (upd (shW 3 (A 43) (13 + (3 * i)) 34) 12 (nI (le.length - 1))) T 0 ((th, ch, nx, le.eraseIdx i), ba, ro, mi, sd, n, b, br, bp, bo, on) := by
      refine qSe_le (List.prefix_refl T) hS2 (fun k hk => by rw [upd_ne (by omega), shW_out (by omega)]) ?_ (by omega) ?_
      · rw [upd_same, hl2]
      · exact qLf_shift (by omega) a14 (fun k k1 k2 => by rw [upd_ne (by omega)])
    exact m_reti cd_Mo_keyOf rfl ⟨_, rfl, (mK_end (Q := Q 0) (f := f) (A := A) (fun k q => by have e0 : ¬ k = 0 := (by omega); have e7 : ¬ k = 7 := (by omega); have e61 : ¬ k = 61 := (by omega); simp only [fset, mjF, mjKf, e0, e7, e61, or_self, if_false]) (fun j q => by have e0 : ¬ (1 ≤ j ∧ j ≤ 8) := (by omega); have e43 : ¬ j = 43 := (by omega); have e44 : ¬ j = 44 := (by omega); simp only [fset, mjA, mjKA, e0, e43, e44, or_self, if_false]) (kk _ _ (by exact MT_i hM rfl rfl rfl rfl rfl rfl rfl rfl rfl rfl) rfl h61 hq))⟩
  rw [shW_0, fset_id] at k0
  exact k0
set_option maxRecDepth 100000 in
theorem l_mkeyL {sc : tm_X} {d : Nat} {f : Nat → Int32} {A : Nat → Nat → Int32} {T : List Tm} {DL : List (Int32 × Int32)} {G Kw : Tm → Prop} {th ch ba ro mi sd bp bo : Tm} {nx n b : Int32} {le : List (Tm × Int32 × Tm)} {br on : Bool} {xi m m3 : Nat} {P : Tm} {Q : Int32 → MS → Prop} (hM : MT f A T DL G Kw) (hS : qSe (A 43) T 0 ((th, ch, nx, le), ba, ro, mi, sd, n, b, br, bp, bo, on)) (hX : T[xi]? = some P) (hm : m ≤ 9999) (kn : lf_no le P (nI m) → ∀ lv : tm_L, lv.lookup 0 = some (.ref 1482) → lv.lookup 1 = some (.int (nI xi)) → lv.lookup 2 = some (.int (nI m)) → lv.lookup 3 = some (.int (nI m3)) →  mg sc (d + 6) 236 118 lv [] (f, A) (fun r s' => ∃ v, r = some (.int v) ∧ Q v s')) (kf : ∀ i e, lf_at le P (nI m) i e → ∀ f1 A1, MT (mjKf f1 f) (mjKA A1 A) T DL G Kw → A1 1 = A 1 → tv T (f1 61) e → qSe (A1 43) T 0 ((th, ch, nx, le.eraseIdx i), ba, ro, mi, sd, n, b, br, bp, bo, on) → Q 0 (mjKf f1 f, mjKA A1 A)) : ∀ (r i : Nat), i + r = le.length → (∀ j e, j < i → le[j]? = some e → ¬ (e.1 = P ∧ e.2.1 = nI m)) → ∀ lv : tm_L, lv.lookup 0 = some (.ref 1482) → lv.lookup 1 = some (.int (nI xi)) → lv.lookup 2 = some (.int (nI m)) → lv.lookup 3 = some (.int (nI m3)) →  lv.lookup 4 = some (.int (nI i)) → mg sc (d + 6) 236 3 lv [] (f, A) (fun r s' => ∃ v, r = some (.int v) ∧ Q v s') := by
  have hTl := MT_len hM
  have hxi := tv_lt hX
  have hS2 := hS
  obtain ⟨⟨a1, a2, a3, a4, a5, a6⟩, ⟨a7, a8, a9⟩, ⟨a10, a11⟩, ⟨a12, a13⟩, a14, a15⟩ := hS
  intro r
  induction r with
  | zero =>
    intro i hi hb lv l0 l1 l2 l3 l4
    refine m_ild (pc' := 5) cd_Mo_keyOf rfl (Or.inl ⟨rfl, rfl⟩) l4 rfl ?_
    refine m_ald (pc' := 6) cd_Mo_keyOf rfl (Or.inr ⟨_, rfl, rfl, rfl⟩) l0 rfl rfl ?_
    refine m_fR (r := 42) (a := 43) (ad := 1525) (pc' := 9) rfl rfl cd_Mo_keyOf rfl rfl rfl rfl rfl ?_
    refine m_k2 (v := 12) (pc' := 11) cd_Mo_keyOf rfl (by decide) rfl ?_
    refine m_aI (r := 42) (a := 43) (g := (A 43)) (x := nI le.length) (pc' := 12) rfl rfl cd_Mo_keyOf rfl rfl rfl (vp_in_nI (n := 12) (by decide) (by decide)) (by rw [(show (12 : Int32).toNatClampNeg = 12 by decide)]; exact a12) ?_
    refine m_if2 (t := 118) (pc' := 15) cd_Mo_keyOf rfl rfl rfl (fun c12 => ?_) (fun c12 => ?_)
    · have c12 : (nI le.length) ≤ (nI i) := c12
      exact kn (fun j e he => hb j e (by have := (List.getElem?_eq_some_iff.mp he).1; omega) he) lv l0 l1 l2 l3
    · have c12 : ¬ (nI le.length) ≤ (nI i) := c12
      exact absurd (nI_le (by omega) (by omega)) c12
  | succ r ih =>
    intro i hi hb lv l0 l1 l2 l3 l4
    obtain ⟨e, he⟩ : ∃ e, le[i]? = some e := ⟨_, List.getElem?_eq_getElem (by omega)⟩
    obtain ⟨g1, g2, g3⟩ := a14 i e he
    rw [show 0 + 13 + 3 * i = 13 + (3 * i) by omega] at g1
    rw [show 0 + 14 + 3 * i = 13 + (3 * i) + 1 by omega] at g2
    refine m_ild (pc' := 5) cd_Mo_keyOf rfl (Or.inl ⟨rfl, rfl⟩) l4 rfl ?_
    refine m_ald (pc' := 6) cd_Mo_keyOf rfl (Or.inr ⟨_, rfl, rfl, rfl⟩) l0 rfl rfl ?_
    refine m_fR (r := 42) (a := 43) (ad := 1525) (pc' := 9) rfl rfl cd_Mo_keyOf rfl rfl rfl rfl rfl ?_
    refine m_k2 (v := 12) (pc' := 11) cd_Mo_keyOf rfl (by decide) rfl ?_
    refine m_aI (r := 42) (a := 43) (g := (A 43)) (x := nI le.length) (pc' := 12) rfl rfl cd_Mo_keyOf rfl rfl rfl (vp_in_nI (n := 12) (by decide) (by decide)) (by rw [(show (12 : Int32).toNatClampNeg = 12 by decide)]; exact a12) ?_
    refine m_if2 (t := 118) (pc' := 15) cd_Mo_keyOf rfl rfl rfl (fun c12 => ?_) (fun c12 => ?_)
    · have c12 : (nI le.length) ≤ (nI i) := c12
      exact absurd c12 (nI_ge (by omega) (by omega))
    · have c12 : ¬ (nI le.length) ≤ (nI i) := c12
      refine m_k2 (v := 13) (pc' := 17) cd_Mo_keyOf rfl (by decide) rfl ?_
      refine m_k1 (v := 3) (pc' := 18) cd_Mo_keyOf rfl (by decide) rfl ?_
      refine m_ild (pc' := 20) cd_Mo_keyOf rfl (Or.inl ⟨rfl, rfl⟩) l4 rfl ?_
      refine m_pure (pc' := 21) (st' := [.int ((3 : Int32) * (nI i)), .int 13]) cd_Mo_keyOf rfl rfl (fun _ _ => rfl) ?_
      refine m_eq (show ((3 : Int32) * (nI i) : Int32) = nI (3 * i) from pk_mul 3 i) ?_
      refine m_pure (pc' := 22) (st' := [.int ((13 : Int32) + (nI (3 * i)))]) cd_Mo_keyOf rfl rfl (fun _ _ => rfl) ?_
      refine m_eq (show ((13 : Int32) + (nI (3 * i)) : Int32) = nI (13 + (3 * i)) from nI_add 13 (3 * i)) ?_
      refine m_ist (pc' := 24) cd_Mo_keyOf rfl (Or.inl ⟨rfl, rfl⟩) (by decide) rfl (fun lv el => ?_)
      have l0 := tm_lk el l0 rfl (by decide)
      have l1 := tm_lk el l1 rfl (by decide)
      have l2 := tm_lk el l2 rfl (by decide)
      have l3 := tm_lk el l3 rfl (by decide)
      have l4 := tm_lk el l4 rfl (by decide)
      have l5 : lv.lookup 5 = some (.int (nI (13 + (3 * i)))) := tm_lks el
      clear el
      refine m_ald (pc' := 25) cd_Mo_keyOf rfl (Or.inr ⟨_, rfl, rfl, rfl⟩) l0 rfl rfl ?_
      refine m_fR (r := 42) (a := 43) (ad := 1525) (pc' := 28) rfl rfl cd_Mo_keyOf rfl rfl rfl rfl rfl ?_
      refine m_ild (pc' := 30) cd_Mo_keyOf rfl (Or.inl ⟨rfl, rfl⟩) l5 rfl ?_
      refine m_aI (r := 42) (a := 43) (g := (A 43)) (x := ((A 43) (13 + (3 * i)))) (pc' := 31) rfl rfl cd_Mo_keyOf rfl rfl rfl (vp_in_nI (by omega) (by decide)) (congrArg (A 43) (nI_clamp (by omega))) ?_
      refine m_ild (pc' := 32) cd_Mo_keyOf rfl (Or.inr ⟨_, rfl, rfl, rfl⟩) l1 rfl ?_
      refine m_if2 (t := 112) (pc' := 35) cd_Mo_keyOf rfl rfl rfl (fun c32 => ?_) (fun c32 => ?_)
      · have c32 : ¬ ((A 43) (13 + (3 * i))) = (nI xi) := c32
        refine m_inc (y := nI (i + 1)) (pc' := 115) cd_Mo_keyOf rfl l4 (by decide) (nI_add i 1) rfl (fun lv el => ?_)
        have l0 := tm_lk el l0 rfl (by decide)
        have l1 := tm_lk el l1 rfl (by decide)
        have l2 := tm_lk el l2 rfl (by decide)
        have l3 := tm_lk el l3 rfl (by decide)
        have l5 := tm_lk el l5 rfl (by decide)
        have l4 : lv.lookup 4 = some (.int (nI (i + 1))) := tm_lks el
        clear el
        refine m_pure (pc' := 3) (st' := []) cd_Mo_keyOf rfl rfl (fun _ _ => rfl) ?_
        have hne : ¬ (e.1 = P ∧ e.2.1 = nI m) := (fun q => c32 ((MT_eq hM g1 ⟨xi, rfl, hX⟩).mpr q.1))
        refine ih (i + 1) (by omega) (fun j e' hj hje => ?_) lv l0 l1 l2 l3 l4
        by_cases q : j = i
        · rw [q, he] at hje
          cases hje
          exact hne
        · exact hb j e' (by omega) hje
      · have c32 : ((A 43) (13 + (3 * i))) = (nI xi) := Classical.not_not.mp c32
        refine m_ald (pc' := 36) cd_Mo_keyOf rfl (Or.inr ⟨_, rfl, rfl, rfl⟩) l0 rfl rfl ?_
        refine m_fR (r := 42) (a := 43) (ad := 1525) (pc' := 39) rfl rfl cd_Mo_keyOf rfl rfl rfl rfl rfl ?_
        refine m_ild (pc' := 41) cd_Mo_keyOf rfl (Or.inl ⟨rfl, rfl⟩) l5 rfl ?_
        refine m_k1 (v := 1) (pc' := 42) cd_Mo_keyOf rfl (by decide) rfl ?_
        refine m_pure (pc' := 43) (st' := [.int ((nI (13 + (3 * i))) + 1), .ref 1525]) cd_Mo_keyOf rfl rfl (fun _ _ => rfl) ?_
        refine m_eq (show ((nI (13 + (3 * i))) + 1 : Int32) = nI ((13 + (3 * i)) + 1) from nI_add (13 + (3 * i)) 1) ?_
        refine m_aI (r := 42) (a := 43) (g := (A 43)) (x := e.2.1) (pc' := 44) rfl rfl cd_Mo_keyOf rfl rfl rfl (vp_in_nI (by omega) (by decide)) (by rw [(nI_clamp (by omega))]; exact g2) ?_
        refine m_ild (pc' := 45) cd_Mo_keyOf rfl (Or.inr ⟨_, rfl, rfl, rfl⟩) l2 rfl ?_
        refine m_if2 (t := 51) (pc' := 48) cd_Mo_keyOf rfl rfl rfl (fun c45 => ?_) (fun c45 => ?_)
        · have c45 : e.2.1 = (nI m) := c45
          have h1 : e.1 = P := (MT_eq hM g1 ⟨xi, rfl, hX⟩).mp c32
          refine l_mkeyF hM hS2 he (fun f1 A1 q1 q2 q3 q4 => ?_) lv l0 l5
          exact kf i e.2.2 ⟨⟨e, he, h1, c45, rfl⟩, hb⟩ f1 A1 q1 q2 q3 q4
        · have c45 : ¬ e.2.1 = (nI m) := c45
          refine m_pure (pc' := 112) (st' := []) cd_Mo_keyOf rfl rfl (fun _ _ => rfl) ?_
          refine m_inc (y := nI (i + 1)) (pc' := 115) cd_Mo_keyOf rfl l4 (by decide) (nI_add i 1) rfl (fun lv el => ?_)
          have l0 := tm_lk el l0 rfl (by decide)
          have l1 := tm_lk el l1 rfl (by decide)
          have l2 := tm_lk el l2 rfl (by decide)
          have l3 := tm_lk el l3 rfl (by decide)
          have l5 := tm_lk el l5 rfl (by decide)
          have l4 : lv.lookup 4 = some (.int (nI (i + 1))) := tm_lks el
          clear el
          refine m_pure (pc' := 3) (st' := []) cd_Mo_keyOf rfl rfl (fun _ _ => rfl) ?_
          have hne : ¬ (e.1 = P ∧ e.2.1 = nI m) := (fun q => c45 q.2)
          refine ih (i + 1) (by omega) (fun j e' hj hje => ?_) lv l0 l1 l2 l3 l4
          by_cases q : j = i
          · rw [q, he] at hje
            cases hje
            exact hne
          · exact hb j e' (by omega) hje
set_option maxRecDepth 100000 in
theorem l_mkeyN {sc : tm_X} {d : Nat} {f : Nat → Int32} {A : Nat → Nat → Int32} {T : List Tm} {DL : List (Int32 × Int32)} {G Kw : Tm → Prop} {th ch ba ro mi sd bp bo : Tm} {n b : Int32} {le : List (Tm × Int32 × Tm)} {br on : Bool} {m nn : Nat} {Q : Int32 → MS → Prop} (hM : MT f A T DL G Kw) (hl : T.length + 12 ≤ 4000) (hr : rc (A 1) T.length < 1000) (hm : m ≤ 9999) (hn : nn ≤ 10000) (hS : qSe (A 43) T 0 ((th, ch, nI nn, le), ba, ro, mi, sd, n, b, br, bp, bo, on)) (k0 : (ib_next (th, ch, nI nn, le) (nI m)) = none → ∀ f1 A1 T1, T <+: T1 → T1.length ≤ T.length + 12 → rc (A1 1) T1.length ≤ rc (A 1) T.length →  MT (mjKf f1 f) (mjKA A1 A) T1 DL G Kw → Q (-13) (mjKf f1 f, mjKA A1 A)) (kk : ∀ r, (ib_next (th, ch, nI nn, le) (nI m)) = some r → ∀ f1 A1 T1, T <+: T1 → T1.length ≤ T.length + 12 → rc (A1 1) T1.length ≤ rc (A 1) T.length →  MT (mjKf f1 f) (mjKA A1 A) T1 DL G Kw → tv T1 (f1 61) r.1 → qSe (A1 43) T1 0 (r.2, ba, ro, mi, sd, n, b, br, bp, bo, on) → Q 0 (mjKf f1 f, mjKA A1 A)) : ∀ lv : tm_L, lv.lookup 0 = some (.ref 1482) → lv.lookup 2 = some (.int (nI m)) →  mg sc (d + 6) 236 249 lv [] (f, A) (fun r s' => ∃ v, r = some (.int v) ∧ Q v s') := by
  intro lv l0 l2
  have hTl := MT_len hM
  have hS2 := hS
  obtain ⟨⟨a1, a2, a3, a4, a5, a6⟩, ⟨a7, a8, a9⟩, ⟨a10, a11⟩, ⟨a12, a13⟩, a14, a15⟩ := hS
  refine m_ild (pc' := 250) cd_Mo_keyOf rfl (Or.inr ⟨_, rfl, rfl, rfl⟩) l2 rfl ?_
  refine m_ald (pc' := 251) cd_Mo_keyOf rfl (Or.inr ⟨_, rfl, rfl, rfl⟩) l0 rfl rfl ?_
  refine m_fR (r := 42) (a := 43) (ad := 1525) (pc' := 254) rfl rfl cd_Mo_keyOf rfl rfl rfl rfl rfl ?_
  refine m_k2 (v := 8) (pc' := 256) cd_Mo_keyOf rfl (by decide) rfl ?_
  refine m_aI (r := 42) (a := 43) (g := (A 43)) (x := nI nn) (pc' := 257) rfl rfl cd_Mo_keyOf rfl rfl rfl (vp_in_nI (n := 8) (by decide) (by decide)) (by rw [(show (8 : Int32).toNatClampNeg = 8 by decide)]; exact a9) ?_
  refine m_if2 (t := 268) (pc' := 260) cd_Mo_keyOf rfl rfl rfl (fun c257 => ?_) (fun c257 => ?_)
  · have c257 : (nI m) < (nI nn) := c257
    refine m_k2 (v := (-13)) (pc' := 270) cd_Mo_keyOf rfl (by decide) rfl ?_
    exact m_reti cd_Mo_keyOf rfl ⟨_, rfl, (mK_end (Q := Q (-13)) (f := f) (A := A) (fun _ _ => rfl) (fun _ _ => rfl) (k0 (if_pos c257) f A T (List.prefix_refl T) (by omega) (Nat.le_refl _) (by exact MT_i hM rfl rfl rfl rfl rfl rfl rfl rfl rfl rfl)))⟩
  · have c257 : ¬ (nI m) < (nI nn) := c257
    refine m_ald (pc' := 261) cd_Mo_keyOf rfl (Or.inr ⟨_, rfl, rfl, rfl⟩) l0 rfl rfl ?_
    refine m_ild (pc' := 262) cd_Mo_keyOf rfl (Or.inr ⟨_, rfl, rfl, rfl⟩) l2 rfl ?_
    refine m_ci (pc' := 265) cd_Mo_keyOf rfl rfl rfl rfl rfl cd_Mo_skipSession rfl (Nat.le_of_ble_eq_true rfl) (m_skipSes hM (by omega) hr hm hn hS2 (fun hJ => ?_) (fun J hJ f1 A1 T1 p1 q1 s1 hM1 e61 hq1 => ?_))
    · skip
      show mg _ _ _ 265 _ [.int 0] _ _
      refine m_if1 (t := 271) (pc' := 268) cd_Mo_keyOf rfl rfl rfl (fun c265 => ?_) (fun c265 => ?_)
      · exact absurd (show ¬ (0 : Int32) = 0 from c265) (by decide)
      · have c265 : (0 : Int32) = 0 := Classical.not_not.mp c265
        refine m_k2 (v := (-13)) (pc' := 270) cd_Mo_keyOf rfl (by decide) rfl ?_
        exact m_reti cd_Mo_keyOf rfl ⟨_, rfl, (mK_end (Q := Q (-13)) (f := f) (A := A) (fun _ _ => rfl) (fun _ _ => rfl) (k0 ((if_neg c257).trans (by rw [hJ]; rfl)) f A T (List.prefix_refl T) (by omega) (Nat.le_refl _) (by exact MT_i hM rfl rfl rfl rfl rfl rfl rfl rfl rfl rfl)))⟩
    · skip
      obtain ⟨th1, ch1, nx1, le1⟩ := J
      show mg _ _ _ 265 _ [.int 1] _ _
      refine m_if1 (t := 271) (pc' := 268) cd_Mo_keyOf rfl rfl rfl (fun c265 => ?_) (fun c265 => ?_)
      · have c265 : ¬ (1 : Int32) = 0 := c265
        refine m_ald (pc' := 272) cd_Mo_keyOf rfl (Or.inr ⟨_, rfl, rfl, rfl⟩) l0 rfl rfl ?_
        refine m_ald (pc' := 273) cd_Mo_keyOf rfl (Or.inr ⟨_, rfl, rfl, rfl⟩) l0 rfl rfl ?_
        refine m_k2 (v := 6) (pc' := 275) cd_Mo_keyOf rfl (by decide) rfl ?_
        refine m_ald (pc' := 276) cd_Mo_keyOf rfl (Or.inr ⟨_, rfl, rfl, rfl⟩) l0 rfl rfl ?_
        refine m_fR (r := 42) (a := 43) (ad := 1525) (pc' := 279) rfl rfl cd_Mo_keyOf rfl rfl rfl rfl rfl ?_
        refine m_k2 (v := 7) (pc' := 281) cd_Mo_keyOf rfl (by decide) rfl ?_
        refine m_aI (r := 42) (a := 43) (g := ((mjKA A1 A) 43)) (x := (A1 43 7)) (pc' := 282) rfl rfl cd_Mo_keyOf rfl rfl rfl (vp_in_nI (n := 7) (by decide) (by decide)) (congrArg (A1 43) (show (7 : Int32).toNatClampNeg = 7 by decide)) ?_
        refine m_k1 (v := 0) (pc' := 283) cd_Mo_keyOf rfl (by decide) rfl ?_
        refine m_ci (pc' := 286) cd_Mo_keyOf rfl rfl rfl rfl rfl cd_Mo_mix rfl (Nat.le_of_ble_eq_true rfl) (m_mix (by exact MT_i hM1 rfl rfl rfl rfl rfl rfl rfl rfl rfl rfl) (by omega) (by show rc (A1 1) T1.length < 1000; omega) hq1.1.2.2.2.2.2 (MT_z hM1) (fun f2 A2 T2 r2 hx2 hr2 => ?_))
        obtain ⟨p2, q2, s2, hM2⟩ := hx2
        have hM2 : MT f2 A2 T2 _ _ _ := MT_i hM2 rfl rfl rfl rfl rfl rfl rfl rfl rfl rfl
        have s2 : rc (A2 1) T2.length ≤ rc (A1 1) T1.length + 0 := s2
        show mg _ _ _ 286 _ [.int r2, .ref 1482] _ _
        refine m_pI (k := 61) (pc' := 289) cd_Mo_keyOf rfl rfl rfl rfl (by simp [tm_okV, narrow, fits]) rfl rfl ?_
        refine m_ald (pc' := 290) cd_Mo_keyOf rfl (Or.inr ⟨_, rfl, rfl, rfl⟩) l0 rfl rfl ?_
        refine m_cv (pc' := 293) cd_Mo_keyOf rfl rfl rfl rfl rfl cd_Mo_stepSession rfl (Nat.le_of_ble_eq_true rfl) (m_stepSes (by exact MT_i hM2 rfl rfl rfl rfl rfl rfl rfl rfl rfl rfl) (by omega) (by show rc (A2 1) T2.length < 1000; omega) (show qSe (A1 43) T2 0 _ from qSe_c p2 (fun _ _ => rfl) hq1) (fun f3 A3 T3 p3 q3 s3 hM3 e63 _ hq3 => ?_))
        show mg _ _ _ 293 _ [] _ _
        refine m_k1 (v := 0) (pc' := 294) cd_Mo_keyOf rfl (by decide) rfl ?_
        have s3 : rc (A3 1) T3.length ≤ rc (A2 1) T2.length := s3
        have g61 : f3 61 = r2 := e63
        exact m_reti cd_Mo_keyOf rfl ⟨_, rfl, (mK_end (Q := Q 0) (f := f) (A := A) (fun k q => by have e0 : ¬ k = 0 := (by omega); have e7 : ¬ k = 7 := (by omega); have e61 : ¬ k = 61 := (by omega); simp only [fset, mjF, mjKf, e0, e7, e61, or_self, if_false]) (fun j q => by have e0 : ¬ (1 ≤ j ∧ j ≤ 8) := (by omega); have e43 : ¬ j = 43 := (by omega); have e44 : ¬ j = 44 := (by omega); simp only [fset, mjA, mjKA, e0, e43, e44, or_self, if_false]) (kk (Tmx 6 ch1 tz, (th1, Tmx 7 ch1 tz, nx1 + 1, le1)) ((if_neg c257).trans (by rw [hJ]; rfl)) _ _ T3 (p1.trans (p2.trans p3)) (by omega) (show rc (A3 1) _ ≤ _ by omega) (by exact MT_i hM3 rfl rfl rfl rfl rfl rfl rfl rfl rfl rfl) (show tv T3 (f3 61) _ by rw [g61]; exact tv_mono p3 hr2) hq3))⟩
      · exact absurd (show ¬ (¬ (1 : Int32) = 0) from c265) (by decide)
set_option maxRecDepth 100000 in
theorem l_mkeyR {sc : tm_X} {d : Nat} {f : Nat → Int32} {A : Nat → Nat → Int32} {T : List Tm} {DL : List (Int32 × Int32)} {G Kw : Tm → Prop} {th ch ba ro mi sd bp bo : Tm} {nx n b : Int32} {le : List (Tm × Int32 × Tm)} {br on : Bool} {xi m m3 : Nat} {P : Tm} {Q : Int32 → MS → Prop} (hM : MT f A T DL G Kw) (hl : T.length + 15 ≤ 4000) (hr : rc (A 1) T.length < 1000) (hm : m ≤ 9999) (hX : T[xi]? = some P) (kP : kd P = 2) (kP0 : kd (pt P 0) = 1) (kmi : kd mi = 1) (hS : qSe (A 43) T 0 ((th, ch, nx, le), ba, ro, mi, sd, n, b, br, bp, bo, on)) (k0 : (ib_next (ss_recv ((th, ch, nx, le), ba, ro, mi, sd, n, b, br, bp, bo, on) P).1 (nI m)) = none → ∀ f1 A1 T1, T <+: T1 → T1.length ≤ T.length + 15 → rc (A1 1) T1.length ≤ rc (A 1) T.length →  MT (mjKf f1 f) (mjKA A1 A) T1 DL G Kw → Q (-13) (mjKf f1 f, mjKA A1 A)) (kk : ∀ r, (ib_next (ss_recv ((th, ch, nx, le), ba, ro, mi, sd, n, b, br, bp, bo, on) P).1 (nI m)) = some r → ∀ f1 A1 T1, T <+: T1 → T1.length ≤ T.length + 15 → rc (A1 1) T1.length ≤ rc (A 1) T.length →  MT (mjKf f1 f) (mjKA A1 A) T1 DL G Kw → tv T1 (f1 61) r.1 → qSe (A1 43) T1 0 (r.2, (ss_recv ((th, ch, nx, le), ba, ro, mi, sd, n, b, br, bp, bo, on) P).2) → Q 0 (mjKf f1 f, mjKA A1 A)) : ∀ lv : tm_L, lv.lookup 0 = some (.ref 1482) → lv.lookup 1 = some (.int (nI xi)) → lv.lookup 2 = some (.int (nI m)) → lv.lookup 3 = some (.int (nI m3)) →  mg sc (d + 6) 236 170 lv [] (f, A) (fun r s' => ∃ v, r = some (.int v) ∧ Q v s') := by
  intro lv l0 l1 l2 l3
  have hTl := MT_len hM
  have hxi := tv_lt hX
  have hS2 := hS
  obtain ⟨⟨a1, a2, a3, a4, a5, a6⟩, ⟨a7, a8, a9⟩, ⟨a10, a11⟩, ⟨a12, a13⟩, a14, a15⟩ := hS
  have hO := MT_one hM hX (Or.inl kP)
  refine m_ald (pc' := 171) cd_Mo_keyOf rfl (Or.inr ⟨_, rfl, rfl, rfl⟩) l0 rfl rfl ?_
  refine m_ald (pc' := 172) cd_Mo_keyOf rfl (Or.inr ⟨_, rfl, rfl, rfl⟩) l0 rfl rfl ?_
  refine m_fR (r := 42) (a := 43) (ad := 1525) (pc' := 175) rfl rfl cd_Mo_keyOf rfl rfl rfl rfl rfl ?_
  refine m_k1 (v := 2) (pc' := 176) cd_Mo_keyOf rfl (by decide) rfl ?_
  refine m_aI (r := 42) (a := 43) (g := (A 43)) (x := ((A 43) 2)) (pc' := 177) rfl rfl cd_Mo_keyOf rfl rfl rfl (vp_in_nI (n := 2) (by decide) (by decide)) (congrArg (A 43) (show (2 : Int32).toNatClampNeg = 2 by decide)) ?_
  refine m_ald (pc' := 178) cd_Mo_keyOf rfl (Or.inr ⟨_, rfl, rfl, rfl⟩) l0 rfl rfl ?_
  refine m_fR (r := 1) (a := 2) (ad := 1484) (pc' := 181) rfl rfl cd_Mo_keyOf rfl rfl rfl rfl rfl ?_
  refine m_ild (pc' := 182) cd_Mo_keyOf rfl (Or.inr ⟨_, rfl, rfl, rfl⟩) l1 rfl ?_
  refine m_aI (r := 1) (a := 2) (g := (A 2)) (x := ((A 2) xi)) (pc' := 183) rfl rfl cd_Mo_keyOf rfl rfl rfl (vp_in_nI (by omega) (by decide)) (congrArg (A 2) (nI_clamp (by omega))) ?_
  refine m_ci (pc' := 186) cd_Mo_keyOf rfl rfl rfl rfl rfl cd_Mo_shared rfl (Nat.le_of_ble_eq_true rfl) (m_shared (by exact MT_i hM rfl rfl rfl rfl rfl rfl rfl rfl rfl rfl) (by omega) (by show rc (A 1) T.length < 1000; omega) a3 hO kmi kP0 (fun f1 A1 T1 r1 hx1 hr1 => ?_))
  obtain ⟨p1, q1, s1, hM1⟩ := hx1
  have hM1 : MT f1 A1 T1 _ _ _ := MT_i hM1 rfl rfl rfl rfl rfl rfl rfl rfl rfl rfl
  have s1 : rc (A1 1) T1.length ≤ rc (A 1) T.length + 0 := s1
  show mg _ _ _ 186 _ [.int r1] _ _
  refine m_ist (pc' := 188) cd_Mo_keyOf rfl (Or.inl ⟨rfl, rfl⟩) (by decide) rfl (fun lv el => ?_)
  have l0 := tm_lk el l0 rfl (by decide)
  have l1 := tm_lk el l1 rfl (by decide)
  have l2 := tm_lk el l2 rfl (by decide)
  have l3 := tm_lk el l3 rfl (by decide)
  have l4 : lv.lookup 4 = some (.int r1) := tm_lks el
  clear el
  refine m_ald (pc' := 189) cd_Mo_keyOf rfl (Or.inr ⟨_, rfl, rfl, rfl⟩) l0 rfl rfl ?_
  refine m_fR (r := 42) (a := 43) (ad := 1525) (pc' := 192) rfl rfl cd_Mo_keyOf rfl rfl rfl rfl rfl ?_
  refine m_k2 (v := 7) (pc' := 194) cd_Mo_keyOf rfl (by decide) rfl ?_
  refine m_ald (pc' := 195) cd_Mo_keyOf rfl (Or.inr ⟨_, rfl, rfl, rfl⟩) l0 rfl rfl ?_
  refine m_k1 (v := 5) (pc' := 196) cd_Mo_keyOf rfl (by decide) rfl ?_
  refine m_ald (pc' := 197) cd_Mo_keyOf rfl (Or.inr ⟨_, rfl, rfl, rfl⟩) l0 rfl rfl ?_
  refine m_fR (r := 42) (a := 43) (ad := 1525) (pc' := 200) rfl rfl cd_Mo_keyOf rfl rfl rfl rfl rfl ?_
  refine m_k1 (v := 1) (pc' := 201) cd_Mo_keyOf rfl (by decide) rfl ?_
  refine m_aI (r := 42) (a := 43) (g := (A 43)) (x := ((A 43) 1)) (pc' := 202) rfl rfl cd_Mo_keyOf rfl rfl rfl (vp_in_nI (n := 1) (by decide) (by decide)) (congrArg (A 43) (show (1 : Int32).toNatClampNeg = 1 by decide)) ?_
  refine m_ild (pc' := 204) cd_Mo_keyOf rfl (Or.inl ⟨rfl, rfl⟩) l4 rfl ?_
  refine m_ci (pc' := 207) cd_Mo_keyOf rfl rfl rfl rfl rfl cd_Mo_mix rfl (Nat.le_of_ble_eq_true rfl) (m_mix (by exact MT_i hM1 rfl rfl rfl rfl rfl rfl rfl rfl rfl rfl) (by omega) (by show rc (A1 1) T1.length < 1000; omega) (tv_mono p1 a2) hr1 (fun f2 A2 T2 r2 hx2 hr2 => ?_))
  obtain ⟨p2, q2, s2, hM2⟩ := hx2
  have hM2 : MT f2 A2 T2 _ _ _ := MT_i hM2 rfl rfl rfl rfl rfl rfl rfl rfl rfl rfl
  have s2 : rc (A2 1) T2.length ≤ rc (A1 1) T1.length + 0 := s2
  show mg _ _ _ 207 _ [.int r2, .int 7, .ref 1525] _ _
  refine m_aS (r := 42) (a := 43) (g := (A 43)) (p := 7) (pc' := 208) rfl rfl cd_Mo_keyOf rfl rfl rfl (vp_in_nI (n := 7) (by decide) (by decide)) (show (7 : Int32).toNatClampNeg = 7 by decide) ?_
  refine m_ald (pc' := 209) cd_Mo_keyOf rfl (Or.inr ⟨_, rfl, rfl, rfl⟩) l0 rfl rfl ?_
  refine m_fR (r := 42) (a := 43) (ad := 1525) (pc' := 212) rfl rfl cd_Mo_keyOf rfl rfl rfl rfl rfl ?_
  refine m_k1 (v := 1) (pc' := 213) cd_Mo_keyOf rfl (by decide) rfl ?_
  refine m_ald (pc' := 214) cd_Mo_keyOf rfl (Or.inr ⟨_, rfl, rfl, rfl⟩) l0 rfl rfl ?_
  refine m_k1 (v := 4) (pc' := 215) cd_Mo_keyOf rfl (by decide) rfl ?_
  refine m_ald (pc' := 216) cd_Mo_keyOf rfl (Or.inr ⟨_, rfl, rfl, rfl⟩) l0 rfl rfl ?_
  refine m_fR (r := 42) (a := 43) (ad := 1525) (pc' := 219) rfl rfl cd_Mo_keyOf rfl rfl rfl rfl rfl ?_
  refine m_k1 (v := 1) (pc' := 220) cd_Mo_keyOf rfl (by decide) rfl ?_
  refine m_aI (r := 42) (a := 43) (g := (upd (A 43) 7 r2)) (x := ((A 43) 1)) (pc' := 221) rfl rfl cd_Mo_keyOf rfl rfl rfl (vp_in_nI (n := 1) (by decide) (by decide)) (by rw [(show (1 : Int32).toNatClampNeg = 1 by decide), upd_ne (by omega)]) ?_
  refine m_ild (pc' := 223) cd_Mo_keyOf rfl (Or.inl ⟨rfl, rfl⟩) l4 rfl ?_
  refine m_ci (pc' := 226) cd_Mo_keyOf rfl rfl rfl rfl rfl cd_Mo_mix rfl (Nat.le_of_ble_eq_true rfl) (m_mix (by exact MT_i hM2 rfl rfl rfl rfl rfl rfl rfl rfl rfl rfl) (by omega) (by show rc (A2 1) T2.length < 1000; omega) (tv_mono p2 (tv_mono p1 a2)) (tv_mono p2 hr1) (fun f3 A3 T3 r3 hx3 hr3 => ?_))
  obtain ⟨p3, q3, s3, hM3⟩ := hx3
  have hM3 : MT f3 A3 T3 _ _ _ := MT_i hM3 rfl rfl rfl rfl rfl rfl rfl rfl rfl rfl
  have s3 : rc (A3 1) T3.length ≤ rc (A2 1) T2.length + 0 := s3
  show mg _ _ _ 226 _ [.int r3, .int 1, .ref 1525] _ _
  refine m_aS (r := 42) (a := 43) (g := (upd (A 43) 7 r2)) (p := 1) (pc' := 227) rfl rfl cd_Mo_keyOf rfl rfl rfl (vp_in_nI (n := 1) (by decide) (by decide)) (show (1 : Int32).toNatClampNeg = 1 by decide) ?_
  refine m_ald (pc' := 228) cd_Mo_keyOf rfl (Or.inr ⟨_, rfl, rfl, rfl⟩) l0 rfl rfl ?_
  refine m_fR (r := 42) (a := 43) (ad := 1525) (pc' := 231) rfl rfl cd_Mo_keyOf rfl rfl rfl rfl rfl ?_
  refine m_k1 (v := 3) (pc' := 232) cd_Mo_keyOf rfl (by decide) rfl ?_
  refine m_ild (pc' := 233) cd_Mo_keyOf rfl (Or.inr ⟨_, rfl, rfl, rfl⟩) l1 rfl ?_
  refine m_aS (r := 42) (a := 43) (g := (upd (upd (A 43) 7 r2) 1 r3)) (p := 3) (pc' := 234) rfl rfl cd_Mo_keyOf rfl rfl rfl (vp_in_nI (n := 3) (by decide) (by decide)) (show (3 : Int32).toNatClampNeg = 3 by decide) ?_
  rw [fset_fset]
  refine m_ald (pc' := 235) cd_Mo_keyOf rfl (Or.inr ⟨_, rfl, rfl, rfl⟩) l0 rfl rfl ?_
  refine m_fR (r := 42) (a := 43) (ad := 1525) (pc' := 238) rfl rfl cd_Mo_keyOf rfl rfl rfl rfl rfl ?_
  refine m_k2 (v := 8) (pc' := 240) cd_Mo_keyOf rfl (by decide) rfl ?_
  refine m_k1 (v := 0) (pc' := 241) cd_Mo_keyOf rfl (by decide) rfl ?_
  refine m_aS (r := 42) (a := 43) (g := (upd (upd (upd (A 43) 7 r2) 1 r3) 3 (nI xi))) (p := 8) (pc' := 242) rfl rfl cd_Mo_keyOf rfl rfl rfl (vp_in_nI (n := 8) (by decide) (by decide)) (show (8 : Int32).toNatClampNeg = 8 by decide) ?_
  rw [fset_fset]
  refine m_ald (pc' := 243) cd_Mo_keyOf rfl (Or.inr ⟨_, rfl, rfl, rfl⟩) l0 rfl rfl ?_
  refine m_fR (r := 42) (a := 43) (ad := 1525) (pc' := 246) rfl rfl cd_Mo_keyOf rfl rfl rfl rfl rfl ?_
  refine m_k1 (v := 4) (pc' := 247) cd_Mo_keyOf rfl (by decide) rfl ?_
  refine m_k1 (v := 0) (pc' := 248) cd_Mo_keyOf rfl (by decide) rfl ?_
  refine m_aS (r := 42) (a := 43) (g := (upd (upd (upd (upd (A 43) 7 r2) 1 r3) 3 (nI xi)) 8 0)) (p := 4) (pc' := 249) rfl rfl cd_Mo_keyOf rfl rfl rfl (vp_in_nI (n := 4) (by decide) (by decide)) (show (4 : Int32).toNatClampNeg = 4 by decide) ?_
  rw [fset_fset]
  have hq : qSe (upd (upd (upd (upd (upd (A 43) 7 r2) 1 r3) 3 (nI xi)) 8 0) 4 0) T3 0 (ss_recv ((th, ch, nx, le), ba, ro, mi, sd, n, b, br, bp, bo, on) P) := by
    refine qSe_r ((p1.trans p2).trans p3) hS2 (fun k k1 k2 k3 k4 k5 k6 => by rw [upd_ne (by omega), upd_ne (by omega), upd_ne (by omega), upd_ne (by omega), upd_ne (by omega)]) ?_ ?_ ?_ ?_ ?_
    · rw [upd_ne (by omega), upd_ne (by omega), upd_ne (by omega), upd_same]; exact hr3
    · rw [upd_ne (by omega), upd_ne (by omega), upd_same]; exact (tv_mono p3 (tv_mono p2 (tv_mono p1 ⟨xi, rfl, hX⟩)))
    · rw [upd_same]; exact MT_z hM3
    · rw [upd_ne (by omega), upd_ne (by omega), upd_ne (by omega), upd_ne (by omega), upd_same]; exact (tv_mono p3 hr2)
    · rw [upd_ne (by omega), upd_same]
  refine l_mkeyN (nn := 0) (m := m) (by exact MT_i hM3 rfl rfl rfl rfl rfl rfl rfl rfl rfl rfl) (by omega) (by show rc (A3 1) _ < 1000; omega) hm (by omega) hq (fun hN f4 A4 T4 p4 q4 s4 hM4 => ?_) (fun r hN f4 A4 T4 p4 q4 s4 hM4 ht4 hq4 => ?_) lv l0 l2
  · have s4 : rc (A4 1) T4.length ≤ rc (A3 1) T3.length := s4
    rw [mjKf_in (f := f) (fun k q => by have e0 : ¬ k = 0 := (by omega); have e7 : ¬ k = 7 := (by omega); have e61 : ¬ k = 61 := (by omega); simp only [fset, mjF, mjKf, e0, e7, e61, or_self, if_false]), mjKA_in (A := A) (fun j q => by have e0 : ¬ (1 ≤ j ∧ j ≤ 8) := (by omega); have e43 : ¬ j = 43 := (by omega); have e44 : ¬ j = 44 := (by omega); simp only [fset, mjA, mjKA, e0, e43, e44, or_self, if_false])] at hM4 ⊢
    exact k0 hN f4 A4 T4 (((p1.trans p2).trans p3).trans p4) (by omega) (by omega) hM4
  · have s4 : rc (A4 1) T4.length ≤ rc (A3 1) T3.length := s4
    rw [mjKf_in (f := f) (fun k q => by have e0 : ¬ k = 0 := (by omega); have e7 : ¬ k = 7 := (by omega); have e61 : ¬ k = 61 := (by omega); simp only [fset, mjF, mjKf, e0, e7, e61, or_self, if_false]), mjKA_in (A := A) (fun j q => by have e0 : ¬ (1 ≤ j ∧ j ≤ 8) := (by omega); have e43 : ¬ j = 43 := (by omega); have e44 : ¬ j = 44 := (by omega); simp only [fset, mjA, mjKA, e0, e43, e44, or_self, if_false])] at hM4 ⊢
    exact kk r hN f4 A4 T4 (((p1.trans p2).trans p3).trans p4) (by omega) (by omega) hM4 ht4 hq4
set_option maxRecDepth 100000 in
theorem m_keyOf {sc : tm_X} {d : Nat} {f : Nat → Int32} {A : Nat → Nat → Int32} {T : List Tm} {DL : List (Int32 × Int32)} {G Kw : Tm → Prop} {th ch ba ro mi sd bp bo : Tm} {n b : Int32} {le : List (Tm × Int32 × Tm)} {br on : Bool} {xi m m3 : Nat} {P : Tm} {nn : Nat} {Q : Int32 → MS → Prop} (hM : MT f A T DL G Kw) (hl : T.length + 25 ≤ 4000) (hr : rc (A 1) T.length < 1000) (hm : m ≤ 9999) (hm3 : m3 ≤ 9999) (hn : nn ≤ 10000) (hX : T[xi]? = some P) (kP : kd P = 2) (kP0 : kd (pt P 0) = 1) (kmi : kd mi = 1) (hS : qSe (A 43) T 0 ((th, ch, nI nn, le), ba, ro, mi, sd, n, b, br, bp, bo, on)) (k0 : (sk_spec ((th, ch, nI nn, le), ba, ro, mi, sd, n, b, br, bp, bo, on) P (nI m) (nI m3)) = none → ∀ f1 A1 T1, T <+: T1 → T1.length ≤ T.length + 25 → rc (A1 1) T1.length ≤ rc (A 1) T.length →  MT (mjKf f1 f) (mjKA A1 A) T1 DL G Kw → Q (-13) (mjKf f1 f, mjKA A1 A)) (kk : ∀ r, (sk_spec ((th, ch, nI nn, le), ba, ro, mi, sd, n, b, br, bp, bo, on) P (nI m) (nI m3)) = some r → ∀ f1 A1 T1, T <+: T1 → T1.length ≤ T.length + 25 → rc (A1 1) T1.length ≤ rc (A 1) T.length →  MT (mjKf f1 f) (mjKA A1 A) T1 DL G Kw → tv T1 (f1 61) r.1 → qSe (A1 43) T1 0 r.2 → Q 0 (mjKf f1 f, mjKA A1 A)) : mGi sc (d + 6) 236 [.ref 1482, .int (nI xi), .int (nI m), .int (nI m3)] (f, A) Q := by
  have hTl := MT_len hM
  have hxi := tv_lt hX
  have hS2 := hS
  obtain ⟨⟨a1, a2, a3, a4, a5, a6⟩, ⟨a7, a8, a9⟩, ⟨a10, a11⟩, ⟨a12, a13⟩, a14, a15⟩ := hS
  show mg sc (d + 6) 236 0 [(0, .ref 1482), (1, .int (nI xi)), (2, .int (nI m)), (3, .int (nI m3))] [] (f, A) _
  generalize elv : ([(0, .ref 1482), (1, .int (nI xi)), (2, .int (nI m)), (3, .int (nI m3))] : tm_L) = lv
  have l0 : lv.lookup 0 = some (.ref 1482) := by rw [← elv]; rfl
  have l1 : lv.lookup 1 = some (.int (nI xi)) := by rw [← elv]; rfl
  have l2 : lv.lookup 2 = some (.int (nI m)) := by rw [← elv]; rfl
  have l3 : lv.lookup 3 = some (.int (nI m3)) := by rw [← elv]; rfl
  clear elv
  refine m_k1 (v := 0) (pc' := 1) cd_Mo_keyOf rfl (by decide) rfl ?_
  refine m_ist (pc' := 3) cd_Mo_keyOf rfl (Or.inl ⟨rfl, rfl⟩) (by decide) rfl (fun lv el => ?_)
  have l0 := tm_lk el l0 rfl (by decide)
  have l1 := tm_lk el l1 rfl (by decide)
  have l2 := tm_lk el l2 rfl (by decide)
  have l3 := tm_lk el l3 rfl (by decide)
  have l4 : lv.lookup 4 = some (.int 0) := tm_lks el
  clear el
  refine l_mkeyL hM hS2 hX hm (fun hno lv l0 l1 l2 l3 => ?_) (fun i e hat f1 A1 hM1 e1 ht hq => ?_) le.length 0 (by omega) (fun j e q => absurd q (by omega)) lv l0 l1 l2 l3 l4
  · have hlf := lf_take_no hno
    refine m_ild (pc' := 119) cd_Mo_keyOf rfl (Or.inr ⟨_, rfl, rfl, rfl⟩) l1 rfl ?_
    refine m_ald (pc' := 120) cd_Mo_keyOf rfl (Or.inr ⟨_, rfl, rfl, rfl⟩) l0 rfl rfl ?_
    refine m_fR (r := 42) (a := 43) (ad := 1525) (pc' := 123) rfl rfl cd_Mo_keyOf rfl rfl rfl rfl rfl ?_
    refine m_k1 (v := 3) (pc' := 124) cd_Mo_keyOf rfl (by decide) rfl ?_
    refine m_aI (r := 42) (a := 43) (g := (A 43)) (x := ((A 43) 3)) (pc' := 125) rfl rfl cd_Mo_keyOf rfl rfl rfl (vp_in_nI (n := 3) (by decide) (by decide)) (congrArg (A 43) (show (3 : Int32).toNatClampNeg = 3 by decide)) ?_
    refine m_if2 (t := 138) (pc' := 128) cd_Mo_keyOf rfl rfl rfl (fun c125 => ?_) (fun c125 => ?_)
    · have c125 : ¬ (nI xi) = ((A 43) 3) := c125
      refine m_ald (pc' := 139) cd_Mo_keyOf rfl (Or.inr ⟨_, rfl, rfl, rfl⟩) l0 rfl rfl ?_
      refine m_fR (r := 42) (a := 43) (ad := 1525) (pc' := 142) rfl rfl cd_Mo_keyOf rfl rfl rfl rfl rfl ?_
      refine m_k2 (v := 7) (pc' := 144) cd_Mo_keyOf rfl (by decide) rfl ?_
      refine m_aI (r := 42) (a := 43) (g := (A 43)) (x := ((A 43) 7)) (pc' := 145) rfl rfl cd_Mo_keyOf rfl rfl rfl (vp_in_nI (n := 7) (by decide) (by decide)) (congrArg (A 43) (show (7 : Int32).toNatClampNeg = 7 by decide)) ?_
      refine m_if1 (t := 170) (pc' := 148) cd_Mo_keyOf rfl rfl rfl (fun c145 => ?_) (fun c145 => ?_)
      · have c145 : ((A 43) 7) = 0 := c145
        have hfo : ss_follow ((th, ch, nI nn, le), ba, ro, mi, sd, n, b, br, bp, bo, on) P (nI m3) = some (ss_recv ((th, ch, nI nn, le), ba, ro, mi, sd, n, b, br, bp, bo, on) P) := ss_follow_new (fun q => c125 ((MT_eq hM ⟨xi, rfl, hX⟩ a4).mpr q.1)) (fun q => q.1 ((MT_0 hM a6).mp c145))
        refine l_mkeyR hM (by omega) hr hm hX kP kP0 kmi hS2 (fun hN f4 A4 T4 p4 q4 s4 hM4 => ?_) (fun r hN f4 A4 T4 p4 q4 s4 hM4 ht4 hq4 => ?_) lv l0 l1 l2 l3
        · exact k0 (sk_nn hlf hfo hN) f4 A4 T4 p4 (by omega) s4 hM4
        · exact kk _ (sk_ns hlf hfo hN) f4 A4 T4 p4 (by omega) s4 hM4 ht4 hq4
      · have c145 : ¬ ((A 43) 7) = 0 := c145
        refine m_ild (pc' := 149) cd_Mo_keyOf rfl (Or.inr ⟨_, rfl, rfl, rfl⟩) l3 rfl ?_
        refine m_ald (pc' := 150) cd_Mo_keyOf rfl (Or.inr ⟨_, rfl, rfl, rfl⟩) l0 rfl rfl ?_
        refine m_fR (r := 42) (a := 43) (ad := 1525) (pc' := 153) rfl rfl cd_Mo_keyOf rfl rfl rfl rfl rfl ?_
        refine m_k2 (v := 8) (pc' := 155) cd_Mo_keyOf rfl (by decide) rfl ?_
        refine m_aI (r := 42) (a := 43) (g := (A 43)) (x := nI nn) (pc' := 156) rfl rfl cd_Mo_keyOf rfl rfl rfl (vp_in_nI (n := 8) (by decide) (by decide)) (by rw [(show (8 : Int32).toNatClampNeg = 8 by decide)]; exact a9) ?_
        refine m_if2 (t := 170) (pc' := 159) cd_Mo_keyOf rfl rfl rfl (fun c156 => ?_) (fun c156 => ?_)
        · have c156 : (nI m3) ≤ (nI nn) := c156
          have hfo : ss_follow ((th, ch, nI nn, le), ba, ro, mi, sd, n, b, br, bp, bo, on) P (nI m3) = some (ss_recv ((th, ch, nI nn, le), ba, ro, mi, sd, n, b, br, bp, bo, on) P) := ss_follow_new (fun q => c125 ((MT_eq hM ⟨xi, rfl, hX⟩ a4).mpr q.1)) (fun q => Int32.not_lt.mpr c156 q.2)
          refine l_mkeyR hM (by omega) hr hm hX kP kP0 kmi hS2 (fun hN f4 A4 T4 p4 q4 s4 hM4 => ?_) (fun r hN f4 A4 T4 p4 q4 s4 hM4 ht4 hq4 => ?_) lv l0 l1 l2 l3
          · exact k0 (sk_nn hlf hfo hN) f4 A4 T4 p4 (by omega) s4 hM4
          · exact kk _ (sk_ns hlf hfo hN) f4 A4 T4 p4 (by omega) s4 hM4 ht4 hq4
        · have c156 : ¬ (nI m3) ≤ (nI nn) := c156
          refine m_ald (pc' := 160) cd_Mo_keyOf rfl (Or.inr ⟨_, rfl, rfl, rfl⟩) l0 rfl rfl ?_
          refine m_ild (pc' := 161) cd_Mo_keyOf rfl (Or.inr ⟨_, rfl, rfl, rfl⟩) l3 rfl ?_
          refine m_ci (pc' := 164) cd_Mo_keyOf rfl rfl rfl rfl rfl cd_Mo_skipSession rfl (Nat.le_of_ble_eq_true rfl) (m_skipSes hM (by omega) hr hm3 hn hS2 (fun hJ => ?_) (fun J hJ f1 A1 T1 p1 q1 s1 hM1 e61 hq1 => ?_))
          · skip
            show mg _ _ _ 164 _ [.int 0] _ _
            refine m_if1 (t := 170) (pc' := 167) cd_Mo_keyOf rfl rfl rfl (fun c164 => ?_) (fun c164 => ?_)
            · exact absurd (show ¬ (0 : Int32) = 0 from c164) (by decide)
            · have c164 : (0 : Int32) = 0 := Classical.not_not.mp c164
              refine m_k2 (v := (-13)) (pc' := 169) cd_Mo_keyOf rfl (by decide) rfl ?_
              exact m_reti cd_Mo_keyOf rfl ⟨_, rfl, (mK_end (Q := Q (-13)) (f := f) (A := A) (fun _ _ => rfl) (fun _ _ => rfl) (k0 (sk_fn hlf (fo_skipN (fun q => c125 ((MT_eq hM ⟨xi, rfl, hX⟩ a4).mpr q.1)) ⟨fun q => c145 ((MT_0 hM a6).mpr q), Int32.not_le.mp c156⟩ hJ)) f A T (List.prefix_refl T) (by omega) (Nat.le_refl _) (by exact MT_i hM rfl rfl rfl rfl rfl rfl rfl rfl rfl rfl)))⟩
          · skip
            obtain ⟨th1, ch1, nx1, le1⟩ := J
            show mg _ _ _ 164 _ [.int 1] _ _
            refine m_if1 (t := 170) (pc' := 167) cd_Mo_keyOf rfl rfl rfl (fun c164 => ?_) (fun c164 => ?_)
            · have c164 : ¬ (1 : Int32) = 0 := c164
              have hfo : ss_follow ((th, ch, nI nn, le), ba, ro, mi, sd, n, b, br, bp, bo, on) P (nI m3) = some (ss_recv ((th1, ch1, nx1, le1), ba, ro, mi, sd, n, b, br, bp, bo, on) P) := fo_skipJ (fun q => c125 ((MT_eq hM ⟨xi, rfl, hX⟩ a4).mpr q.1)) ⟨fun q => c145 ((MT_0 hM a6).mpr q), Int32.not_le.mp c156⟩ hJ
              refine l_mkeyR hM1 (by omega) (by show rc (A1 1) _ < 1000; omega) hm (pfx_get p1 hX) kP kP0 kmi hq1 (fun hN f4 A4 T4 p4 q4 s4 hM4 => ?_) (fun r hN f4 A4 T4 p4 q4 s4 hM4 ht4 hq4 => ?_) lv l0 l1 l2 l3
              · have s4 : rc (A4 1) T4.length ≤ rc (A1 1) T1.length := s4
                rw [mjKf_in (f := f) (fun k q => by have e0 : ¬ k = 0 := (by omega); have e7 : ¬ k = 7 := (by omega); have e61 : ¬ k = 61 := (by omega); simp only [fset, mjF, mjKf, e0, e7, e61, or_self, if_false]), mjKA_in (A := A) (fun j q => by have e0 : ¬ (1 ≤ j ∧ j ≤ 8) := (by omega); have e43 : ¬ j = 43 := (by omega); have e44 : ¬ j = 44 := (by omega); simp only [fset, mjA, mjKA, e0, e43, e44, or_self, if_false])] at hM4 ⊢
                exact k0 (sk_nn hlf hfo hN) f4 A4 T4 (p1.trans p4) (by omega) (by omega) hM4
              · have s4 : rc (A4 1) T4.length ≤ rc (A1 1) T1.length := s4
                rw [mjKf_in (f := f) (fun k q => by have e0 : ¬ k = 0 := (by omega); have e7 : ¬ k = 7 := (by omega); have e61 : ¬ k = 61 := (by omega); simp only [fset, mjF, mjKf, e0, e7, e61, or_self, if_false]), mjKA_in (A := A) (fun j q => by have e0 : ¬ (1 ≤ j ∧ j ≤ 8) := (by omega); have e43 : ¬ j = 43 := (by omega); have e44 : ¬ j = 44 := (by omega); simp only [fset, mjA, mjKA, e0, e43, e44, or_self, if_false])] at hM4 ⊢
                exact kk _ (sk_ns hlf hfo hN) f4 A4 T4 (p1.trans p4) (by omega) (by omega) hM4 ht4 hq4
            · exact absurd (show ¬ (¬ (1 : Int32) = 0) from c164) (by decide)
    · have c125 : (nI xi) = ((A 43) 3) := Classical.not_not.mp c125
      refine m_ald (pc' := 129) cd_Mo_keyOf rfl (Or.inr ⟨_, rfl, rfl, rfl⟩) l0 rfl rfl ?_
      refine m_fR (r := 42) (a := 43) (ad := 1525) (pc' := 132) rfl rfl cd_Mo_keyOf rfl rfl rfl rfl rfl ?_
      refine m_k2 (v := 7) (pc' := 134) cd_Mo_keyOf rfl (by decide) rfl ?_
      refine m_aI (r := 42) (a := 43) (g := (A 43)) (x := ((A 43) 7)) (pc' := 135) rfl rfl cd_Mo_keyOf rfl rfl rfl (vp_in_nI (n := 7) (by decide) (by decide)) (congrArg (A 43) (show (7 : Int32).toNatClampNeg = 7 by decide)) ?_
      refine m_if1 (t := 249) (pc' := 138) cd_Mo_keyOf rfl rfl rfl (fun c135 => ?_) (fun c135 => ?_)
      · have c135 : ¬ ((A 43) 7) = 0 := c135
        have hfo : ss_follow ((th, ch, nI nn, le), ba, ro, mi, sd, n, b, br, bp, bo, on) P (nI m3) = some ((th, ch, nI nn, le), ba, ro, mi, sd, n, b, br, bp, bo, on) := ss_follow_same ((MT_eq hM ⟨xi, rfl, hX⟩ a4).mp c125) (fun q => c135 ((MT_0 hM a6).mpr q))
        refine l_mkeyN hM (by omega) hr hm hn hS2 (fun hN f4 A4 T4 p4 q4 s4 hM4 => ?_) (fun r hN f4 A4 T4 p4 q4 s4 hM4 ht4 hq4 => ?_) lv l0 l2
        · exact k0 (sk_nn hlf hfo hN) f4 A4 T4 p4 (by omega) s4 hM4
        · exact kk (r.1, (r.2, ba, ro, mi, sd, n, b, br, bp, bo, on)) (sk_ns hlf hfo hN) f4 A4 T4 p4 (by omega) s4 hM4 ht4 hq4
      · have c135 : ((A 43) 7) = 0 := Classical.not_not.mp c135
        refine m_ald (pc' := 139) cd_Mo_keyOf rfl (Or.inr ⟨_, rfl, rfl, rfl⟩) l0 rfl rfl ?_
        refine m_fR (r := 42) (a := 43) (ad := 1525) (pc' := 142) rfl rfl cd_Mo_keyOf rfl rfl rfl rfl rfl ?_
        refine m_k2 (v := 7) (pc' := 144) cd_Mo_keyOf rfl (by decide) rfl ?_
        refine m_aI (r := 42) (a := 43) (g := (A 43)) (x := ((A 43) 7)) (pc' := 145) rfl rfl cd_Mo_keyOf rfl rfl rfl (vp_in_nI (n := 7) (by decide) (by decide)) (congrArg (A 43) (show (7 : Int32).toNatClampNeg = 7 by decide)) ?_
        refine m_if1 (t := 170) (pc' := 148) cd_Mo_keyOf rfl rfl rfl (fun c145 => ?_) (fun c145 => ?_)
        · have c145 : ((A 43) 7) = 0 := c145
          have hfo : ss_follow ((th, ch, nI nn, le), ba, ro, mi, sd, n, b, br, bp, bo, on) P (nI m3) = some (ss_recv ((th, ch, nI nn, le), ba, ro, mi, sd, n, b, br, bp, bo, on) P) := ss_follow_new (fun q => q.2 ((MT_0 hM a6).mp c135)) (fun q => q.1 ((MT_0 hM a6).mp c145))
          refine l_mkeyR hM (by omega) hr hm hX kP kP0 kmi hS2 (fun hN f4 A4 T4 p4 q4 s4 hM4 => ?_) (fun r hN f4 A4 T4 p4 q4 s4 hM4 ht4 hq4 => ?_) lv l0 l1 l2 l3
          · exact k0 (sk_nn hlf hfo hN) f4 A4 T4 p4 (by omega) s4 hM4
          · exact kk _ (sk_ns hlf hfo hN) f4 A4 T4 p4 (by omega) s4 hM4 ht4 hq4
        · have c145 : ¬ ((A 43) 7) = 0 := c145
          refine m_ild (pc' := 149) cd_Mo_keyOf rfl (Or.inr ⟨_, rfl, rfl, rfl⟩) l3 rfl ?_
          refine m_ald (pc' := 150) cd_Mo_keyOf rfl (Or.inr ⟨_, rfl, rfl, rfl⟩) l0 rfl rfl ?_
          refine m_fR (r := 42) (a := 43) (ad := 1525) (pc' := 153) rfl rfl cd_Mo_keyOf rfl rfl rfl rfl rfl ?_
          refine m_k2 (v := 8) (pc' := 155) cd_Mo_keyOf rfl (by decide) rfl ?_
          refine m_aI (r := 42) (a := 43) (g := (A 43)) (x := nI nn) (pc' := 156) rfl rfl cd_Mo_keyOf rfl rfl rfl (vp_in_nI (n := 8) (by decide) (by decide)) (by rw [(show (8 : Int32).toNatClampNeg = 8 by decide)]; exact a9) ?_
          refine m_if2 (t := 170) (pc' := 159) cd_Mo_keyOf rfl rfl rfl (fun c156 => ?_) (fun c156 => ?_)
          · have c156 : (nI m3) ≤ (nI nn) := c156
            have hfo : ss_follow ((th, ch, nI nn, le), ba, ro, mi, sd, n, b, br, bp, bo, on) P (nI m3) = some (ss_recv ((th, ch, nI nn, le), ba, ro, mi, sd, n, b, br, bp, bo, on) P) := ss_follow_new (fun q => q.2 ((MT_0 hM a6).mp c135)) (fun q => Int32.not_lt.mpr c156 q.2)
            refine l_mkeyR hM (by omega) hr hm hX kP kP0 kmi hS2 (fun hN f4 A4 T4 p4 q4 s4 hM4 => ?_) (fun r hN f4 A4 T4 p4 q4 s4 hM4 ht4 hq4 => ?_) lv l0 l1 l2 l3
            · exact k0 (sk_nn hlf hfo hN) f4 A4 T4 p4 (by omega) s4 hM4
            · exact kk _ (sk_ns hlf hfo hN) f4 A4 T4 p4 (by omega) s4 hM4 ht4 hq4
          · have c156 : ¬ (nI m3) ≤ (nI nn) := c156
            refine m_ald (pc' := 160) cd_Mo_keyOf rfl (Or.inr ⟨_, rfl, rfl, rfl⟩) l0 rfl rfl ?_
            refine m_ild (pc' := 161) cd_Mo_keyOf rfl (Or.inr ⟨_, rfl, rfl, rfl⟩) l3 rfl ?_
            refine m_ci (pc' := 164) cd_Mo_keyOf rfl rfl rfl rfl rfl cd_Mo_skipSession rfl (Nat.le_of_ble_eq_true rfl) (m_skipSes hM (by omega) hr hm3 hn hS2 (fun hJ => ?_) (fun J hJ f1 A1 T1 p1 q1 s1 hM1 e61 hq1 => ?_))
            · skip
              show mg _ _ _ 164 _ [.int 0] _ _
              refine m_if1 (t := 170) (pc' := 167) cd_Mo_keyOf rfl rfl rfl (fun c164 => ?_) (fun c164 => ?_)
              · exact absurd (show ¬ (0 : Int32) = 0 from c164) (by decide)
              · have c164 : (0 : Int32) = 0 := Classical.not_not.mp c164
                refine m_k2 (v := (-13)) (pc' := 169) cd_Mo_keyOf rfl (by decide) rfl ?_
                exact m_reti cd_Mo_keyOf rfl ⟨_, rfl, (mK_end (Q := Q (-13)) (f := f) (A := A) (fun _ _ => rfl) (fun _ _ => rfl) (k0 (sk_fn hlf (fo_skipN (fun q => q.2 ((MT_0 hM a6).mp c135)) ⟨fun q => c145 ((MT_0 hM a6).mpr q), Int32.not_le.mp c156⟩ hJ)) f A T (List.prefix_refl T) (by omega) (Nat.le_refl _) (by exact MT_i hM rfl rfl rfl rfl rfl rfl rfl rfl rfl rfl)))⟩
            · skip
              obtain ⟨th1, ch1, nx1, le1⟩ := J
              show mg _ _ _ 164 _ [.int 1] _ _
              refine m_if1 (t := 170) (pc' := 167) cd_Mo_keyOf rfl rfl rfl (fun c164 => ?_) (fun c164 => ?_)
              · have c164 : ¬ (1 : Int32) = 0 := c164
                have hfo : ss_follow ((th, ch, nI nn, le), ba, ro, mi, sd, n, b, br, bp, bo, on) P (nI m3) = some (ss_recv ((th1, ch1, nx1, le1), ba, ro, mi, sd, n, b, br, bp, bo, on) P) := fo_skipJ (fun q => q.2 ((MT_0 hM a6).mp c135)) ⟨fun q => c145 ((MT_0 hM a6).mpr q), Int32.not_le.mp c156⟩ hJ
                refine l_mkeyR hM1 (by omega) (by show rc (A1 1) _ < 1000; omega) hm (pfx_get p1 hX) kP kP0 kmi hq1 (fun hN f4 A4 T4 p4 q4 s4 hM4 => ?_) (fun r hN f4 A4 T4 p4 q4 s4 hM4 ht4 hq4 => ?_) lv l0 l1 l2 l3
                · have s4 : rc (A4 1) T4.length ≤ rc (A1 1) T1.length := s4
                  rw [mjKf_in (f := f) (fun k q => by have e0 : ¬ k = 0 := (by omega); have e7 : ¬ k = 7 := (by omega); have e61 : ¬ k = 61 := (by omega); simp only [fset, mjF, mjKf, e0, e7, e61, or_self, if_false]), mjKA_in (A := A) (fun j q => by have e0 : ¬ (1 ≤ j ∧ j ≤ 8) := (by omega); have e43 : ¬ j = 43 := (by omega); have e44 : ¬ j = 44 := (by omega); simp only [fset, mjA, mjKA, e0, e43, e44, or_self, if_false])] at hM4 ⊢
                  exact k0 (sk_nn hlf hfo hN) f4 A4 T4 (p1.trans p4) (by omega) (by omega) hM4
                · have s4 : rc (A4 1) T4.length ≤ rc (A1 1) T1.length := s4
                  rw [mjKf_in (f := f) (fun k q => by have e0 : ¬ k = 0 := (by omega); have e7 : ¬ k = 7 := (by omega); have e61 : ¬ k = 61 := (by omega); simp only [fset, mjF, mjKf, e0, e7, e61, or_self, if_false]), mjKA_in (A := A) (fun j q => by have e0 : ¬ (1 ≤ j ∧ j ≤ 8) := (by omega); have e43 : ¬ j = 43 := (by omega); have e44 : ¬ j = 44 := (by omega); simp only [fset, mjA, mjKA, e0, e43, e44, or_self, if_false])] at hM4 ⊢
                  exact kk _ (sk_ns hlf hfo hN) f4 A4 T4 (p1.trans p4) (by omega) (by omega) hM4 ht4 hq4
              · exact absurd (show ¬ (¬ (1 : Int32) = 0) from c164) (by decide)
  · have hlf := lf_take_at hat
    exact kk (e, ((th, ch, nI nn, le.eraseIdx i), ba, ro, mi, sd, n, b, br, bp, bo, on)) (sk_left hlf) f1 A1 T (List.prefix_refl T) (by omega) (by rw [e1]; exact Nat.le_refl _) hM1 ht hq
