/-! The reference: mailKey -/
theorem gk_left {I : IB} {ix : Int32} {K : Tm} {l : List (Tm × Int32 × Tm)} (h : lf_take I.1 ix I.2.2.2 = some (K, l)) : gv_key I ix = some (K, (I.1, I.2.1, I.2.2.1, l)) := by unfold gv_key; rw [h]
theorem gk_next {I : IB} {ix : Int32} (h : lf_take I.1 ix I.2.2.2 = none) : gv_key I ix = ib_next I ix := by unfold gv_key; rw [h]
set_option maxRecDepth 100000 in
theorem l_mmkey0 {sc : tm_X} {d : Nat} {f : Nat → Int32} {A : Nat → Nat → Int32} {a : Nat} {Q : Option Value → MS → Prop} (kk : ∀ lv : tm_L, lv.lookup 0 = some (.ref 1482) → mg sc (d + 5) 244 77 lv [] (f, fset A 44 (shW 2 (A 44) a 19)) Q) : ∀ (r j : Nat), j + r = 19 → a ≤ j → ∀ lv : tm_L, lv.lookup 0 = some (.ref 1482) → lv.lookup 4 = some (.int (nI j)) → mg sc (d + 5) 244 46 lv [] (f, fset A 44 (shW 2 (A 44) a j)) Q := by
  intro r
  induction r with
  | zero =>
    intro j hj haj lv l0 l4
    have hk2 : j = 19 := by omega
    subst hk2
    refine m_ild (pc' := 48) cd_Mo_mailKey rfl (Or.inl ⟨rfl, rfl⟩) l4 rfl ?_
    refine m_k1 (v := 2) (pc' := 49) cd_Mo_mailKey rfl (by decide) rfl ?_
    refine m_pure (pc' := 50) (st' := [.int ((nI 19) + 2)]) cd_Mo_mailKey rfl rfl (fun _ _ => rfl) ?_
    refine m_eq (show ((nI 19) + 2 : Int32) = 21 from by decide) ?_
    refine m_k2 (v := 21) (pc' := 52) cd_Mo_mailKey rfl (by decide) rfl ?_
    refine m_if2 (t := 77) (pc' := 55) cd_Mo_mailKey rfl rfl rfl (fun c52 => ?_) (fun c52 => ?_)
    · have c52 : (21 : Int32) ≤ 21 := c52
      exact kk lv l0
    · exact absurd (show ¬ (21 : Int32) ≤ 21 from c52) (by decide)
  | succ r ih =>
    intro j hj haj lv l0 l4
    refine m_ild (pc' := 48) cd_Mo_mailKey rfl (Or.inl ⟨rfl, rfl⟩) l4 rfl ?_
    refine m_k1 (v := 2) (pc' := 49) cd_Mo_mailKey rfl (by decide) rfl ?_
    refine m_pure (pc' := 50) (st' := [.int ((nI j) + 2)]) cd_Mo_mailKey rfl rfl (fun _ _ => rfl) ?_
    refine m_eq (show ((nI j) + 2 : Int32) = nI (j + 2) from nI_add j 2) ?_
    refine m_k2 (v := 21) (pc' := 52) cd_Mo_mailKey rfl (by decide) rfl ?_
    refine m_if2 (t := 77) (pc' := 55) cd_Mo_mailKey rfl rfl rfl (fun c52 => ?_) (fun c52 => ?_)
    · have c52 : (21 : Int32) ≤ (nI (j + 2)) := c52
      exact absurd c52 (nI_ge (b := 21) (by omega) (by decide))
    · have c52 : ¬ (21 : Int32) ≤ (nI (j + 2)) := c52
      refine m_ald (pc' := 56) cd_Mo_mailKey rfl (Or.inr ⟨_, rfl, rfl, rfl⟩) l0 rfl rfl ?_
      refine m_fR (r := 43) (a := 44) (ad := 1526) (pc' := 59) rfl rfl cd_Mo_mailKey rfl rfl rfl rfl rfl ?_
      refine m_ild (pc' := 61) cd_Mo_mailKey rfl (Or.inl ⟨rfl, rfl⟩) l4 rfl ?_
      refine m_ald (pc' := 62) cd_Mo_mailKey rfl (Or.inr ⟨_, rfl, rfl, rfl⟩) l0 rfl rfl ?_
      refine m_fR (r := 43) (a := 44) (ad := 1526) (pc' := 65) rfl rfl cd_Mo_mailKey rfl rfl rfl rfl rfl ?_
      refine m_ild (pc' := 67) cd_Mo_mailKey rfl (Or.inl ⟨rfl, rfl⟩) l4 rfl ?_
      refine m_k1 (v := 2) (pc' := 68) cd_Mo_mailKey rfl (by decide) rfl ?_
      refine m_pure (pc' := 69) (st' := [.int ((nI j) + 2), .ref 1526, .int (nI j), .ref 1526]) cd_Mo_mailKey rfl rfl (fun _ _ => rfl) ?_
      refine m_eq (show ((nI j) + 2 : Int32) = nI (j + 2) from nI_add j 2) ?_
      refine m_aI (r := 43) (a := 44) (g := (shW 2 (A 44) a j)) (x := (A 44 (j + 2))) (pc' := 70) rfl rfl cd_Mo_mailKey rfl rfl rfl (vp_in_nI (by omega) (by decide)) (by rw [(nI_clamp (by omega)), shW_n]) ?_
      refine m_aS (r := 43) (a := 44) (g := (shW 2 (A 44) a j)) (p := j) (pc' := 71) rfl rfl cd_Mo_mailKey rfl rfl rfl (vp_in_nI (by omega) (by decide)) (nI_clamp (by omega)) ?_
      refine m_inc (y := nI (j + 1)) (pc' := 74) cd_Mo_mailKey rfl l4 (by decide) (nI_add j 1) rfl (fun lv el => ?_)
      have l0 := tm_lk el l0 rfl (by decide)
      have l4 : lv.lookup 4 = some (.int (nI (j + 1))) := tm_lks el
      clear el
      refine m_pure (pc' := 46) (st' := []) cd_Mo_mailKey rfl rfl (fun _ _ => rfl) ?_
      rw [fset_fset, shW_s 2 (A 44) (by omega)]
      exact ih (j + 1) (by omega) (by omega) lv l0 l4
set_option maxRecDepth 100000 in
theorem l_mmkeyF {sc : tm_X} {d : Nat} {f : Nat → Int32} {A : Nat → Nat → Int32} {T : List Tm} {DL : List (Int32 × Int32)} {G Kw : Tm → Prop} {th ch : Tm} {nn : Nat} {le : List (Tm × Int32 × Tm)} {gen : Int32} {o : Bool} {i : Nat} {e : Tm × Int32 × Tm} {Q : Int32 → MS → Prop} (hM : MT f A T DL G Kw) (hS : qGv (A 44) T 0 ((th, ch, nI nn, le), gen, o)) (he : le[i]? = some e) (kk : ∀ f1 A1, MT (mjKf f1 f) (mjKA A1 A) T DL G Kw → A1 1 = A 1 → tv T (f1 61) e.2.2 → qGv (A1 44) T 0 ((th, ch, nI nn, le.eraseIdx i), gen, o) → Q 0 (mjKf f1 f, mjKA A1 A)) : ∀ lv : tm_L, lv.lookup 0 = some (.ref 1482) → lv.lookup 3 = some (.int (nI (5 + (2 * i)))) → mg sc (d + 5) 244 31 lv [] (f, A) (fun r s' => ∃ v, r = some (.int v) ∧ Q v s') := by
  intro lv l0 l3
  have hS2 := hS
  obtain ⟨⟨a1, a2, a3, a4⟩, ⟨a5, a6⟩, a7, a8⟩ := hS
  have hi : i < le.length := (List.getElem?_eq_some_iff.mp he).1
  have a5 : A 44 4 = nI le.length := a5
  have a6 : le.length ≤ 8 := a6
  have h61 := (a7 i e he).2
  rw [show 0 + 6 + 2 * i = 5 + (2 * i) + 1 by omega] at h61
  refine m_ald (pc' := 32) cd_Mo_mailKey rfl (Or.inr ⟨_, rfl, rfl, rfl⟩) l0 rfl rfl ?_
  refine m_ald (pc' := 33) cd_Mo_mailKey rfl (Or.inr ⟨_, rfl, rfl, rfl⟩) l0 rfl rfl ?_
  refine m_fR (r := 43) (a := 44) (ad := 1526) (pc' := 36) rfl rfl cd_Mo_mailKey rfl rfl rfl rfl rfl ?_
  refine m_ild (pc' := 37) cd_Mo_mailKey rfl (Or.inr ⟨_, rfl, rfl, rfl⟩) l3 rfl ?_
  refine m_k1 (v := 1) (pc' := 38) cd_Mo_mailKey rfl (by decide) rfl ?_
  refine m_pure (pc' := 39) (st' := [.int ((nI (5 + (2 * i))) + 1), .ref 1526, .ref 1482]) cd_Mo_mailKey rfl rfl (fun _ _ => rfl) ?_
  refine m_eq (show ((nI (5 + (2 * i))) + 1 : Int32) = nI ((5 + (2 * i)) + 1) from nI_add (5 + (2 * i)) 1) ?_
  refine m_aI (r := 43) (a := 44) (g := (A 44)) (x := ((A 44) ((5 + (2 * i)) + 1))) (pc' := 40) rfl rfl cd_Mo_mailKey rfl rfl rfl (vp_in_nI (by omega) (by decide)) (congrArg (A 44) (nI_clamp (by omega))) ?_
  refine m_pI (k := 61) (pc' := 43) cd_Mo_mailKey rfl rfl rfl rfl (by simp [tm_okV, narrow, fits]) rfl rfl ?_
  refine m_ild (pc' := 44) cd_Mo_mailKey rfl (Or.inr ⟨_, rfl, rfl, rfl⟩) l3 rfl ?_
  refine m_ist (pc' := 46) cd_Mo_mailKey rfl (Or.inl ⟨rfl, rfl⟩) (by decide) rfl (fun lv el => ?_)
  have l0 := tm_lk el l0 rfl (by decide)
  have l3 := tm_lk el l3 rfl (by decide)
  have l4 : lv.lookup 4 = some (.int (nI (5 + (2 * i)))) := tm_lks el
  clear el
  have k0 : mg sc (d + 5) 244 46 lv [] (fset f 61 (A 44 (5 + (2 * i) + 1)), fset A 44 (shW 2 (A 44) (5 + (2 * i)) (5 + (2 * i)))) (fun r s' => ∃ v, r = some (.int v) ∧ Q v s') := by
    refine l_mmkey0 (fun lv l0 => ?_) (19 - (5 + (2 * i))) (5 + (2 * i)) (by omega) (Nat.le_refl _) lv l0 l4
    refine m_ald (pc' := 78) cd_Mo_mailKey rfl (Or.inr ⟨_, rfl, rfl, rfl⟩) l0 rfl rfl ?_
    refine m_fR (r := 43) (a := 44) (ad := 1526) (pc' := 81) rfl rfl cd_Mo_mailKey rfl rfl rfl rfl rfl ?_
    refine m_k1 (v := 4) (pc' := 82) cd_Mo_mailKey rfl (by decide) rfl ?_
    refine m_pure (pc' := 83) (st' := [.int 4, .ref 1526, .int 4, .ref 1526]) cd_Mo_mailKey rfl rfl (fun _ _ => rfl) ?_
    refine m_aI (r := 43) (a := 44) (g := (shW 2 (A 44) (5 + (2 * i)) 19)) (x := nI le.length) (pc' := 84) rfl rfl cd_Mo_mailKey rfl rfl rfl (vp_in_nI (n := 4) (by decide) (by decide)) (by rw [(show (4 : Int32).toNatClampNeg = 4 by decide), shW_out (by omega)]; exact a5) ?_
    refine m_k1 (v := 1) (pc' := 85) cd_Mo_mailKey rfl (by decide) rfl ?_
    refine m_pure (pc' := 86) (st' := [.int ((nI le.length) - 1), .int 4, .ref 1526]) cd_Mo_mailKey rfl rfl (fun _ _ => rfl) ?_
    refine m_eq (show ((nI le.length) - 1 : Int32) = nI (le.length - 1) from pk_sub (a := le.length) (b := 1) (by omega)) ?_
    refine m_aS (r := 43) (a := 44) (g := (shW 2 (A 44) (5 + (2 * i)) 19)) (p := 4) (pc' := 87) rfl rfl cd_Mo_mailKey rfl rfl rfl (vp_in_nI (n := 4) (by decide) (by decide)) (show (4 : Int32).toNatClampNeg = 4 by decide) ?_
    refine m_k1 (v := 0) (pc' := 88) cd_Mo_mailKey rfl (by decide) rfl ?_
    have hl2 : (le.eraseIdx i).length = le.length - 1 := by rw [List.length_eraseIdx, if_pos hi]
    have hq : qGv (upd (shW 2 (A 44) (5 + (2 * i)) 19) 4 (nI (le.length - 1))) T 0 ((th, ch, nI nn, le.eraseIdx i), gen, o) := by
      refine qGv_le (List.prefix_refl T) hS2 (fun k hk => by rw [upd_ne (by omega), shW_out (by omega)]) ?_ (by omega) ?_
      · rw [upd_same, hl2]
      · exact qGl_shift (by omega) a7 (fun k k1 k2 => by rw [upd_ne (by omega)])
    exact m_reti cd_Mo_mailKey rfl ⟨_, rfl, (mK_end (Q := Q 0) (f := f) (A := A) (fun k q => by have e0 : ¬ k = 0 := (by omega); have e7 : ¬ k = 7 := (by omega); have e61 : ¬ k = 61 := (by omega); simp only [fset, mjF, mjKf, e0, e7, e61, or_self, if_false]) (fun j q => by have e0 : ¬ (1 ≤ j ∧ j ≤ 8) := (by omega); have e43 : ¬ j = 43 := (by omega); have e44 : ¬ j = 44 := (by omega); simp only [fset, mjA, mjKA, e0, e43, e44, or_self, if_false]) (kk _ _ (by exact MT_i hM rfl rfl rfl rfl rfl rfl rfl rfl rfl rfl) rfl h61 hq))⟩
  rw [shW_0, fset_id] at k0
  exact k0
set_option maxRecDepth 100000 in
theorem l_mmkeyL {sc : tm_X} {d : Nat} {f : Nat → Int32} {A : Nat → Nat → Int32} {T : List Tm} {DL : List (Int32 × Int32)} {G Kw : Tm → Prop} {th ch : Tm} {nn : Nat} {le : List (Tm × Int32 × Tm)} {gen : Int32} {o : Bool} {m : Nat} {Q : Int32 → MS → Prop} (hM : MT f A T DL G Kw) (hS : qGv (A 44) T 0 ((th, ch, nI nn, le), gen, o)) (hle : ∀ e, e ∈ le → e.1 = th) (kn : lf_no le th (nI m) → ∀ lv : tm_L, lv.lookup 0 = some (.ref 1482) → lv.lookup 1 = some (.int (nI m)) →  mg sc (d + 5) 244 95 lv [] (f, A) (fun r s' => ∃ v, r = some (.int v) ∧ Q v s')) (kf : ∀ i e, lf_at le th (nI m) i e → ∀ f1 A1, MT (mjKf f1 f) (mjKA A1 A) T DL G Kw → A1 1 = A 1 → tv T (f1 61) e → qGv (A1 44) T 0 ((th, ch, nI nn, le.eraseIdx i), gen, o) → Q 0 (mjKf f1 f, mjKA A1 A)) : ∀ (r i : Nat), i + r = le.length → (∀ j e, j < i → le[j]? = some e → ¬ (e.1 = th ∧ e.2.1 = nI m)) → ∀ lv : tm_L, lv.lookup 0 = some (.ref 1482) → lv.lookup 1 = some (.int (nI m)) →  lv.lookup 2 = some (.int (nI i)) → mg sc (d + 5) 244 2 lv [] (f, A) (fun r s' => ∃ v, r = some (.int v) ∧ Q v s') := by
  have hS2 := hS
  obtain ⟨⟨a1, a2, a3, a4⟩, ⟨a5, a6⟩, a7, a8⟩ := hS
  have a5 : A 44 4 = nI le.length := a5
  have a6 : le.length ≤ 8 := a6
  intro r
  induction r with
  | zero =>
    intro i hi hb lv l0 l1 l2
    refine m_ild (pc' := 3) cd_Mo_mailKey rfl (Or.inr ⟨_, rfl, rfl, rfl⟩) l2 rfl ?_
    refine m_ald (pc' := 4) cd_Mo_mailKey rfl (Or.inr ⟨_, rfl, rfl, rfl⟩) l0 rfl rfl ?_
    refine m_fR (r := 43) (a := 44) (ad := 1526) (pc' := 7) rfl rfl cd_Mo_mailKey rfl rfl rfl rfl rfl ?_
    refine m_k1 (v := 4) (pc' := 8) cd_Mo_mailKey rfl (by decide) rfl ?_
    refine m_aI (r := 43) (a := 44) (g := (A 44)) (x := nI le.length) (pc' := 9) rfl rfl cd_Mo_mailKey rfl rfl rfl (vp_in_nI (n := 4) (by decide) (by decide)) (by rw [(show (4 : Int32).toNatClampNeg = 4 by decide)]; exact a5) ?_
    refine m_if2 (t := 95) (pc' := 12) cd_Mo_mailKey rfl rfl rfl (fun c9 => ?_) (fun c9 => ?_)
    · have c9 : (nI le.length) ≤ (nI i) := c9
      exact kn (fun j e he => hb j e (by have := (List.getElem?_eq_some_iff.mp he).1; omega) he) lv l0 l1
    · have c9 : ¬ (nI le.length) ≤ (nI i) := c9
      exact absurd (nI_le (by omega) (by omega)) c9
  | succ r ih =>
    intro i hi hb lv l0 l1 l2
    obtain ⟨e, he⟩ : ∃ e, le[i]? = some e := ⟨_, List.getElem?_eq_getElem (by omega)⟩
    have g2 := (a7 i e he).1
    have g1 := hle e (List.mem_of_getElem? he)
    rw [show 0 + 5 + 2 * i = 5 + (2 * i) by omega] at g2
    refine m_ild (pc' := 3) cd_Mo_mailKey rfl (Or.inr ⟨_, rfl, rfl, rfl⟩) l2 rfl ?_
    refine m_ald (pc' := 4) cd_Mo_mailKey rfl (Or.inr ⟨_, rfl, rfl, rfl⟩) l0 rfl rfl ?_
    refine m_fR (r := 43) (a := 44) (ad := 1526) (pc' := 7) rfl rfl cd_Mo_mailKey rfl rfl rfl rfl rfl ?_
    refine m_k1 (v := 4) (pc' := 8) cd_Mo_mailKey rfl (by decide) rfl ?_
    refine m_aI (r := 43) (a := 44) (g := (A 44)) (x := nI le.length) (pc' := 9) rfl rfl cd_Mo_mailKey rfl rfl rfl (vp_in_nI (n := 4) (by decide) (by decide)) (by rw [(show (4 : Int32).toNatClampNeg = 4 by decide)]; exact a5) ?_
    refine m_if2 (t := 95) (pc' := 12) cd_Mo_mailKey rfl rfl rfl (fun c9 => ?_) (fun c9 => ?_)
    · have c9 : (nI le.length) ≤ (nI i) := c9
      exact absurd c9 (nI_ge (by omega) (by omega))
    · have c9 : ¬ (nI le.length) ≤ (nI i) := c9
      refine m_k1 (v := 5) (pc' := 13) cd_Mo_mailKey rfl (by decide) rfl ?_
      refine m_k1 (v := 2) (pc' := 14) cd_Mo_mailKey rfl (by decide) rfl ?_
      refine m_ild (pc' := 15) cd_Mo_mailKey rfl (Or.inr ⟨_, rfl, rfl, rfl⟩) l2 rfl ?_
      refine m_pure (pc' := 16) (st' := [.int ((2 : Int32) * (nI i)), .int 5]) cd_Mo_mailKey rfl rfl (fun _ _ => rfl) ?_
      refine m_eq (show ((2 : Int32) * (nI i) : Int32) = nI (2 * i) from pk_mul 2 i) ?_
      refine m_pure (pc' := 17) (st' := [.int ((5 : Int32) + (nI (2 * i)))]) cd_Mo_mailKey rfl rfl (fun _ _ => rfl) ?_
      refine m_eq (show ((5 : Int32) + (nI (2 * i)) : Int32) = nI (5 + (2 * i)) from nI_add 5 (2 * i)) ?_
      refine m_ist (pc' := 18) cd_Mo_mailKey rfl (Or.inr ⟨_, rfl, rfl, rfl⟩) (by decide) rfl (fun lv el => ?_)
      have l0 := tm_lk el l0 rfl (by decide)
      have l1 := tm_lk el l1 rfl (by decide)
      have l2 := tm_lk el l2 rfl (by decide)
      have l3 : lv.lookup 3 = some (.int (nI (5 + (2 * i)))) := tm_lks el
      clear el
      refine m_ald (pc' := 19) cd_Mo_mailKey rfl (Or.inr ⟨_, rfl, rfl, rfl⟩) l0 rfl rfl ?_
      refine m_fR (r := 43) (a := 44) (ad := 1526) (pc' := 22) rfl rfl cd_Mo_mailKey rfl rfl rfl rfl rfl ?_
      refine m_ild (pc' := 23) cd_Mo_mailKey rfl (Or.inr ⟨_, rfl, rfl, rfl⟩) l3 rfl ?_
      refine m_aI (r := 43) (a := 44) (g := (A 44)) (x := e.2.1) (pc' := 24) rfl rfl cd_Mo_mailKey rfl rfl rfl (vp_in_nI (by omega) (by decide)) (by rw [(nI_clamp (by omega))]; exact g2) ?_
      refine m_ild (pc' := 25) cd_Mo_mailKey rfl (Or.inr ⟨_, rfl, rfl, rfl⟩) l1 rfl ?_
      refine m_if2 (t := 31) (pc' := 28) cd_Mo_mailKey rfl rfl rfl (fun c25 => ?_) (fun c25 => ?_)
      · have c25 : e.2.1 = (nI m) := c25
        refine l_mmkeyF hM hS2 he (fun f1 A1 q1 q2 q3 q4 => ?_) lv l0 l3
        exact kf i e.2.2 ⟨⟨e, he, g1, c25, rfl⟩, hb⟩ f1 A1 q1 q2 q3 q4
      · have c25 : ¬ e.2.1 = (nI m) := c25
        refine m_pure (pc' := 89) (st' := []) cd_Mo_mailKey rfl rfl (fun _ _ => rfl) ?_
        refine m_inc (y := nI (i + 1)) (pc' := 92) cd_Mo_mailKey rfl l2 (by decide) (nI_add i 1) rfl (fun lv el => ?_)
        have l0 := tm_lk el l0 rfl (by decide)
        have l1 := tm_lk el l1 rfl (by decide)
        have l3 := tm_lk el l3 rfl (by decide)
        have l2 : lv.lookup 2 = some (.int (nI (i + 1))) := tm_lks el
        clear el
        refine m_pure (pc' := 2) (st' := []) cd_Mo_mailKey rfl rfl (fun _ _ => rfl) ?_
        have hne : ¬ (e.1 = th ∧ e.2.1 = nI m) := (fun q => c25 q.2)
        refine ih (i + 1) (by omega) (fun j e' hj hje => ?_) lv l0 l1 l2
        by_cases q : j = i
        · rw [q, he] at hje
          cases hje
          exact hne
        · exact hb j e' (by omega) hje
set_option maxRecDepth 100000 in
theorem m_stepMailG {sc : tm_X} {d : Nat} {f : Nat → Int32} {A : Nat → Nat → Int32} {T : List Tm} {DL : List (Int32 × Int32)} {G Kw : Tm → Prop} {th ch : Tm} {nx : Int32} {le : List (Tm × Int32 × Tm)} {gen : Int32} {o : Bool} {Q : MS → Prop} (hM : MT f A T DL G Kw) (hl : T.length + 1 ≤ 4000) (hr : rc (A 1) T.length < 1000) (hS : qGv (A 44) T 0 ((th, ch, nx, le), gen, o)) (kk : ∀ f1 A1 T1, T <+: T1 → T1.length ≤ T.length + 1 → rc (A1 1) T1.length ≤ rc (A 1) T.length →  MT (mjKf f1 f) (mjKA A1 A) T1 DL G Kw → f1 61 = f 61 → qGv (A1 44) T1 0 ((th, Tmx 7 ch tz, nx + 1, le), gen, o) → Q (mjKf f1 f, mjKA A1 A)) : mGv sc (d + 4) 245 [.ref 1482] (f, A) Q := by
  have hTl := MT_len hM
  have hS2 := hS
  obtain ⟨⟨a1, a2, a3, a4⟩, ⟨a5, a6⟩, a7, a8⟩ := hS
  show mg sc (d + 4) 245 0 [(0, .ref 1482)] [] (f, A) _
  generalize elv : ([(0, .ref 1482)] : tm_L) = lv
  have l0 : lv.lookup 0 = some (.ref 1482) := by rw [← elv]; rfl
  clear elv
  refine m_ald (pc' := 1) cd_Mo_stepMail rfl (Or.inr ⟨_, rfl, rfl, rfl⟩) l0 rfl rfl ?_
  refine m_fR (r := 43) (a := 44) (ad := 1526) (pc' := 4) rfl rfl cd_Mo_stepMail rfl rfl rfl rfl rfl ?_
  refine m_k1 (v := 1) (pc' := 5) cd_Mo_stepMail rfl (by decide) rfl ?_
  refine m_ald (pc' := 6) cd_Mo_stepMail rfl (Or.inr ⟨_, rfl, rfl, rfl⟩) l0 rfl rfl ?_
  refine m_k2 (v := 7) (pc' := 8) cd_Mo_stepMail rfl (by decide) rfl ?_
  refine m_ald (pc' := 9) cd_Mo_stepMail rfl (Or.inr ⟨_, rfl, rfl, rfl⟩) l0 rfl rfl ?_
  refine m_fR (r := 43) (a := 44) (ad := 1526) (pc' := 12) rfl rfl cd_Mo_stepMail rfl rfl rfl rfl rfl ?_
  refine m_k1 (v := 1) (pc' := 13) cd_Mo_stepMail rfl (by decide) rfl ?_
  refine m_aI (r := 43) (a := 44) (g := (A 44)) (x := ((A 44) 1)) (pc' := 14) rfl rfl cd_Mo_stepMail rfl rfl rfl (vp_in_nI (n := 1) (by decide) (by decide)) (congrArg (A 44) (show (1 : Int32).toNatClampNeg = 1 by decide)) ?_
  refine m_k1 (v := 0) (pc' := 15) cd_Mo_stepMail rfl (by decide) rfl ?_
  refine m_ci (pc' := 18) cd_Mo_stepMail rfl rfl rfl rfl rfl cd_Mo_mix rfl (Nat.le_of_ble_eq_true rfl) (m_mix (by exact MT_i hM rfl rfl rfl rfl rfl rfl rfl rfl rfl rfl) (by omega) (by show rc (A 1) T.length < 1000; omega) a2 (MT_z hM) (fun f1 A1 T1 r1 hx1 hr1 => ?_))
  obtain ⟨p1, q1, s1, hM1⟩ := hx1
  have hM1 : MT f1 A1 T1 _ _ _ := MT_i hM1 rfl rfl rfl rfl rfl rfl rfl rfl rfl rfl
  have s1 : rc (A1 1) T1.length ≤ rc (A 1) T.length + 0 := s1
  show mg _ _ _ 18 _ [.int r1, .int 1, .ref 1526] _ _
  refine m_aS (r := 43) (a := 44) (g := (A 44)) (p := 1) (pc' := 19) rfl rfl cd_Mo_stepMail rfl rfl rfl (vp_in_nI (n := 1) (by decide) (by decide)) (show (1 : Int32).toNatClampNeg = 1 by decide) ?_
  refine m_ald (pc' := 20) cd_Mo_stepMail rfl (Or.inr ⟨_, rfl, rfl, rfl⟩) l0 rfl rfl ?_
  refine m_fR (r := 43) (a := 44) (ad := 1526) (pc' := 23) rfl rfl cd_Mo_stepMail rfl rfl rfl rfl rfl ?_
  refine m_k1 (v := 3) (pc' := 24) cd_Mo_stepMail rfl (by decide) rfl ?_
  refine m_pure (pc' := 25) (st' := [.int 3, .ref 1526, .int 3, .ref 1526]) cd_Mo_stepMail rfl rfl (fun _ _ => rfl) ?_
  refine m_aI (r := 43) (a := 44) (g := (upd (A 44) 1 r1)) (x := nx) (pc' := 26) rfl rfl cd_Mo_stepMail rfl rfl rfl (vp_in_nI (n := 3) (by decide) (by decide)) (by rw [(show (3 : Int32).toNatClampNeg = 3 by decide), upd_ne (by omega)]; exact a4) ?_
  refine m_k1 (v := 1) (pc' := 27) cd_Mo_stepMail rfl (by decide) rfl ?_
  refine m_pure (pc' := 28) (st' := [.int (nx + 1), .int 3, .ref 1526]) cd_Mo_stepMail rfl rfl (fun _ _ => rfl) ?_
  refine m_aS (r := 43) (a := 44) (g := (upd (A 44) 1 r1)) (p := 3) (pc' := 29) rfl rfl cd_Mo_stepMail rfl rfl rfl (vp_in_nI (n := 3) (by decide) (by decide)) (show (3 : Int32).toNatClampNeg = 3 by decide) ?_
  rw [fset_fset]
  have hse : qGv (upd (upd (A 44) 1 r1) 3 (nx + 1)) T1 0 ((th, Tmx 7 ch tz, nx + 1, le), gen, o) := by
    refine qGv_r p1 hS2 (fun k k1 k2 k3 => by rw [upd_ne (by omega), upd_ne (by omega)]) ?_ ?_
    · rw [upd_ne (by omega), upd_same]; exact hr1
    · rw [upd_same]
  exact m_retv cd_Mo_stepMail rfl ⟨rfl, (mK_end (f := f) (A := A) (fun k q => by have e0 : ¬ k = 0 := (by omega); have e7 : ¬ k = 7 := (by omega); have e61 : ¬ k = 61 := (by omega); simp only [fset, mjF, mjKf, e0, e7, e61, or_self, if_false]) (fun j q => by have e0 : ¬ (1 ≤ j ∧ j ≤ 8) := (by omega); have e43 : ¬ j = 43 := (by omega); have e44 : ¬ j = 44 := (by omega); simp only [fset, mjA, mjKA, e0, e43, e44, or_self, if_false]) (kk _ _ _ p1 (by omega) (show rc (A1 1) _ ≤ _ by omega) (by exact MT_i hM1 rfl rfl rfl rfl rfl rfl rfl rfl rfl rfl) rfl hse))⟩
set_option maxRecDepth 100000 in
theorem m_mailKey {sc : tm_X} {d : Nat} {f : Nat → Int32} {A : Nat → Nat → Int32} {T : List Tm} {DL : List (Int32 × Int32)} {G Kw : Tm → Prop} {th ch : Tm} {nn : Nat} {le : List (Tm × Int32 × Tm)} {gen : Int32} {o : Bool} {m : Nat} {Q : Int32 → MS → Prop} (hM : MT f A T DL G Kw) (hl : T.length + 12 ≤ 4000) (hr : rc (A 1) T.length < 1000) (hm : m ≤ 9999) (hn : nn ≤ 10000) (hle : ∀ e, e ∈ le → e.1 = th) (hS : qGv (A 44) T 0 ((th, ch, nI nn, le), gen, o)) (k0 : (gv_key (th, ch, nI nn, le) (nI m)) = none → ∀ f1 A1 T1, T <+: T1 → T1.length ≤ T.length + 12 → rc (A1 1) T1.length ≤ rc (A 1) T.length →  MT (mjKf f1 f) (mjKA A1 A) T1 DL G Kw → Q (-13) (mjKf f1 f, mjKA A1 A)) (kk : ∀ r, (gv_key (th, ch, nI nn, le) (nI m)) = some r → ∀ f1 A1 T1, T <+: T1 → T1.length ≤ T.length + 12 → rc (A1 1) T1.length ≤ rc (A 1) T.length →  MT (mjKf f1 f) (mjKA A1 A) T1 DL G Kw → tv T1 (f1 61) r.1 → qGv (A1 44) T1 0 (r.2, gen, o) → Q 0 (mjKf f1 f, mjKA A1 A)) : mGi sc (d + 5) 244 [.ref 1482, .int (nI m)] (f, A) Q := by
  have hTl := MT_len hM
  have hS2 := hS
  obtain ⟨⟨a1, a2, a3, a4⟩, ⟨a5, a6⟩, a7, a8⟩ := hS
  have a4 : A 44 3 = nI nn := a4
  show mg sc (d + 5) 244 0 [(0, .ref 1482), (1, .int (nI m))] [] (f, A) _
  generalize elv : ([(0, .ref 1482), (1, .int (nI m))] : tm_L) = lv
  have l0 : lv.lookup 0 = some (.ref 1482) := by rw [← elv]; rfl
  have l1 : lv.lookup 1 = some (.int (nI m)) := by rw [← elv]; rfl
  clear elv
  refine m_k1 (v := 0) (pc' := 1) cd_Mo_mailKey rfl (by decide) rfl ?_
  refine m_ist (pc' := 2) cd_Mo_mailKey rfl (Or.inr ⟨_, rfl, rfl, rfl⟩) (by decide) rfl (fun lv el => ?_)
  have l0 := tm_lk el l0 rfl (by decide)
  have l1 := tm_lk el l1 rfl (by decide)
  have l2 : lv.lookup 2 = some (.int 0) := tm_lks el
  clear el
  refine l_mmkeyL hM hS2 hle (fun hno lv l0 l1 => ?_) (fun i e hat f1 A1 hM1 e1 ht hq => ?_) le.length 0 (by omega) (fun j e q => absurd q (by omega)) lv l0 l1 l2
  · have hlf := lf_take_no hno
    refine m_ild (pc' := 96) cd_Mo_mailKey rfl (Or.inr ⟨_, rfl, rfl, rfl⟩) l1 rfl ?_
    refine m_ald (pc' := 97) cd_Mo_mailKey rfl (Or.inr ⟨_, rfl, rfl, rfl⟩) l0 rfl rfl ?_
    refine m_fR (r := 43) (a := 44) (ad := 1526) (pc' := 100) rfl rfl cd_Mo_mailKey rfl rfl rfl rfl rfl ?_
    refine m_k1 (v := 3) (pc' := 101) cd_Mo_mailKey rfl (by decide) rfl ?_
    refine m_aI (r := 43) (a := 44) (g := (A 44)) (x := nI nn) (pc' := 102) rfl rfl cd_Mo_mailKey rfl rfl rfl (vp_in_nI (n := 3) (by decide) (by decide)) (by rw [(show (3 : Int32).toNatClampNeg = 3 by decide)]; exact a4) ?_
    refine m_if2 (t := 117) (pc' := 105) cd_Mo_mailKey rfl rfl rfl (fun c102 => ?_) (fun c102 => ?_)
    · have c102 : (nI m) < (nI nn) := c102
      refine m_k2 (v := (-13)) (pc' := 119) cd_Mo_mailKey rfl (by decide) rfl ?_
      exact m_reti cd_Mo_mailKey rfl ⟨_, rfl, (mK_end (Q := Q (-13)) (f := f) (A := A) (fun _ _ => rfl) (fun _ _ => rfl) (k0 ((gk_next (I := (th, ch, nI nn, le)) hlf).trans (if_pos c102)) f A T (List.prefix_refl T) (by omega) (Nat.le_refl _) (by exact MT_i hM rfl rfl rfl rfl rfl rfl rfl rfl rfl rfl)))⟩
    · have c102 : ¬ (nI m) < (nI nn) := c102
      refine m_ild (pc' := 106) cd_Mo_mailKey rfl (Or.inr ⟨_, rfl, rfl, rfl⟩) l1 rfl ?_
      refine m_ald (pc' := 107) cd_Mo_mailKey rfl (Or.inr ⟨_, rfl, rfl, rfl⟩) l0 rfl rfl ?_
      refine m_fR (r := 43) (a := 44) (ad := 1526) (pc' := 110) rfl rfl cd_Mo_mailKey rfl rfl rfl rfl rfl ?_
      refine m_k1 (v := 3) (pc' := 111) cd_Mo_mailKey rfl (by decide) rfl ?_
      refine m_aI (r := 43) (a := 44) (g := (A 44)) (x := nI nn) (pc' := 112) rfl rfl cd_Mo_mailKey rfl rfl rfl (vp_in_nI (n := 3) (by decide) (by decide)) (by rw [(show (3 : Int32).toNatClampNeg = 3 by decide)]; exact a4) ?_
      refine m_k1 (v := 5) (pc' := 113) cd_Mo_mailKey rfl (by decide) rfl ?_
      refine m_pure (pc' := 114) (st' := [.int ((nI nn) + 5), .int (nI m)]) cd_Mo_mailKey rfl rfl (fun _ _ => rfl) ?_
      refine m_eq (show ((nI nn) + 5 : Int32) = nI (nn + 5) from nI_add nn 5) ?_
      refine m_if2 (t := 120) (pc' := 117) cd_Mo_mailKey rfl rfl rfl (fun c114 => ?_) (fun c114 => ?_)
      · have c114 : (nI m) ≤ (nI (nn + 5)) := c114
        have hc : m ≤ nn + 5 := (nI_leI (by omega) (by omega)).mp c114
        have hsk : ib_skipTo (th, ch, nI nn, le) (nI m) = some (ib_skipN (nI m) 5 (th, ch, nI nn, le)) := if_pos ((sub_le5 (by omega) (by omega)).mpr hc)
        refine l_mmail hm 5 f A T ch nn le hc hn hM (by omega) hr hS2 (fun f1 A1 T1 lv p1 q1 s1 hM1 ef eA hq1 l0 l1 => ?_) lv l0 l1
        generalize ib_skipN (nI m) 5 (th, ch, nI nn, le) = J at hsk hq1
        obtain ⟨th1, ch1, nx1, le1⟩ := J
        have s1 : rc (A1 1) T1.length ≤ rc (A 1) T.length := s1
        refine m_ald (pc' := 244) cd_Mo_mailKey rfl (Or.inr ⟨_, rfl, rfl, rfl⟩) l0 rfl rfl ?_
        refine m_ald (pc' := 245) cd_Mo_mailKey rfl (Or.inr ⟨_, rfl, rfl, rfl⟩) l0 rfl rfl ?_
        refine m_k2 (v := 6) (pc' := 247) cd_Mo_mailKey rfl (by decide) rfl ?_
        refine m_ald (pc' := 248) cd_Mo_mailKey rfl (Or.inr ⟨_, rfl, rfl, rfl⟩) l0 rfl rfl ?_
        refine m_fR (r := 43) (a := 44) (ad := 1526) (pc' := 251) rfl rfl cd_Mo_mailKey rfl rfl rfl rfl rfl ?_
        refine m_k1 (v := 1) (pc' := 252) cd_Mo_mailKey rfl (by decide) rfl ?_
        refine m_aI (r := 43) (a := 44) (g := (A1 44)) (x := (A1 44 1)) (pc' := 253) rfl rfl cd_Mo_mailKey rfl rfl rfl (vp_in_nI (n := 1) (by decide) (by decide)) (congrArg (A1 44) (show (1 : Int32).toNatClampNeg = 1 by decide)) ?_
        refine m_k1 (v := 0) (pc' := 254) cd_Mo_mailKey rfl (by decide) rfl ?_
        refine m_ci (pc' := 257) cd_Mo_mailKey rfl rfl rfl rfl rfl cd_Mo_mix rfl (Nat.le_of_ble_eq_true rfl) (m_mix (by exact MT_i hM1 rfl rfl rfl rfl rfl rfl rfl rfl rfl rfl) (by omega) (by show rc (A1 1) T1.length < 1000; omega) hq1.1.2.1 (MT_z hM1) (fun f2 A2 T2 r2 hx2 hr2 => ?_))
        obtain ⟨p2, q2, s2, hM2⟩ := hx2
        have hM2 : MT f2 A2 T2 _ _ _ := MT_i hM2 rfl rfl rfl rfl rfl rfl rfl rfl rfl rfl
        have s2 : rc (A2 1) T2.length ≤ rc (A1 1) T1.length + 0 := s2
        show mg _ _ _ 257 _ [.int r2, .ref 1482] _ _
        refine m_pI (k := 61) (pc' := 260) cd_Mo_mailKey rfl rfl rfl rfl (by simp [tm_okV, narrow, fits]) rfl rfl ?_
        refine m_ald (pc' := 261) cd_Mo_mailKey rfl (Or.inr ⟨_, rfl, rfl, rfl⟩) l0 rfl rfl ?_
        refine m_cv (pc' := 264) cd_Mo_mailKey rfl rfl rfl rfl rfl cd_Mo_stepMail rfl (Nat.le_of_ble_eq_true rfl) (m_stepMailG (by exact MT_i hM2 rfl rfl rfl rfl rfl rfl rfl rfl rfl rfl) (by omega) (by show rc (A2 1) T2.length < 1000; omega) (show qGv (A1 44) T2 0 _ from qGv_c p2 (fun _ _ => rfl) hq1) (fun f3 A3 T3 p3 q3 s3 hM3 e63 hq3 => ?_))
        show mg _ _ _ 264 _ [] _ _
        refine m_k1 (v := 0) (pc' := 265) cd_Mo_mailKey rfl (by decide) rfl ?_
        have s3 : rc (A3 1) T3.length ≤ rc (A2 1) T2.length := s3
        have g61 : f3 61 = r2 := e63
        have ef3 : ∀ k, ¬ (k = 0 ∨ k = 7 ∨ k = 61) → (mjKf f3 (fset (mjF f2 f1) 61 r2)) k = f k := fun k q => Eq.trans (by have e0 : ¬ k = 0 := (by omega); have e7 : ¬ k = 7 := (by omega); have e61 : ¬ k = 61 := (by omega); simp only [fset, mjF, mjKf, e0, e7, e61, or_self, if_false]) (ef k q)
        have eA3 : ∀ j, ¬ ((1 ≤ j ∧ j ≤ 8) ∨ j = 43 ∨ j = 44) → (mjKA A3 (mjA A2 A1)) j = A j := fun j q => Eq.trans (by have e0 : ¬ (1 ≤ j ∧ j ≤ 8) := (by omega); have e43 : ¬ j = 43 := (by omega); have e44 : ¬ j = 44 := (by omega); simp only [mjA, mjKA, e0, e43, e44, or_self, if_false]) (eA j q)
        exact m_reti cd_Mo_mailKey rfl ⟨_, rfl, (mK_end (Q := Q 0) (f := f) (A := A) ef3 eA3 (kk (Tmx 6 ch1 tz, (th1, Tmx 7 ch1 tz, nx1 + 1, le1)) ((gk_next (I := (th, ch, nI nn, le)) hlf).trans ((if_neg c102).trans (by rw [hsk]; rfl))) _ _ T3 (p1.trans (p2.trans p3)) (by omega) (show rc (A3 1) _ ≤ _ by omega) (by exact MT_i hM3 rfl rfl rfl rfl rfl rfl rfl rfl rfl rfl) (show tv T3 (f3 61) _ by rw [g61]; exact tv_mono p3 hr2) hq3))⟩
      · have c114 : ¬ (nI m) ≤ (nI (nn + 5)) := c114
        refine m_k2 (v := (-13)) (pc' := 119) cd_Mo_mailKey rfl (by decide) rfl ?_
        exact m_reti cd_Mo_mailKey rfl ⟨_, rfl, (mK_end (Q := Q (-13)) (f := f) (A := A) (fun _ _ => rfl) (fun _ _ => rfl) (k0 ((gk_next (I := (th, ch, nI nn, le)) hlf).trans ((if_neg c102).trans (by rw [show ib_skipTo (th, ch, nI nn, le) (nI m) = none from if_neg (fun q => c114 (nI_le ((sub_le5 (by omega) (by omega)).mp q) (by omega)))]; rfl))) f A T (List.prefix_refl T) (by omega) (Nat.le_refl _) (by exact MT_i hM rfl rfl rfl rfl rfl rfl rfl rfl rfl rfl)))⟩
  · have hlf := lf_take_at hat
    exact kk (e, (th, ch, nI nn, le.eraseIdx i)) (gk_left (I := (th, ch, nI nn, le)) hlf) f1 A1 T (List.prefix_refl T) (by omega) (by rw [e1]; exact Nat.le_refl _) hM1 ht hq
