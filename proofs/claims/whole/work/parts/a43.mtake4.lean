/-! The reference: takeSealed, with an old session, with a new one -/
theorem ses_case {l : List SS} {k : Nat} {S0 : SS} (h2 : l.length ≤ 2) (hk : l[k]? = some S0) : (k = 0 ∧ ∃ rest, l = S0 :: rest) ∨ (k = 1 ∧ ∃ L0, l = [L0, S0]) := by
  rcases len2 h2 with rfl | ⟨a, rfl⟩ | ⟨a, b, rfl⟩
  · simp at hk
  · rcases k with _ | k
    · cases hk; exact Or.inl ⟨rfl, [], rfl⟩
    · cases hk
  · rcases k with _ | _ | k
    · cases hk; exact Or.inl ⟨rfl, [b], rfl⟩
    · cases hk; exact Or.inr ⟨rfl, a, rfl⟩
    · cases hk
theorem as_form {id : Tm} {K0 K1 : PK} {on : List (Tm × Int32)} {pi H : Tm} {S : SS} (h : as_ses id K0 K1 on pi H = some S) : ∃ b, pk_find K0 K1 (pt H 2) = some b ∧ (∃ ro o, S = ss_start (pt H 0) (pk_of K0 K1 b).1 ro o) ∧ ((pt H 3 = tz ∧ (pk_of K0 K1 b).2.2.length < 4) ∨ (pt H 3 ≠ tz ∧ ∃ i, on_find (pt H 3) on = some i)) := by
  cases h1 : pk_find K0 K1 (pt H 2) with
  | none => rw [as_n1 h1] at h; cases h
  | some b =>
    refine ⟨b, rfl, ?_⟩
    by_cases c : pt H 3 = tz
    · by_cases c2 : pt H 0 ∈ (pk_of K0 K1 b).2.2 ∨ 4 ≤ (pk_of K0 K1 b).2.2.length
      · rw [as_n2 h1 c c2] at h; cases h
      · rw [as_y2 h1 c c2] at h
        cases h
        exact ⟨⟨_, _, rfl⟩, Or.inl ⟨c, by omega⟩⟩
    · cases h2 : on_find (pt H 3) on with
      | none => rw [as_n3 h1 c h2] at h; cases h
      | some i =>
        obtain ⟨e, he, -⟩ := on_find_s h2
        rw [as_y3 h1 c h2 he] at h
        cases h
        exact ⟨⟨_, _, rfl⟩, Or.inr ⟨c, i, rfl⟩⟩
set_option maxRecDepth 100000 in
theorem l_mtsOld {sc : tm_X} {d : Nat} {f : Nat → Int32} {A : Nat → Nat → Int32} {T : List Tm} {DL : List (Int32 × Int32)} {G Kw : Tm → Prop} {id : Tm} {K0 K1 : PK} {on : List (Tm × Int32)} {lnu : Int32} {se : Nat → List SS} {me : Nat → MM} {th ch ba ro mi sd bp bo : Tm} {n b : Int32} {le : List (Tm × Int32 × Tm)} {br o1 : Bool} {nn : Nat} {q p ti hi : Nat} {X : Tm} {k : Nat} {Q : Int32 → MS → Prop} (hM : MT f A T DL G Kw) (hl : T.length + 25 ≤ 4000) (hr : rc (A 1) T.length < 1000) (hp : p < 6) (hX : T[ti]? = some X) (kX : kd X = 5) (hH : T[hi]? = some (pt X 1)) (gH : Tgood 3 (pt X 1) = true) (hn : nn ≤ 10000) (kmi : kd mi = 1) (hk : (se p)[k]? = some ((th, ch, nI nn, le), ba, ro, mi, sd, n, b, br, bp, bo, o1)) (hD : qDv (A 15) T (id, K0, K1, on, lnu, se, me)) (hS : qSe (A 43) T 0 ((th, ch, nI nn, le), ba, ro, mi, sd, n, b, br, bp, bo, o1)) (kN : (ts_go (id, K0, K1, on, lnu, se, me) p X k ((th, ch, nI nn, le), ba, ro, mi, sd, n, b, br, bp, bo, o1)).1 < 0 → ∀ f1 A1 T1, T <+: T1 → T1.length ≤ T.length + 25 → rc (A1 1) T1.length ≤ rc (A 1) T.length →  MT (mjKf f1 f) (mjQA A1 A) T1 DL G Kw → Q (ts_go (id, K0, K1, on, lnu, se, me) p X k ((th, ch, nI nn, le), ba, ro, mi, sd, n, b, br, bp, bo, o1)).1 (mjKf f1 f, mjQA A1 A)) (kk : 0 ≤ (ts_go (id, K0, K1, on, lnu, se, me) p X k ((th, ch, nI nn, le), ba, ro, mi, sd, n, b, br, bp, bo, o1)).1 → ∀ f1 A1 T1, T <+: T1 → T1.length ≤ T.length + 25 → rc (A1 1) T1.length ≤ rc (A 1) T.length →  MT (mjKf f1 f) (mjQA A1 A) T1 DL G Kw → qDv (A1 15) T1 (ts_go (id, K0, K1, on, lnu, se, me) p X k ((th, ch, nI nn, le), ba, ro, mi, sd, n, b, br, bp, bo, o1)).2.1 → Q (ts_go (id, K0, K1, on, lnu, se, me) p X k ((th, ch, nI nn, le), ba, ro, mi, sd, n, b, br, bp, bo, o1)).1 (mjKf f1 f, mjQA A1 A)) : ∀ lv : tm_L, lv.lookup 0 = some (.ref 1482) → lv.lookup 1 = some (.int (nI q)) → lv.lookup 2 = some (.int (nI ti)) → lv.lookup 3 = some (.int (nI hi)) → lv.lookup 4 = some (.int (nI p)) → lv.lookup 5 = some (.int (nI k)) → lv.lookup 6 = some (.int 0) → mg sc (d + 7) 232 165 lv [] (f, A) (fun r s' => ∃ v, r = some (.int v) ∧ Q v s') := by
  intro lv l0 l1 l2 l3 l4 l5 l6
  have hl2 := (hD.2.2.1 p hp).1.2
  refine l_mtsK hM hl hr hn hX kX hH gH kmi hS (fun hN f1 A1 T1 p1 q1 s1 hM1 => ?_) (fun r hN f1 A1 T1 lv p1 q1 s1 hM1 ht hq l0 l1 l2 l3 l4 l5 l6 => ?_) lv l0 l1 l2 l3 l4 l5 l6
  · rw [tg_no hN] at kN
    exact mQ_end (Q := Q (-13)) (f := f) (A := A) (fun k q => by have e0 : ¬ k = 0 := (by omega); have e7 : ¬ k = 7 := (by omega); have e61 : ¬ k = 61 := (by omega); simp only [fset, mjF, mjKf, e0, e7, e61, or_self, if_false]) (fun j q => by have e0 : ¬ (1 ≤ j ∧ j ≤ 8) := (by omega); have e15 : ¬ j = 15 := (by omega); have e43 : ¬ j = 43 := (by omega); have e44 : ¬ j = 44 := (by omega); simp only [fset, mjA, mjKA, mjUA, mjQA, e0, e15, e43, e44, or_self, if_false]) (kN (by show ((-13) : Int32) < 0; decide) _ _ T1 p1 q1 s1 (by exact MT_i hM1 rfl rfl rfl rfl rfl rfl rfl rfl rfl rfl))
  · obtain ⟨K, S1⟩ := r
    have e := tg_key (id := id) (K0 := K0) (K1 := K1) (on := on) (lnu := lnu) (se := se) (me := me) (p := p) (k := k) hN
    rw [e] at kN kk
    refine l_mtsB hM1 (pfx_get p1 hX) kX (pfx_get p1 hH) gH ht (fun h14 => ?_) (fun h1 g4 g5 => ?_) (fun h1 hg bi lv hbi l0 l1 l2 l3 l4 l5 l6 l8 => ?_) lv l0 l1 l2 l3 l4 l5 l6
    · rw [cif_f h14] at kN
      exact mQ_end (Q := Q (-14)) (f := f) (A := A) (fun k q => by have e0 : ¬ k = 0 := (by omega); have e7 : ¬ k = 7 := (by omega); have e61 : ¬ k = 61 := (by omega); simp only [fset, mjF, mjKf, e0, e7, e61, or_self, if_false]) (fun j q => by have e0 : ¬ (1 ≤ j ∧ j ≤ 8) := (by omega); have e15 : ¬ j = 15 := (by omega); have e43 : ¬ j = 43 := (by omega); have e44 : ¬ j = 44 := (by omega); simp only [fset, mjA, mjKA, mjUA, mjQA, e0, e15, e43, e44, or_self, if_false]) (kN (by show ((-14) : Int32) < 0; decide) _ _ T1 p1 q1 s1 (by exact MT_i hM1 rfl rfl rfl rfl rfl rfl rfl rfl rfl rfl))
    · rw [cif_t h1, if_neg (by rw [g4]; decide), if_neg (by rw [g5]; decide)] at kN
      exact mQ_end (Q := Q (-15)) (f := f) (A := A) (fun k q => by have e0 : ¬ k = 0 := (by omega); have e7 : ¬ k = 7 := (by omega); have e61 : ¬ k = 61 := (by omega); simp only [fset, mjF, mjKf, e0, e7, e61, or_self, if_false]) (fun j q => by have e0 : ¬ (1 ≤ j ∧ j ≤ 8) := (by omega); have e15 : ¬ j = 15 := (by omega); have e43 : ¬ j = 43 := (by omega); have e44 : ¬ j = 44 := (by omega); simp only [fset, mjA, mjKA, mjUA, mjQA, e0, e15, e43, e44, or_self, if_false]) (kN (by show ((-15) : Int32) < 0; decide) _ _ T1 p1 q1 s1 (by exact MT_i hM1 rfl rfl rfl rfl rfl rfl rfl rfl rfl rfl))
    · rw [cif_t h1] at kk
      have hD1 : qDv (A 15) T1 (id, K0, K1, on, lnu, se, me) := qDv_c p1 (fun _ _ => rfl) hD
      rcases ses_case hl2 hk with ⟨rfl, rest, hs⟩ | ⟨rfl, L0, hs⟩
      · skip
        refine m_ild (pc' := 246) cd_Mo_takeSealed rfl (Or.inl ⟨rfl, rfl⟩) l6 rfl ?_
        refine m_if1 (t := 254) (pc' := 249) cd_Mo_takeSealed rfl rfl rfl (fun c246 => ?_) (fun c246 => ?_)
        · have c246 : (0 : Int32) = 0 := c246
          refine m_ild (pc' := 256) cd_Mo_takeSealed rfl (Or.inl ⟨rfl, rfl⟩) l6 rfl ?_
          refine m_if1 (t := 269) (pc' := 259) cd_Mo_takeSealed rfl rfl rfl (fun c256 => ?_) (fun c256 => ?_)
          · have c256 : (0 : Int32) = 0 := c256
            refine m_ild (pc' := 271) cd_Mo_takeSealed rfl (Or.inl ⟨rfl, rfl⟩) l5 rfl ?_
            refine m_k1 (v := 1) (pc' := 272) cd_Mo_takeSealed rfl (by decide) rfl ?_
            refine m_if2 (t := 287) (pc' := 275) cd_Mo_takeSealed rfl rfl rfl (fun c272 => ?_) (fun c272 => ?_)
            · have c272 : ¬ (nI 0) = 1 := c272
              refine l_mtsW (f := mjKf f1 f) (A := (mjKA A1 A)) (X0 := ((th, ch, nI nn, le), ba, ro, mi, sd, n, b, br, bp, bo, o1)) (rest := rest) (by exact MT_i hM1 rfl rfl rfl rfl rfl rfl rfl rfl rfl rfl) hp hbi hg (by rw [← hs, fset_id]; exact hD1) hq (fun g4 A2 hM2 e1 hD2 => ?_) (fun g4 g hg4 eg A2 hM2 e1 hD2 => ?_) lv l0 l4 l8
              · rw [if_pos g4, hs] at kk
                have s2 : rc (A2 1) T1.length ≤ rc (A 1) T.length := by rw [e1]; exact s1
                rw [(mjQA_in (A := A) (fun j q => by have e0 : ¬ (1 ≤ j ∧ j ≤ 8) := (by omega); have e15 : ¬ j = 15 := (by omega); have e43 : ¬ j = 43 := (by omega); have e44 : ¬ j = 44 := (by omega); simp only [fset, mjA, mjKA, mjUA, mjQA, e0, e15, e43, e44, or_self, if_false]))] at hM2 ⊢
                exact kk (by show (0 : Int32) ≤ 1; decide) f1 A2 T1 p1 q1 s2 hM2 hD2
              · have g5 : Tgood 5 (pt X 2) = true := hg.resolve_left (fun q => Bool.noConfusion (g4.symm.trans q))
                rw [if_neg (by rw [g4]; decide), if_pos g5, hs, eg, nI_clamp (by omega)] at kk
                have s2 : rc (A2 1) T1.length ≤ rc (A 1) T.length := by rw [e1]; exact s1
                rw [(mjQA_in (A := A) (fun j q => by have e0 : ¬ (1 ≤ j ∧ j ≤ 8) := (by omega); have e15 : ¬ j = 15 := (by omega); have e43 : ¬ j = 43 := (by omega); have e44 : ¬ j = 44 := (by omega); simp only [fset, mjA, mjKA, mjUA, mjQA, e0, e15, e43, e44, or_self, if_false]))] at hM2 ⊢
                exact kk (by show (0 : Int32) ≤ 2; decide) f1 A2 T1 p1 q1 s2 hM2 hD2
            · have c272 : (nI 0) = 1 := Classical.not_not.mp c272
              exact absurd c272 (by decide)
          · exact absurd (show ¬ (0 : Int32) = 0 from c256) (by decide)
        · exact absurd (show ¬ (0 : Int32) = 0 from c246) (by decide)
      · skip
        refine m_ild (pc' := 246) cd_Mo_takeSealed rfl (Or.inl ⟨rfl, rfl⟩) l6 rfl ?_
        refine m_if1 (t := 254) (pc' := 249) cd_Mo_takeSealed rfl rfl rfl (fun c246 => ?_) (fun c246 => ?_)
        · have c246 : (0 : Int32) = 0 := c246
          refine m_ild (pc' := 256) cd_Mo_takeSealed rfl (Or.inl ⟨rfl, rfl⟩) l6 rfl ?_
          refine m_if1 (t := 269) (pc' := 259) cd_Mo_takeSealed rfl rfl rfl (fun c256 => ?_) (fun c256 => ?_)
          · have c256 : (0 : Int32) = 0 := c256
            refine m_ild (pc' := 271) cd_Mo_takeSealed rfl (Or.inl ⟨rfl, rfl⟩) l5 rfl ?_
            refine m_k1 (v := 1) (pc' := 272) cd_Mo_takeSealed rfl (by decide) rfl ?_
            refine m_if2 (t := 287) (pc' := 275) cd_Mo_takeSealed rfl rfl rfl (fun c272 => ?_) (fun c272 => ?_)
            · have c272 : ¬ (nI 1) = 1 := c272
              exact absurd (show nI 1 = 1 from by decide) c272
            · have c272 : (nI 1) = 1 := Classical.not_not.mp c272
              refine m_ald (pc' := 276) cd_Mo_takeSealed rfl (Or.inr ⟨_, rfl, rfl, rfl⟩) l0 rfl rfl ?_
              refine m_ild (pc' := 278) cd_Mo_takeSealed rfl (Or.inl ⟨rfl, rfl⟩) l4 rfl ?_
              refine m_k1 (v := 0) (pc' := 279) cd_Mo_takeSealed rfl (by decide) rfl ?_
              refine m_si (pc' := 282) cd_Mo_takeSealed rfl rfl rfl rfl rfl cd_Mo_sessionAt rfl (Nat.le_of_ble_eq_true rfl) (m_sessionAt (k := 0) ?_)
              show mg _ _ _ 282 _ [.int (nI (30 + (2 * p + 0) * 38)), .ref 1482] _ _
              refine m_k2 (v := 38) (pc' := 284) cd_Mo_takeSealed rfl (by decide) rfl ?_
              refine m_cv (pc' := 287) cd_Mo_takeSealed rfl rfl rfl rfl rfl cd_Mo_exchange rfl (Nat.le_of_ble_eq_true rfl) (m_exchange (a := (30 + (2 * p + 0) * 38)) (n := 38) (by omega) ?_)
              show mg _ _ _ 287 _ [] _ _
              refine l_mtsW (f := mjKf f1 f) (A := (fset (mjKA A1 A) 15 (exP (A 15) (30 + (2 * p + 0) * 38) 38 38))) (X0 := ((th, ch, nI nn, le), ba, ro, mi, sd, n, b, br, bp, bo, o1)) (rest := [L0]) (by exact MT_i hM1 rfl rfl rfl rfl rfl rfl rfl rfl rfl rfl) hp hbi hg (qDv_exch hp hs hD1) hq (fun g4 A2 hM2 e1 hD2 => ?_) (fun g4 g hg4 eg A2 hM2 e1 hD2 => ?_) lv l0 l4 l8
              · rw [if_pos g4, hs] at kk
                have s2 : rc (A2 1) T1.length ≤ rc (A 1) T.length := by rw [e1]; exact s1
                rw [(mjQA_in (A := A) (fun j q => by have e0 : ¬ (1 ≤ j ∧ j ≤ 8) := (by omega); have e15 : ¬ j = 15 := (by omega); have e43 : ¬ j = 43 := (by omega); have e44 : ¬ j = 44 := (by omega); simp only [fset, mjA, mjKA, mjUA, mjQA, e0, e15, e43, e44, or_self, if_false]))] at hM2 ⊢
                exact kk (by show (0 : Int32) ≤ 1; decide) f1 A2 T1 p1 q1 s2 hM2 hD2
              · have g5 : Tgood 5 (pt X 2) = true := hg.resolve_left (fun q => Bool.noConfusion (g4.symm.trans q))
                rw [if_neg (by rw [g4]; decide), if_pos g5, hs, eg, nI_clamp (by omega)] at kk
                have s2 : rc (A2 1) T1.length ≤ rc (A 1) T.length := by rw [e1]; exact s1
                rw [(mjQA_in (A := A) (fun j q => by have e0 : ¬ (1 ≤ j ∧ j ≤ 8) := (by omega); have e15 : ¬ j = 15 := (by omega); have e43 : ¬ j = 43 := (by omega); have e44 : ¬ j = 44 := (by omega); simp only [fset, mjA, mjKA, mjUA, mjQA, e0, e15, e43, e44, or_self, if_false]))] at hM2 ⊢
                exact kk (by show (0 : Int32) ≤ 2; decide) f1 A2 T1 p1 q1 s2 hM2 hD2
          · exact absurd (show ¬ (0 : Int32) = 0 from c256) (by decide)
        · exact absurd (show ¬ (0 : Int32) = 0 from c246) (by decide)
set_option maxRecDepth 100000 in
theorem l_mtsNew {sc : tm_X} {d : Nat} {f : Nat → Int32} {A : Nat → Nat → Int32} {T : List Tm} {DL : List (Int32 × Int32)} {G Kw : Tm → Prop} {id : Tm} {K0 K1 : PK} {on : List (Tm × Int32)} {lnu : Int32} {se : Nat → List SS} {me : Nat → MM} {th ch ba ro mi sd bp bo : Tm} {n b : Int32} {le : List (Tm × Int32 × Tm)} {br o1 : Bool} {nn : Nat} {q p ti hi : Nat} {X : Tm} {x5 : Int32} {pb : Bool} {Q : Int32 → MS → Prop} (hM : MT f A T DL G Kw) (hl : T.length + 29 ≤ 4000) (hr : rc (A 1) T.length < 1000) (hp : p < 6) (hX : T[ti]? = some X) (kX : kd X = 5) (hH : T[hi]? = some (pt X 1)) (gH : Tgood 3 (pt X 1) = true) (hn : nn ≤ 10000) (kmi : kd mi = 1) (z0 : 0 < K0.2.1 ↔ K0.1 ≠ tz) (z1 : 0 < K1.2.1 ↔ K1.1 ≠ tz) (d0 : 0 < K0.2.1 → kd K0.1 = 1) (d1 : 0 < K1.2.1 → kd K1.1 = 1) (dn : ∀ e, e ∈ on → kd e.1 = 1) (hpk : pk_find K0 K1 (pt (pt X 1) 2) = some pb) (hus : (pt (pt X 1) 3 = tz ∧ (pk_of K0 K1 pb).2.2.length < 4) ∨ (pt (pt X 1) 3 ≠ tz ∧ ∃ i, on_find (pt (pt X 1) 3) on = some i)) (hD : qDv (A 15) T (id, K0, K1, on, lnu, se, me)) (hS : qSe (A 43) T 0 ((th, ch, nI nn, le), ba, ro, mi, sd, n, b, br, bp, bo, o1)) (kN : (ts_go (id, (as_used K0 K1 on (pt X 1)).1, (as_used K0 K1 on (pt X 1)).2.1, (as_used K0 K1 on (pt X 1)).2.2, lnu, fset se p (((th, ch, nI nn, le), ba, ro, mi, sd, n, b, br, bp, bo, o1) :: (se p).take 1), me) p X 0 ((th, ch, nI nn, le), ba, ro, mi, sd, n, b, br, bp, bo, o1)).1 < 0 → ∀ f1 A1 T1, T <+: T1 → T1.length ≤ T.length + 29 → rc (A1 1) T1.length ≤ rc (A 1) T.length →  MT (mjKf f1 f) (mjQA A1 A) T1 DL G Kw → Q (ts_go (id, (as_used K0 K1 on (pt X 1)).1, (as_used K0 K1 on (pt X 1)).2.1, (as_used K0 K1 on (pt X 1)).2.2, lnu, fset se p (((th, ch, nI nn, le), ba, ro, mi, sd, n, b, br, bp, bo, o1) :: (se p).take 1), me) p X 0 ((th, ch, nI nn, le), ba, ro, mi, sd, n, b, br, bp, bo, o1)).1 (mjKf f1 f, mjQA A1 A)) (kk : 0 ≤ (ts_go (id, (as_used K0 K1 on (pt X 1)).1, (as_used K0 K1 on (pt X 1)).2.1, (as_used K0 K1 on (pt X 1)).2.2, lnu, fset se p (((th, ch, nI nn, le), ba, ro, mi, sd, n, b, br, bp, bo, o1) :: (se p).take 1), me) p X 0 ((th, ch, nI nn, le), ba, ro, mi, sd, n, b, br, bp, bo, o1)).1 → ∀ f1 A1 T1, T <+: T1 → T1.length ≤ T.length + 29 → rc (A1 1) T1.length ≤ rc (A 1) T.length →  MT (mjKf f1 f) (mjQA A1 A) T1 DL G Kw → qDv (A1 15) T1 (ts_go (id, (as_used K0 K1 on (pt X 1)).1, (as_used K0 K1 on (pt X 1)).2.1, (as_used K0 K1 on (pt X 1)).2.2, lnu, fset se p (((th, ch, nI nn, le), ba, ro, mi, sd, n, b, br, bp, bo, o1) :: (se p).take 1), me) p X 0 ((th, ch, nI nn, le), ba, ro, mi, sd, n, b, br, bp, bo, o1)).2.1 → Q (ts_go (id, (as_used K0 K1 on (pt X 1)).1, (as_used K0 K1 on (pt X 1)).2.1, (as_used K0 K1 on (pt X 1)).2.2, lnu, fset se p (((th, ch, nI nn, le), ba, ro, mi, sd, n, b, br, bp, bo, o1) :: (se p).take 1), me) p X 0 ((th, ch, nI nn, le), ba, ro, mi, sd, n, b, br, bp, bo, o1)).1 (mjKf f1 f, mjQA A1 A)) : ∀ lv : tm_L, lv.lookup 0 = some (.ref 1482) → lv.lookup 1 = some (.int (nI q)) → lv.lookup 2 = some (.int (nI ti)) → lv.lookup 3 = some (.int (nI hi)) → lv.lookup 4 = some (.int (nI p)) → lv.lookup 5 = some (.int x5) → lv.lookup 6 = some (.int 1) → mg sc (d + 7) 232 165 lv [] (f, A) (fun r s' => ∃ v, r = some (.int v) ∧ Q v s') := by
  intro lv l0 l1 l2 l3 l4 l5 l6
  have hl2 := (hD.2.2.1 p hp).1.2
  have h24 := (hD.2.2.1 p hp).1.1
  refine l_mtsK hM (by omega) hr hn hX kX hH gH kmi hS (fun hN f1 A1 T1 p1 q1 s1 hM1 => ?_) (fun r hN f1 A1 T1 lv p1 q1 s1 hM1 ht hq l0 l1 l2 l3 l4 l5 l6 => ?_) lv l0 l1 l2 l3 l4 l5 l6
  · rw [tg_no hN] at kN
    exact mQ_end (Q := Q (-13)) (f := f) (A := A) (fun k q => by have e0 : ¬ k = 0 := (by omega); have e7 : ¬ k = 7 := (by omega); have e61 : ¬ k = 61 := (by omega); simp only [fset, mjF, mjKf, e0, e7, e61, or_self, if_false]) (fun j q => by have e0 : ¬ (1 ≤ j ∧ j ≤ 8) := (by omega); have e15 : ¬ j = 15 := (by omega); have e43 : ¬ j = 43 := (by omega); have e44 : ¬ j = 44 := (by omega); simp only [fset, mjA, mjKA, mjUA, mjQA, e0, e15, e43, e44, or_self, if_false]) (kN (by show ((-13) : Int32) < 0; decide) _ _ T1 p1 (by omega) s1 (by exact MT_i hM1 rfl rfl rfl rfl rfl rfl rfl rfl rfl rfl))
  · obtain ⟨K, S1⟩ := r
    have e := tg_key (id := id) (K0 := (as_used K0 K1 on (pt X 1)).1) (K1 := (as_used K0 K1 on (pt X 1)).2.1) (on := (as_used K0 K1 on (pt X 1)).2.2) (lnu := lnu) (se := fset se p (((th, ch, nI nn, le), ba, ro, mi, sd, n, b, br, bp, bo, o1) :: (se p).take 1)) (me := me) (p := p) (k := 0) hN
    rw [fset_fset, fset_same, List.eraseIdx_zero, List.tail_cons] at e
    rw [e] at kN kk
    refine l_mtsB hM1 (pfx_get p1 hX) kX (pfx_get p1 hH) gH ht (fun h14 => ?_) (fun h1 g4 g5 => ?_) (fun h1 hg bi lv hbi l0 l1 l2 l3 l4 l5 l6 l8 => ?_) lv l0 l1 l2 l3 l4 l5 l6
    · rw [cif_f h14] at kN
      exact mQ_end (Q := Q (-14)) (f := f) (A := A) (fun k q => by have e0 : ¬ k = 0 := (by omega); have e7 : ¬ k = 7 := (by omega); have e61 : ¬ k = 61 := (by omega); simp only [fset, mjF, mjKf, e0, e7, e61, or_self, if_false]) (fun j q => by have e0 : ¬ (1 ≤ j ∧ j ≤ 8) := (by omega); have e15 : ¬ j = 15 := (by omega); have e43 : ¬ j = 43 := (by omega); have e44 : ¬ j = 44 := (by omega); simp only [fset, mjA, mjKA, mjUA, mjQA, e0, e15, e43, e44, or_self, if_false]) (kN (by show ((-14) : Int32) < 0; decide) _ _ T1 p1 (by omega) s1 (by exact MT_i hM1 rfl rfl rfl rfl rfl rfl rfl rfl rfl rfl))
    · rw [cif_t h1, if_neg (by rw [g4]; decide), if_neg (by rw [g5]; decide)] at kN
      exact mQ_end (Q := Q (-15)) (f := f) (A := A) (fun k q => by have e0 : ¬ k = 0 := (by omega); have e7 : ¬ k = 7 := (by omega); have e61 : ¬ k = 61 := (by omega); simp only [fset, mjF, mjKf, e0, e7, e61, or_self, if_false]) (fun j q => by have e0 : ¬ (1 ≤ j ∧ j ≤ 8) := (by omega); have e15 : ¬ j = 15 := (by omega); have e43 : ¬ j = 43 := (by omega); have e44 : ¬ j = 44 := (by omega); simp only [fset, mjA, mjKA, mjUA, mjQA, e0, e15, e43, e44, or_self, if_false]) (kN (by show ((-15) : Int32) < 0; decide) _ _ T1 p1 (by omega) s1 (by exact MT_i hM1 rfl rfl rfl rfl rfl rfl rfl rfl rfl rfl))
    · rw [cif_t h1] at kk
      have s1 : rc (A1 1) T1.length ≤ rc (A 1) T.length := s1
      have hD1 : qDv (A 15) T1 (id, K0, K1, on, lnu, se, me) := qDv_c p1 (fun _ _ => rfl) hD
      have k7 := good_k7 gH
      rcases hus with ⟨z3, h4⟩ | ⟨z3, i, hon⟩
      · skip
        refine m_ild (pc' := 246) cd_Mo_takeSealed rfl (Or.inl ⟨rfl, rfl⟩) l6 rfl ?_
        refine m_if1 (t := 254) (pc' := 249) cd_Mo_takeSealed rfl rfl rfl (fun c246 => ?_) (fun c246 => ?_)
        · exact absurd (show (1 : Int32) = 0 from c246) (by decide)
        · have c246 : ¬ (1 : Int32) = 0 := c246
          refine m_ald (pc' := 250) cd_Mo_takeSealed rfl (Or.inr ⟨_, rfl, rfl, rfl⟩) l0 rfl rfl ?_
          refine m_ild (pc' := 251) cd_Mo_takeSealed rfl (Or.inr ⟨_, rfl, rfl, rfl⟩) l3 rfl ?_
          refine m_cv (pc' := 254) cd_Mo_takeSealed rfl rfl rfl rfl rfl cd_Mo_useUp rfl (Nat.le_of_ble_eq_true rfl) (m_useUpP (by exact MT_i hM1 rfl rfl rfl rfl rfl rfl rfl rfl rfl rfl) (by omega) (by show rc (A1 1) _ < 1000; omega) (show qPk (A 15) T1 0 K0 from hD1.1.1) (show qPk (A 15) T1 7 K1 from hD1.1.2) z0 z1 d0 d1 (show qOn (A 15) T1 on from hD1.2.1.1) dn (pfx_get p1 hH) k7 hpk z3 h4 (fun f2 A2 T2 p2 q2 s2 hM2 u0 u1 u2 u3 => ?_))
          have s2 : rc (A2 1) T2.length ≤ rc (A1 1) T1.length := s2
          have hD2 : qDv (A2 15) T2 (id, (as_used K0 K1 on (pt X 1)).1, (as_used K0 K1 on (pt X 1)).2.1, (as_used K0 K1 on (pt X 1)).2.2, lnu, se, me) := qDv_used p2 hD1 u0 u1 u2 u3
          show mg _ _ _ 254 _ [] _ _
          refine m_ild (pc' := 256) cd_Mo_takeSealed rfl (Or.inl ⟨rfl, rfl⟩) l6 rfl ?_
          refine m_if1 (t := 269) (pc' := 259) cd_Mo_takeSealed rfl rfl rfl (fun c256 => ?_) (fun c256 => ?_)
          · exact absurd (show (1 : Int32) = 0 from c256) (by decide)
          · have c256 : ¬ (1 : Int32) = 0 := c256
            refine m_ald (pc' := 260) cd_Mo_takeSealed rfl (Or.inr ⟨_, rfl, rfl, rfl⟩) l0 rfl rfl ?_
            refine m_ild (pc' := 262) cd_Mo_takeSealed rfl (Or.inl ⟨rfl, rfl⟩) l4 rfl ?_
            refine m_ci (pc' := 265) cd_Mo_takeSealed rfl rfl rfl rfl rfl cd_Mo_newSession rfl (Nat.le_of_ble_eq_true rfl) (m_newSes (n := (se p).length) hp hl2 (by exact (hD2.2.2.1 p hp).1.1) ?_)
            show mg _ _ _ 265 _ [.int (nI (30 + (2 * p + 0) * 38))] _ _
            refine m_pure (pc' := 266) (st' := []) cd_Mo_takeSealed rfl rfl (fun _ _ => rfl) ?_
            refine m_pure (pc' := 287) (st' := []) cd_Mo_takeSealed rfl rfl (fun _ _ => rfl) ?_
            have hq2 : qSe (A1 43) T2 0 S1 := qSe_c p2 (fun _ _ => rfl) hq
            refine l_mtsW (f := mjF f2 (mjKf f1 f)) (A := fset (mjUA A2 (mjKA A1 A)) 15 (upd (frP (A2 15) (30 + (2 * p + 0) * 38) 38 0) (24 + p) (nI (min ((se p).length + 1) 2)))) (X0 := ssZ) (rest := (se p).take 1) (by exact MT_i hM2 rfl rfl rfl rfl rfl rfl rfl rfl rfl rfl) hp (pfx_get p2 hbi) hg (qDv_new hp (MT_z hM2) hD2) hq2 (fun g4 A3 hM3 e1 hD3 => ?_) (fun g4 g hg4 eg A3 hM3 e1 hD3 => ?_) lv l0 l4 l8
            · rw [if_pos g4] at kk
              have s3 : rc (A3 1) T2.length ≤ rc (A 1) T.length := by rw [e1]; show rc (A2 1) _ ≤ _; omega
              refine mQ_end (Q := Q 1) (f := f) (A := A) (fun k q => by have e0 : ¬ k = 0 := (by omega); have e7 : ¬ k = 7 := (by omega); have e61 : ¬ k = 61 := (by omega); simp only [fset, mjF, mjKf, e0, e7, e61, or_self, if_false]) (fun j q => by have e0 : ¬ (1 ≤ j ∧ j ≤ 8) := (by omega); have e15 : ¬ j = 15 := (by omega); have e43 : ¬ j = 43 := (by omega); have e44 : ¬ j = 44 := (by omega); simp only [fset, mjA, mjKA, mjUA, mjQA, e0, e15, e43, e44, or_self, if_false]) ?_
              exact kk (by show (0 : Int32) ≤ 1; decide) _ _ T2 (p1.trans p2) (by omega) s3 (by exact MT_i hM3 rfl rfl rfl rfl rfl rfl rfl rfl rfl rfl) hD3
            · have g5 : Tgood 5 (pt X 2) = true := hg.resolve_left (fun q => Bool.noConfusion (g4.symm.trans q))
              rw [if_neg (by rw [g4]; decide), if_pos g5, eg, nI_clamp (by omega)] at kk
              have s3 : rc (A3 1) T2.length ≤ rc (A 1) T.length := by rw [e1]; show rc (A2 1) _ ≤ _; omega
              refine mQ_end (Q := Q 2) (f := f) (A := A) (fun k q => by have e0 : ¬ k = 0 := (by omega); have e7 : ¬ k = 7 := (by omega); have e61 : ¬ k = 61 := (by omega); simp only [fset, mjF, mjKf, e0, e7, e61, or_self, if_false]) (fun j q => by have e0 : ¬ (1 ≤ j ∧ j ≤ 8) := (by omega); have e15 : ¬ j = 15 := (by omega); have e43 : ¬ j = 43 := (by omega); have e44 : ¬ j = 44 := (by omega); simp only [fset, mjA, mjKA, mjUA, mjQA, e0, e15, e43, e44, or_self, if_false]) ?_
              exact kk (by show (0 : Int32) ≤ 2; decide) _ _ T2 (p1.trans p2) (by omega) s3 (by exact MT_i hM3 rfl rfl rfl rfl rfl rfl rfl rfl rfl rfl) hD3
      · skip
        refine m_ild (pc' := 246) cd_Mo_takeSealed rfl (Or.inl ⟨rfl, rfl⟩) l6 rfl ?_
        refine m_if1 (t := 254) (pc' := 249) cd_Mo_takeSealed rfl rfl rfl (fun c246 => ?_) (fun c246 => ?_)
        · exact absurd (show (1 : Int32) = 0 from c246) (by decide)
        · have c246 : ¬ (1 : Int32) = 0 := c246
          refine m_ald (pc' := 250) cd_Mo_takeSealed rfl (Or.inr ⟨_, rfl, rfl, rfl⟩) l0 rfl rfl ?_
          refine m_ild (pc' := 251) cd_Mo_takeSealed rfl (Or.inr ⟨_, rfl, rfl, rfl⟩) l3 rfl ?_
          refine m_cv (pc' := 254) cd_Mo_takeSealed rfl rfl rfl rfl rfl cd_Mo_useUp rfl (Nat.le_of_ble_eq_true rfl) (m_useUpO (by exact MT_i hM1 rfl rfl rfl rfl rfl rfl rfl rfl rfl rfl) (by omega) (by show rc (A1 1) _ < 1000; omega) (show qPk (A 15) T1 0 K0 from hD1.1.1) (show qPk (A 15) T1 7 K1 from hD1.1.2) z0 z1 d0 d1 (show qOn (A 15) T1 on from hD1.2.1.1) dn (pfx_get p1 hH) k7 hpk z3 hon (fun f2 A2 T2 p2 q2 s2 hM2 u0 u1 u2 u3 => ?_))
          have s2 : rc (A2 1) T2.length ≤ rc (A1 1) T1.length := s2
          have hD2 : qDv (A2 15) T2 (id, (as_used K0 K1 on (pt X 1)).1, (as_used K0 K1 on (pt X 1)).2.1, (as_used K0 K1 on (pt X 1)).2.2, lnu, se, me) := qDv_used p2 hD1 u0 u1 u2 u3
          show mg _ _ _ 254 _ [] _ _
          refine m_ild (pc' := 256) cd_Mo_takeSealed rfl (Or.inl ⟨rfl, rfl⟩) l6 rfl ?_
          refine m_if1 (t := 269) (pc' := 259) cd_Mo_takeSealed rfl rfl rfl (fun c256 => ?_) (fun c256 => ?_)
          · exact absurd (show (1 : Int32) = 0 from c256) (by decide)
          · have c256 : ¬ (1 : Int32) = 0 := c256
            refine m_ald (pc' := 260) cd_Mo_takeSealed rfl (Or.inr ⟨_, rfl, rfl, rfl⟩) l0 rfl rfl ?_
            refine m_ild (pc' := 262) cd_Mo_takeSealed rfl (Or.inl ⟨rfl, rfl⟩) l4 rfl ?_
            refine m_ci (pc' := 265) cd_Mo_takeSealed rfl rfl rfl rfl rfl cd_Mo_newSession rfl (Nat.le_of_ble_eq_true rfl) (m_newSes (n := (se p).length) hp hl2 (by exact (hD2.2.2.1 p hp).1.1) ?_)
            show mg _ _ _ 265 _ [.int (nI (30 + (2 * p + 0) * 38))] _ _
            refine m_pure (pc' := 266) (st' := []) cd_Mo_takeSealed rfl rfl (fun _ _ => rfl) ?_
            refine m_pure (pc' := 287) (st' := []) cd_Mo_takeSealed rfl rfl (fun _ _ => rfl) ?_
            have hq2 : qSe (A1 43) T2 0 S1 := qSe_c p2 (fun _ _ => rfl) hq
            refine l_mtsW (f := mjF f2 (mjKf f1 f)) (A := fset (mjUA A2 (mjKA A1 A)) 15 (upd (frP (A2 15) (30 + (2 * p + 0) * 38) 38 0) (24 + p) (nI (min ((se p).length + 1) 2)))) (X0 := ssZ) (rest := (se p).take 1) (by exact MT_i hM2 rfl rfl rfl rfl rfl rfl rfl rfl rfl rfl) hp (pfx_get p2 hbi) hg (qDv_new hp (MT_z hM2) hD2) hq2 (fun g4 A3 hM3 e1 hD3 => ?_) (fun g4 g hg4 eg A3 hM3 e1 hD3 => ?_) lv l0 l4 l8
            · rw [if_pos g4] at kk
              have s3 : rc (A3 1) T2.length ≤ rc (A 1) T.length := by rw [e1]; show rc (A2 1) _ ≤ _; omega
              refine mQ_end (Q := Q 1) (f := f) (A := A) (fun k q => by have e0 : ¬ k = 0 := (by omega); have e7 : ¬ k = 7 := (by omega); have e61 : ¬ k = 61 := (by omega); simp only [fset, mjF, mjKf, e0, e7, e61, or_self, if_false]) (fun j q => by have e0 : ¬ (1 ≤ j ∧ j ≤ 8) := (by omega); have e15 : ¬ j = 15 := (by omega); have e43 : ¬ j = 43 := (by omega); have e44 : ¬ j = 44 := (by omega); simp only [fset, mjA, mjKA, mjUA, mjQA, e0, e15, e43, e44, or_self, if_false]) ?_
              exact kk (by show (0 : Int32) ≤ 1; decide) _ _ T2 (p1.trans p2) (by omega) s3 (by exact MT_i hM3 rfl rfl rfl rfl rfl rfl rfl rfl rfl rfl) hD3
            · have g5 : Tgood 5 (pt X 2) = true := hg.resolve_left (fun q => Bool.noConfusion (g4.symm.trans q))
              rw [if_neg (by rw [g4]; decide), if_pos g5, eg, nI_clamp (by omega)] at kk
              have s3 : rc (A3 1) T2.length ≤ rc (A 1) T.length := by rw [e1]; show rc (A2 1) _ ≤ _; omega
              refine mQ_end (Q := Q 2) (f := f) (A := A) (fun k q => by have e0 : ¬ k = 0 := (by omega); have e7 : ¬ k = 7 := (by omega); have e61 : ¬ k = 61 := (by omega); simp only [fset, mjF, mjKf, e0, e7, e61, or_self, if_false]) (fun j q => by have e0 : ¬ (1 ≤ j ∧ j ≤ 8) := (by omega); have e15 : ¬ j = 15 := (by omega); have e43 : ¬ j = 43 := (by omega); have e44 : ¬ j = 44 := (by omega); simp only [fset, mjA, mjKA, mjUA, mjQA, e0, e15, e43, e44, or_self, if_false]) ?_
              exact kk (by show (0 : Int32) ≤ 2; decide) _ _ T2 (p1.trans p2) (by omega) s3 (by exact MT_i hM3 rfl rfl rfl rfl rfl rfl rfl rfl rfl rfl) hD3
