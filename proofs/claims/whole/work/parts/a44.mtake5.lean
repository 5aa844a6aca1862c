/-! The reference: takeSealed -/
section
variable {D : DV} {ids : Nat → Tm} {q p k : Nat} {A : Tm} {S : SS}
theorem ts_11 (h : ¬ (nu (pt A 1) 1 = nI q ∧ p ≠ q)) : ts_spec D ids q p A = (-11, D, false) := if_neg h
theorem ts_old (h : nu (pt A 1) 1 = nI q ∧ p ≠ q) (hf : ss_find (D.2.2.2.2.2.1 p) (pt (pt A 1) 0) = some (k, S)) : ts_spec D ids q p A = ts_go D p A k S := by unfold ts_spec; rw [if_pos h, hf]
theorem ts_12 (h : nu (pt A 1) 1 = nI q ∧ p ≠ q) (hf : ss_find (D.2.2.2.2.2.1 p) (pt (pt A 1) 0) = none) (ha : as_spec D ids p (pt A 1) = none) : ts_spec D ids q p A = (-12, D, false) := by unfold ts_spec; rw [if_pos h, hf]; dsimp only; rw [ha]
end
theorem ts_new {id : Tm} {K0 K1 : PK} {on : List (Tm × Int32)} {lnu : Int32} {se : Nat → List SS} {me : Nat → MM} {ids : Nat → Tm} {q p : Nat} {A : Tm} {S : SS} (h : nu (pt A 1) 1 = nI q ∧ p ≠ q) (hf : ss_find (se p) (pt (pt A 1) 0) = none) (ha : as_ses id K0 K1 on (ids p) (pt A 1) = some S) : ts_spec (id, K0, K1, on, lnu, se, me) ids q p A = ts_go (id, (as_used K0 K1 on (pt A 1)).1, (as_used K0 K1 on (pt A 1)).2.1, (as_used K0 K1 on (pt A 1)).2.2, lnu, fset se p (S :: (se p).take 1), me) p A 0 S := by
  unfold ts_spec
  rw [if_pos h]
  dsimp only
  rw [hf]
  dsimp only
  rw [as_spec_of, ha]
  show (match fset se p (S :: (se p).take 1) p with
    | S' :: _ => ts_go _ p A 0 S'
    | [] => _) = _
  rw [fset_same]
  rfl
set_option maxRecDepth 100000 in
theorem m_takeSealed {sc : tm_X} {d : Nat} {f : Nat → Int32} {A : Nat → Nat → Int32} {T : List Tm} {DL : List (Int32 × Int32)} {G Kw : Tm → Prop} {id : Tm} {K0 K1 : PK} {on : List (Tm × Int32)} {lnu : Int32} {se : Nat → List SS} {me : Nat → MM} {ids : Nat → Tm} {q p ti : Nat} {X : Tm} {Q : Int32 → MS → Prop} (hM : MT f A T DL G Kw) (hl : T.length + 42 ≤ 4000) (hr : rc (A 1) T.length < 1000) (hq : q < 6) (hp : p < 6) (hX : T[ti]? = some X) (kX : kd X = 5) (gH : Tgood 3 (pt X 1) = true) (ep : nu (pt X 1) 0 = nI p) (hid : ∀ q, q < 6 → tv T (A 16 q) (ids q)) (kid : ∀ q, q < 6 → kd (ids q) = 1) (eid : id = ids q) (z0 : 0 < K0.2.1 ↔ K0.1 ≠ tz) (z1 : 0 < K1.2.1 ↔ K1.1 ≠ tz) (d0 : 0 < K0.2.1 → kd K0.1 = 1) (d1 : 0 < K1.2.1 → kd K1.1 = 1) (dn : ∀ e, e ∈ on → kd e.1 = 1) (hse : ∀ (p k : Nat) (S : SS), (se p)[k]? = some S → kd S.2.2.2.1 = 1 ∧ ∃ nn, nn ≤ 10000 ∧ S.1.2.2.1 = nI nn) (hD : qDv (A 15) T (id, K0, K1, on, lnu, se, me)) (kN : (ts_spec (id, K0, K1, on, lnu, se, me) ids q p X).1 < 0 → ∀ f1 A1 T1, T <+: T1 → T1.length ≤ T.length + 42 → rc (A1 1) T1.length ≤ rc (A 1) T.length →  MT (mjKf f1 f) (mjQA A1 A) T1 DL G Kw → Q (ts_spec (id, K0, K1, on, lnu, se, me) ids q p X).1 (mjKf f1 f, mjQA A1 A)) (kk : 0 ≤ (ts_spec (id, K0, K1, on, lnu, se, me) ids q p X).1 → ∀ f1 A1 T1, T <+: T1 → T1.length ≤ T.length + 42 → rc (A1 1) T1.length ≤ rc (A 1) T.length →  MT (mjKf f1 f) (mjQA A1 A) T1 DL G Kw → qDv (A1 15) T1 (ts_spec (id, K0, K1, on, lnu, se, me) ids q p X).2.1 → Q (ts_spec (id, K0, K1, on, lnu, se, me) ids q p X).1 (mjKf f1 f, mjQA A1 A)) : mGi sc (d + 7) 232 [.ref 1482, .int (nI q), .int (nI ti)] (f, A) Q := by
  have hTl := MT_len hM
  have hti := tv_lt hX
  have k7 := good_k7 gH
  have kB := (good3_p gH).1
  obtain ⟨hi, ehi, hH⟩ := MT_two hM hX (Or.inr (Or.inl kX))
  have hL := hD.2.2.1 p hp
  have hl2 := hL.1.2
  have h24 := hL.1.1
  show mg sc (d + 7) 232 0 [(0, .ref 1482), (1, .int (nI q)), (2, .int (nI ti))] [] (f, A) _
  generalize elv : ([(0, .ref 1482), (1, .int (nI q)), (2, .int (nI ti))] : tm_L) = lv
  have l0 : lv.lookup 0 = some (.ref 1482) := by rw [← elv]; rfl
  have l1 : lv.lookup 1 = some (.int (nI q)) := by rw [← elv]; rfl
  have l2 : lv.lookup 2 = some (.int (nI ti)) := by rw [← elv]; rfl
  clear elv
  refine m_ald (pc' := 1) cd_Mo_takeSealed rfl (Or.inr ⟨_, rfl, rfl, rfl⟩) l0 rfl rfl ?_
  refine m_fR (r := 2) (a := 3) (ad := 1485) (pc' := 4) rfl rfl cd_Mo_takeSealed rfl rfl rfl rfl rfl ?_
  refine m_ild (pc' := 5) cd_Mo_takeSealed rfl (Or.inr ⟨_, rfl, rfl, rfl⟩) l2 rfl ?_
  refine m_aI (r := 2) (a := 3) (g := (A 3)) (x := nI hi) (pc' := 6) rfl rfl cd_Mo_takeSealed rfl rfl rfl (vp_in_nI (by omega) (by decide)) ((congrArg (A 3) (nI_clamp (by omega))).trans ehi) ?_
  refine m_ist (pc' := 7) cd_Mo_takeSealed rfl (Or.inr ⟨_, rfl, rfl, rfl⟩) (by decide) rfl (fun lv el => ?_)
  have l0 := tm_lk el l0 rfl (by decide)
  have l1 := tm_lk el l1 rfl (by decide)
  have l2 := tm_lk el l2 rfl (by decide)
  have l3 : lv.lookup 3 = some (.int (nI hi)) := tm_lks el
  clear el
  refine m_ald (pc' := 8) cd_Mo_takeSealed rfl (Or.inr ⟨_, rfl, rfl, rfl⟩) l0 rfl rfl ?_
  refine m_ild (pc' := 9) cd_Mo_takeSealed rfl (Or.inr ⟨_, rfl, rfl, rfl⟩) l3 rfl ?_
  refine m_k1 (v := 0) (pc' := 10) cd_Mo_takeSealed rfl (by decide) rfl ?_
  refine m_ci (pc' := 13) cd_Mo_takeSealed rfl rfl rfl rfl rfl cd_Mo_cell rfl (Nat.le_of_ble_eq_true rfl) (m_cellE (k := 0) hM hH k7 (by decide) ep ?_)
  show mg _ _ _ 13 _ [.int (nI p)] _ _
  refine m_ist (pc' := 15) cd_Mo_takeSealed rfl (Or.inl ⟨rfl, rfl⟩) (by decide) rfl (fun lv el => ?_)
  have l0 := tm_lk el l0 rfl (by decide)
  have l1 := tm_lk el l1 rfl (by decide)
  have l2 := tm_lk el l2 rfl (by decide)
  have l3 := tm_lk el l3 rfl (by decide)
  have l4 : lv.lookup 4 = some (.int (nI p)) := tm_lks el
  clear el
  refine m_ald (pc' := 16) cd_Mo_takeSealed rfl (Or.inr ⟨_, rfl, rfl, rfl⟩) l0 rfl rfl ?_
  refine m_ild (pc' := 17) cd_Mo_takeSealed rfl (Or.inr ⟨_, rfl, rfl, rfl⟩) l3 rfl ?_
  refine m_k1 (v := 1) (pc' := 18) cd_Mo_takeSealed rfl (by decide) rfl ?_
  refine m_ci (pc' := 21) cd_Mo_takeSealed rfl rfl rfl rfl rfl cd_Mo_cell rfl (Nat.le_of_ble_eq_true rfl) (m_cellN (k := 1) hM hH k7 (by decide) ?_)
  show mg _ _ _ 21 _ [.int (nu (pt X 1) 1)] _ _
  refine m_ild (pc' := 22) cd_Mo_takeSealed rfl (Or.inr ⟨_, rfl, rfl, rfl⟩) l1 rfl ?_
  refine m_if2 (t := 31) (pc' := 25) cd_Mo_takeSealed rfl rfl rfl (fun c22 => ?_) (fun c22 => ?_)
  · have c22 : ¬ (nu (pt X 1) 1) = (nI q) := c22
    refine m_k2 (v := (-11)) (pc' := 33) cd_Mo_takeSealed rfl (by decide) rfl ?_
    rw [ts_11 (fun q => c22 q.1)] at kN
    exact m_reti cd_Mo_takeSealed rfl ⟨_, rfl, (mQ_end (Q := Q (-11)) (f := f) (A := A) (fun _ _ => rfl) (fun _ _ => rfl) (kN (by show ((-11) : Int32) < 0; decide) f A T (List.prefix_refl T) (by omega) (Nat.le_refl _) (by exact MT_i hM rfl rfl rfl rfl rfl rfl rfl rfl rfl rfl)))⟩
  · have c22 : (nu (pt X 1) 1) = (nI q) := Classical.not_not.mp c22
    refine m_ild (pc' := 27) cd_Mo_takeSealed rfl (Or.inl ⟨rfl, rfl⟩) l4 rfl ?_
    refine m_ild (pc' := 28) cd_Mo_takeSealed rfl (Or.inr ⟨_, rfl, rfl, rfl⟩) l1 rfl ?_
    refine m_if2 (t := 34) (pc' := 31) cd_Mo_takeSealed rfl rfl rfl (fun c28 => ?_) (fun c28 => ?_)
    · have c28 : ¬ (nI p) = (nI q) := c28
      refine m_k1 (v := 0) (pc' := 35) cd_Mo_takeSealed rfl (by decide) rfl ?_
      refine m_ist (pc' := 37) cd_Mo_takeSealed rfl (Or.inl ⟨rfl, rfl⟩) (by decide) rfl (fun lv el => ?_)
      have l0 := tm_lk el l0 rfl (by decide)
      have l1 := tm_lk el l1 rfl (by decide)
      have l2 := tm_lk el l2 rfl (by decide)
      have l3 := tm_lk el l3 rfl (by decide)
      have l4 := tm_lk el l4 rfl (by decide)
      have l5 : lv.lookup 5 = some (.int 0) := tm_lks el
      clear el
      have hc : nu (pt X 1) 1 = nI q ∧ p ≠ q := ⟨c22, fun e => c28 (by rw [e])⟩
      refine l_mtsF hM hp hH gH hL (fun hno lv l0 l1 l2 l3 l4 l5 => ?_) (fun k S hS hb hno lv l0 l1 l2 l3 l4 l5 => ?_) (se p).length 0 (by omega) (fun j S q => absurd q (by omega)) lv l0 l1 l2 l3 l4 l5
      · have hf : ss_find (se p) (pt (pt X 1) 0) = none := ss_find_no hno
        refine m_ild (pc' := 83) cd_Mo_takeSealed rfl (Or.inl ⟨rfl, rfl⟩) l5 rfl ?_
        refine m_ald (pc' := 84) cd_Mo_takeSealed rfl (Or.inr ⟨_, rfl, rfl, rfl⟩) l0 rfl rfl ?_
        refine m_fR (r := 14) (a := 15) (ad := 1497) (pc' := 87) rfl rfl cd_Mo_takeSealed rfl rfl rfl rfl rfl ?_
        refine m_k2 (v := 24) (pc' := 89) cd_Mo_takeSealed rfl (by decide) rfl ?_
        refine m_ild (pc' := 91) cd_Mo_takeSealed rfl (Or.inl ⟨rfl, rfl⟩) l4 rfl ?_
        refine m_pure (pc' := 92) (st' := [.int ((24 : Int32) + (nI p)), .ref 1497, .int (nI (se p).length)]) cd_Mo_takeSealed rfl rfl (fun _ _ => rfl) ?_
        refine m_eq (show ((24 : Int32) + (nI p) : Int32) = nI (24 + p) from nI_add 24 p) ?_
        refine m_aI (r := 14) (a := 15) (g := (A 15)) (x := nI (se p).length) (pc' := 93) rfl rfl cd_Mo_takeSealed rfl rfl rfl (vp_in_nI (by omega) (by decide)) (by rw [(nI_clamp (by omega))]; exact h24) ?_
        refine m_if2 (t := 100) (pc' := 96) cd_Mo_takeSealed rfl rfl rfl (fun c93 => ?_) (fun c93 => ?_)
        · have c93 : ¬ (nI (se p).length) = (nI (se p).length) := c93
          exact absurd rfl c93
        · have c93 : (nI (se p).length) = (nI (se p).length) := Classical.not_not.mp c93
          refine m_k1 (v := 1) (pc' := 97) cd_Mo_takeSealed rfl (by decide) rfl ?_
          refine m_pure (pc' := 101) (st' := [.int 1]) cd_Mo_takeSealed rfl rfl (fun _ _ => rfl) ?_
          refine m_ist (pc' := 103) cd_Mo_takeSealed rfl (Or.inl ⟨rfl, rfl⟩) (by decide) rfl (fun lv el => ?_)
          have l0 := tm_lk el l0 rfl (by decide)
          have l1 := tm_lk el l1 rfl (by decide)
          have l2 := tm_lk el l2 rfl (by decide)
          have l3 := tm_lk el l3 rfl (by decide)
          have l4 := tm_lk el l4 rfl (by decide)
          have l5 := tm_lk el l5 rfl (by decide)
          have l6 : lv.lookup 6 = some (.int 1) := tm_lks el
          clear el
          refine m_ild (pc' := 105) cd_Mo_takeSealed rfl (Or.inl ⟨rfl, rfl⟩) l6 rfl ?_
          refine m_if1 (t := 122) (pc' := 108) cd_Mo_takeSealed rfl rfl rfl (fun c105 => ?_) (fun c105 => ?_)
          · exact absurd (show (1 : Int32) = 0 from c105) (by decide)
          · have c105 : ¬ (1 : Int32) = 0 := c105
            refine m_ald (pc' := 109) cd_Mo_takeSealed rfl (Or.inr ⟨_, rfl, rfl, rfl⟩) l0 rfl rfl ?_
            refine m_ild (pc' := 110) cd_Mo_takeSealed rfl (Or.inr ⟨_, rfl, rfl, rfl⟩) l1 rfl ?_
            refine m_ild (pc' := 112) cd_Mo_takeSealed rfl (Or.inl ⟨rfl, rfl⟩) l4 rfl ?_
            refine m_ild (pc' := 113) cd_Mo_takeSealed rfl (Or.inr ⟨_, rfl, rfl, rfl⟩) l3 rfl ?_
            refine m_ci (pc' := 116) cd_Mo_takeSealed rfl rfl rfl rfl rfl cd_Mo_makes rfl (Nat.le_of_ble_eq_true rfl) (m_makes (ids := ids) hM (by omega) hr hq hp hid kid hD.1.1 hD.1.2 z0 z1 d0 d1 hD.2.1.1 dn hH k7 kB (fun hN f1 A1 T1 p1 q1 s1 hM1 => ?_) (fun S hN f1 A1 T1 p1 q1 s1 hM1 hq1 => ?_))
            · skip
              show mg _ _ _ 116 _ [.int 0] _ _
              refine m_if1 (t := 122) (pc' := 119) cd_Mo_takeSealed rfl rfl rfl (fun c116 => ?_) (fun c116 => ?_)
              · exact absurd (show ¬ (0 : Int32) = 0 from c116) (by decide)
              · have c116 : (0 : Int32) = 0 := Classical.not_not.mp c116
                refine m_k2 (v := (-12)) (pc' := 121) cd_Mo_takeSealed rfl (by decide) rfl ?_
                rw [ts_12 hc hf (by rw [as_spec_of, eid, hN]; rfl)] at kN
                exact m_reti cd_Mo_takeSealed rfl ⟨_, rfl, (mQ_end (Q := Q (-12)) (f := f) (A := A) (fun k q => by have e0 : ¬ k = 0 := (by omega); have e7 : ¬ k = 7 := (by omega); have e61 : ¬ k = 61 := (by omega); simp only [fset, mjF, mjKf, e0, e7, e61, or_self, if_false]) (fun j q => by have e0 : ¬ (1 ≤ j ∧ j ≤ 8) := (by omega); have e15 : ¬ j = 15 := (by omega); have e43 : ¬ j = 43 := (by omega); have e44 : ¬ j = 44 := (by omega); simp only [fset, mjA, mjKA, mjUA, mjQA, e0, e15, e43, e44, or_self, if_false]) (kN (by show ((-12) : Int32) < 0; decide) _ _ T1 p1 (by omega) s1 (by exact MT_i hM1 rfl rfl rfl rfl rfl rfl rfl rfl rfl rfl)))⟩
            · skip
              show mg _ _ _ 116 _ [.int 1] _ _
              refine m_if1 (t := 122) (pc' := 119) cd_Mo_takeSealed rfl rfl rfl (fun c116 => ?_) (fun c116 => ?_)
              · have c116 : ¬ (1 : Int32) = 0 := c116
                refine m_k1 (v := 0) (pc' := 123) cd_Mo_takeSealed rfl (by decide) rfl ?_
                refine m_ist (pc' := 125) cd_Mo_takeSealed rfl (Or.inl ⟨rfl, rfl⟩) (by decide) rfl (fun lv el => ?_)
                have l0 := tm_lk el l0 rfl (by decide)
                have l1 := tm_lk el l1 rfl (by decide)
                have l2 := tm_lk el l2 rfl (by decide)
                have l3 := tm_lk el l3 rfl (by decide)
                have l4 := tm_lk el l4 rfl (by decide)
                have l5 := tm_lk el l5 rfl (by decide)
                have l6 := tm_lk el l6 rfl (by decide)
                have l7 : lv.lookup 7 = some (.int 0) := tm_lks el
                clear el
                refine m_ild (pc' := 127) cd_Mo_takeSealed rfl (Or.inl ⟨rfl, rfl⟩) l7 rfl ?_
                refine m_k2 (v := 38) (pc' := 129) cd_Mo_takeSealed rfl (by decide) rfl ?_
                refine m_if2 (t := 165) (pc' := 132) cd_Mo_takeSealed rfl rfl rfl (fun c129 => ?_) (fun c129 => ?_)
                · exact absurd (show (38 : Int32) ≤ 0 from c129) (by decide)
                · have c129 : ¬ (38 : Int32) ≤ 0 := c129
                  refine m_ild (pc' := 134) cd_Mo_takeSealed rfl (Or.inl ⟨rfl, rfl⟩) l6 rfl ?_
                  refine m_if1 (t := 165) (pc' := 137) cd_Mo_takeSealed rfl rfl rfl (fun c134 => ?_) (fun c134 => ?_)
                  · have c134 : ¬ (1 : Int32) = 0 := c134
                    obtain ⟨pb, hpk, ⟨ro, oo, eS⟩, hus⟩ := as_form hN
                    subst eS
                    have s1 : rc (A1 1) T1.length ≤ rc (A 1) T.length := s1
                    rw [← eid] at hN
                    have hts := ts_new (lnu := lnu) (me := me) (q := q) hc hf hN
                    rw [hts] at kN kk
                    have hD1 : qDv (A 15) T1 (id, K0, K1, on, lnu, se, me) := qDv_c p1 (fun _ _ => rfl) hD
                    refine l_mtsNew (f := mjKf f1 f) (A := mjKA A1 A) (nn := 0) (by exact MT_i hM1 rfl rfl rfl rfl rfl rfl rfl rfl rfl rfl) (by omega) (by show rc (A1 1) _ < 1000; omega) hp (pfx_get p1 hX) kX (pfx_get p1 hH) gH (by omega) (by cases pb; exact d0 (pk_find_s hpk).1; exact d1 (pk_find_s hpk).1) z0 z1 d0 d1 dn hpk hus hD1 hq1 (fun hneg f2 A2 T2 p2 q2 s2 hM2 => ?_) (fun hpos f2 A2 T2 p2 q2 s2 hM2 hD2 => ?_) lv l0 l1 l2 l3 l4 l5 l6
                    · have s2 : rc (A2 1) T2.length ≤ rc (A1 1) T1.length := s2
                      rw [mjKf_in (f := f) (fun k q => by have e0 : ¬ k = 0 := (by omega); have e7 : ¬ k = 7 := (by omega); have e61 : ¬ k = 61 := (by omega); simp only [fset, mjF, mjKf, e0, e7, e61, or_self, if_false]), mjQA_in (A := A) (fun j q => by have e0 : ¬ (1 ≤ j ∧ j ≤ 8) := (by omega); have e15 : ¬ j = 15 := (by omega); have e43 : ¬ j = 43 := (by omega); have e44 : ¬ j = 44 := (by omega); simp only [fset, mjA, mjKA, mjUA, mjQA, e0, e15, e43, e44, or_self, if_false])] at hM2 ⊢
                      exact kN hneg f2 A2 T2 (p1.trans p2) (by omega) (by omega) hM2
                    · have s2 : rc (A2 1) T2.length ≤ rc (A1 1) T1.length := s2
                      rw [mjKf_in (f := f) (fun k q => by have e0 : ¬ k = 0 := (by omega); have e7 : ¬ k = 7 := (by omega); have e61 : ¬ k = 61 := (by omega); simp only [fset, mjF, mjKf, e0, e7, e61, or_self, if_false]), mjQA_in (A := A) (fun j q => by have e0 : ¬ (1 ≤ j ∧ j ≤ 8) := (by omega); have e15 : ¬ j = 15 := (by omega); have e43 : ¬ j = 43 := (by omega); have e44 : ¬ j = 44 := (by omega); simp only [fset, mjA, mjKA, mjUA, mjQA, e0, e15, e43, e44, or_self, if_false])] at hM2 ⊢
                      exact kk hpos f2 A2 T2 (p1.trans p2) (by omega) (by omega) hM2 hD2
                  · exact absurd (show ¬ (¬ (1 : Int32) = 0) from c134) (by decide)
              · exact absurd (show ¬ (¬ (1 : Int32) = 0) from c116) (by decide)
      · have hk2 : k < (se p).length := (List.getElem?_eq_some_iff.mp hS).1
        have hf : ss_find (se p) (pt (pt X 1) 0) = some (k, S) := ss_find_at hl2 hS hb hno
        have hts := ts_old (D := (id, K0, K1, on, lnu, se, me)) (ids := ids) hc hf
        rw [hts] at kN kk
        obtain ⟨kmi, nn, hnn, enn⟩ := hse p k S hS
        have hse0 := hL.2 k S hS
        obtain ⟨⟨th, ch, nx, le⟩, ba, ro, mi, sd, n, b, br, bp, bo, o1⟩ := S
        dsimp only at kmi enn
        subst enn
        refine m_ild (pc' := 83) cd_Mo_takeSealed rfl (Or.inl ⟨rfl, rfl⟩) l5 rfl ?_
        refine m_ald (pc' := 84) cd_Mo_takeSealed rfl (Or.inr ⟨_, rfl, rfl, rfl⟩) l0 rfl rfl ?_
        refine m_fR (r := 14) (a := 15) (ad := 1497) (pc' := 87) rfl rfl cd_Mo_takeSealed rfl rfl rfl rfl rfl ?_
        refine m_k2 (v := 24) (pc' := 89) cd_Mo_takeSealed rfl (by decide) rfl ?_
        refine m_ild (pc' := 91) cd_Mo_takeSealed rfl (Or.inl ⟨rfl, rfl⟩) l4 rfl ?_
        refine m_pure (pc' := 92) (st' := [.int ((24 : Int32) + (nI p)), .ref 1497, .int (nI k)]) cd_Mo_takeSealed rfl rfl (fun _ _ => rfl) ?_
        refine m_eq (show ((24 : Int32) + (nI p) : Int32) = nI (24 + p) from nI_add 24 p) ?_
        refine m_aI (r := 14) (a := 15) (g := (A 15)) (x := nI (se p).length) (pc' := 93) rfl rfl cd_Mo_takeSealed rfl rfl rfl (vp_in_nI (by omega) (by decide)) (by rw [(nI_clamp (by omega))]; exact h24) ?_
        refine m_if2 (t := 100) (pc' := 96) cd_Mo_takeSealed rfl rfl rfl (fun c93 => ?_) (fun c93 => ?_)
        · have c93 : ¬ (nI k) = (nI (se p).length) := c93
          refine m_k1 (v := 0) (pc' := 101) cd_Mo_takeSealed rfl (by decide) rfl ?_
          refine m_ist (pc' := 103) cd_Mo_takeSealed rfl (Or.inl ⟨rfl, rfl⟩) (by decide) rfl (fun lv el => ?_)
          have l0 := tm_lk el l0 rfl (by decide)
          have l1 := tm_lk el l1 rfl (by decide)
          have l2 := tm_lk el l2 rfl (by decide)
          have l3 := tm_lk el l3 rfl (by decide)
          have l4 := tm_lk el l4 rfl (by decide)
          have l5 := tm_lk el l5 rfl (by decide)
          have l6 : lv.lookup 6 = some (.int 0) := tm_lks el
          clear el
          refine m_ild (pc' := 105) cd_Mo_takeSealed rfl (Or.inl ⟨rfl, rfl⟩) l6 rfl ?_
          refine m_if1 (t := 122) (pc' := 108) cd_Mo_takeSealed rfl rfl rfl (fun c105 => ?_) (fun c105 => ?_)
          · have c105 : (0 : Int32) = 0 := c105
            refine m_k1 (v := 0) (pc' := 123) cd_Mo_takeSealed rfl (by decide) rfl ?_
            refine m_ist (pc' := 125) cd_Mo_takeSealed rfl (Or.inl ⟨rfl, rfl⟩) (by decide) rfl (fun lv el => ?_)
            have l0 := tm_lk el l0 rfl (by decide)
            have l1 := tm_lk el l1 rfl (by decide)
            have l2 := tm_lk el l2 rfl (by decide)
            have l3 := tm_lk el l3 rfl (by decide)
            have l4 := tm_lk el l4 rfl (by decide)
            have l5 := tm_lk el l5 rfl (by decide)
            have l6 := tm_lk el l6 rfl (by decide)
            have l7 : lv.lookup 7 = some (.int 0) := tm_lks el
            clear el
            rw [show A = fset A 43 (csW (A 43) (A 15) (30 + (2 * p + k) * 38) 0) from (by rw [csW_0, fset_id])]
            refine l_mtsO hp (by omega) (fun lv l0 l1 l2 l3 l4 l5 l6 => ?_) 38 0 rfl lv l0 l1 l2 l3 l4 l5 l6 l7
            have hS0 : qSe (csW (A 43) (A 15) (30 + (2 * p + k) * 38) 38) T 0 ((th, ch, nI nn, le), ba, ro, mi, sd, n, b, br, bp, bo, o1) := qSe_c (List.prefix_refl T) (fun j hj => by rw [Nat.zero_add, csW_in hj]) hse0
            refine l_mtsOld (f := f) (A := fset A 43 (csW (A 43) (A 15) (30 + (2 * p + k) * 38) 38)) (by exact MT_i hM rfl rfl rfl rfl rfl rfl rfl rfl rfl rfl) (by omega) (by exact hr) hp hX kX hH gH hnn kmi hS hD hS0 (fun hneg f2 A2 T2 p2 q2 s2 hM2 => ?_) (fun hpos f2 A2 T2 p2 q2 s2 hM2 hD2 => ?_) lv l0 l1 l2 l3 l4 l5 l6
            · rw [mjQA_in (A := A) (fun j q => by have e0 : ¬ (1 ≤ j ∧ j ≤ 8) := (by omega); have e15 : ¬ j = 15 := (by omega); have e43 : ¬ j = 43 := (by omega); have e44 : ¬ j = 44 := (by omega); simp only [fset, mjA, mjKA, mjUA, mjQA, e0, e15, e43, e44, or_self, if_false])] at hM2 ⊢
              exact kN hneg f2 A2 T2 p2 (by omega) s2 hM2
            · rw [mjQA_in (A := A) (fun j q => by have e0 : ¬ (1 ≤ j ∧ j ≤ 8) := (by omega); have e15 : ¬ j = 15 := (by omega); have e43 : ¬ j = 43 := (by omega); have e44 : ¬ j = 44 := (by omega); simp only [fset, mjA, mjKA, mjUA, mjQA, e0, e15, e43, e44, or_self, if_false])] at hM2 ⊢
              exact kk hpos f2 A2 T2 p2 (by omega) s2 hM2 hD2
          · exact absurd (show ¬ (0 : Int32) = 0 from c105) (by decide)
        · have c93 : (nI k) = (nI (se p).length) := Classical.not_not.mp c93
          exact absurd (nI_cxl (by omega) (by omega) c93) (by omega)
    · have c28 : (nI p) = (nI q) := Classical.not_not.mp c28
      refine m_k2 (v := (-11)) (pc' := 33) cd_Mo_takeSealed rfl (by decide) rfl ?_
      rw [ts_11 (fun q => q.2 (nI_cxl (by omega) (by omega) c28))] at kN
      exact m_reti cd_Mo_takeSealed rfl ⟨_, rfl, (mQ_end (Q := Q (-11)) (f := f) (A := A) (fun _ _ => rfl) (fun _ _ => rfl) (kN (by show ((-11) : Int32) < 0; decide) f A T (List.prefix_refl T) (by omega) (Nat.le_refl _) (by exact MT_i hM rfl rfl rfl rfl rfl rfl rfl rfl rfl rfl)))⟩
