/-! The reference: publish, its loops -/
theorem qOn_push {w g : Nat → Int32} {T T' : List Tm} {on : List (Tm × Int32)} {n : Int32} {X : Tm} (hT : T <+: T') (h4 : on.length < 4) (h : qOn w T on) (e14 : g 14 = nI (on.length + 1)) (e : ∀ k, 15 ≤ k → k < 23 → k ≠ 15 + on.length → k ≠ 19 + on.length → g k = w k) (ex : tv T' (g (15 + on.length)) X) (en : g (19 + on.length) = n) : qOn g T' (on ++ [(X, n)]) := by
  refine ⟨⟨by rw [e14]; congr 1; simp, by simp; omega⟩, fun i x hx => ?_⟩
  by_cases c : i < on.length
  · rw [List.getElem?_append_left c] at hx
    rw [e _ (by omega) (by omega) (by omega) (by omega), e _ (by omega) (by omega) (by omega) (by omega)]
    exact ⟨tv_mono hT (h.2 i x hx).1, (h.2 i x hx).2⟩
  · rw [List.getElem?_append_right (by omega)] at hx
    by_cases c2 : i - on.length = 0
    · rw [c2] at hx
      cases hx
      rw [show i = on.length by omega]
      exact ⟨ex, en⟩
    · rw [List.getElem?_eq_none (by simp; omega)] at hx
      cases hx
theorem of_len {v : Int32} : ∀ (m dr : Nat) (ln : Int32) (on : List (Tm × Int32)), (on_fill v m dr ln on).1.length = on.length + m
  | 0, _, _, _ => rfl
  | m + 1, dr, ln, on => by
    show (on_fill v m (dr + 1) (ln + 1) _).1.length = _
    rw [of_len m]
    simp
    omega
theorem of_kd {v : Int32} : ∀ (m dr : Nat) (ln : Int32) (on : List (Tm × Int32)), (∀ e, e ∈ on → kd e.1 = 1) → ∀ e, e ∈ (on_fill v m dr ln on).1 → kd e.1 = 1
  | 0, _, _, _, h => h
  | m + 1, dr, ln, on, h => of_kd m (dr + 1) (ln + 1) _ (fun e he => by
    rw [List.mem_append, List.mem_singleton] at he
    rcases he with he | rfl
    · exact h e he
    · rfl)
set_option maxRecDepth 100000 in
theorem l_mpubL {sc : tm_X} {d : Nat} {G Kw : Tm → Prop} {p : Nat} {Q : Option Value → MS → Prop} : ∀ (m : Nat) (f : Nat → Int32) (A : Nat → Nat → Int32) (T : List Tm) (DL : List (Int32 × Int32)) (on : List (Tm × Int32)) (lnu : Int32), on.length + m = 4 → MT f A T DL G Kw → T.length + m ≤ 4000 → rc (A 1) T.length < 1000 → f 11 = nI DL.length → DL.length + m ≤ 3000 → qOn (A 15) T on → A 15 23 = lnu → (∀ f1 A1 T1 (lv : tm_L), T <+: T1 → T1.length ≤ T.length + m → rc (A1 1) T1.length ≤ rc (A 1) T.length → MT f1 A1 T1 (DL ++ List.replicate m (nI p, 0)) G Kw → (∀ k, ¬ (k = 0 ∨ k = 7 ∨ k = 11) → f1 k = f k) → (∀ j, ¬ ((1 ≤ j ∧ j ≤ 8) ∨ (10 ≤ j ∧ j ≤ 13) ∨ j = 15) → A1 j = A j) → f1 11 = nI (DL.length + m) → dws A A1 DL.length (f 21) (List.replicate m (nI p, false)) → qOn (A1 15) T1 (on_fill (nI p) m DL.length lnu on).1 → A1 15 23 = (on_fill (nI p) m DL.length lnu on).2 → (∀ k, (k < 14 ∨ 24 ≤ k) → A1 15 k = A 15 k) → lv.lookup 0 = some (.ref 1482) → lv.lookup 1 = some (.int (nI p)) →  mg sc (d + 5) 199 187 lv [] (f1, A1) Q) → ∀ lv : tm_L, lv.lookup 0 = some (.ref 1482) → lv.lookup 1 = some (.int (nI p)) →  mg sc (d + 5) 199 112 lv [] (f, A) Q := by
  intro m
  induction m with
  | zero =>
    intro f A T DL on lnu ho hM hl hr h11 hdl hO h23 kk lv l0 l1
    have h14 := hO.1.1
    refine m_ald (pc' := 113) cd_Mo_publish rfl (Or.inr ⟨_, rfl, rfl, rfl⟩) l0 rfl rfl ?_
    refine m_fR (r := 14) (a := 15) (ad := 1497) (pc' := 116) rfl rfl cd_Mo_publish rfl rfl rfl rfl rfl ?_
    refine m_k2 (v := 14) (pc' := 118) cd_Mo_publish rfl (by decide) rfl ?_
    refine m_aI (r := 14) (a := 15) (g := (A 15)) (x := nI on.length) (pc' := 119) rfl rfl cd_Mo_publish rfl rfl rfl (vp_in_nI (n := 14) (by decide) (by decide)) (by rw [(show (14 : Int32).toNatClampNeg = 14 by decide)]; exact h14) ?_
    refine m_k1 (v := 4) (pc' := 120) cd_Mo_publish rfl (by decide) rfl ?_
    refine m_if2 (t := 187) (pc' := 123) cd_Mo_publish rfl rfl rfl (fun c120 => ?_) (fun c120 => ?_)
    · have c120 : (4 : Int32) ≤ (nI on.length) := c120
      exact kk f A T lv (List.prefix_refl T) (by omega) (Nat.le_refl _) (by rw [List.replicate_zero, List.append_nil]; exact hM) (fun _ _ => rfl) (fun _ _ => rfl) h11 ⟨rfl, rfl, rfl, rfl⟩ hO h23 (fun _ _ => rfl) l0 l1
    · have c120 : ¬ (4 : Int32) ≤ (nI on.length) := c120
      exact absurd (nI_le (a := 4) (by omega) (by omega)) c120
  | succ m ih =>
    intro f A T DL on lnu ho hM hl hr h11 hdl hO h23 kk lv l0 l1
    have h14 := hO.1.1
    have hTl := MT_len hM
    refine m_ald (pc' := 113) cd_Mo_publish rfl (Or.inr ⟨_, rfl, rfl, rfl⟩) l0 rfl rfl ?_
    refine m_fR (r := 14) (a := 15) (ad := 1497) (pc' := 116) rfl rfl cd_Mo_publish rfl rfl rfl rfl rfl ?_
    refine m_k2 (v := 14) (pc' := 118) cd_Mo_publish rfl (by decide) rfl ?_
    refine m_aI (r := 14) (a := 15) (g := (A 15)) (x := nI on.length) (pc' := 119) rfl rfl cd_Mo_publish rfl rfl rfl (vp_in_nI (n := 14) (by decide) (by decide)) (by rw [(show (14 : Int32).toNatClampNeg = 14 by decide)]; exact h14) ?_
    refine m_k1 (v := 4) (pc' := 120) cd_Mo_publish rfl (by decide) rfl ?_
    refine m_if2 (t := 187) (pc' := 123) cd_Mo_publish rfl rfl rfl (fun c120 => ?_) (fun c120 => ?_)
    · have c120 : (4 : Int32) ≤ (nI on.length) := c120
      exact absurd c120 (nI_ge (b := 4) (by omega) (by decide))
    · have c120 : ¬ (4 : Int32) ≤ (nI on.length) := c120
      refine m_ald (pc' := 124) cd_Mo_publish rfl (Or.inr ⟨_, rfl, rfl, rfl⟩) l0 rfl rfl ?_
      refine m_fR (r := 14) (a := 15) (ad := 1497) (pc' := 127) rfl rfl cd_Mo_publish rfl rfl rfl rfl rfl ?_
      refine m_k2 (v := 14) (pc' := 129) cd_Mo_publish rfl (by decide) rfl ?_
      refine m_aI (r := 14) (a := 15) (g := (A 15)) (x := nI on.length) (pc' := 130) rfl rfl cd_Mo_publish rfl rfl rfl (vp_in_nI (n := 14) (by decide) (by decide)) (by rw [(show (14 : Int32).toNatClampNeg = 14 by decide)]; exact h14) ?_
      refine m_ist (pc' := 131) cd_Mo_publish rfl (Or.inr ⟨_, rfl, rfl, rfl⟩) (by decide) rfl (fun lv el => ?_)
      have l0 := tm_lk el l0 rfl (by decide)
      have l1 := tm_lk el l1 rfl (by decide)
      have l3 : lv.lookup 3 = some (.int (nI on.length)) := tm_lks el
      clear el
      refine m_ald (pc' := 132) cd_Mo_publish rfl (Or.inr ⟨_, rfl, rfl, rfl⟩) l0 rfl rfl ?_
      refine m_fR (r := 14) (a := 15) (ad := 1497) (pc' := 135) rfl rfl cd_Mo_publish rfl rfl rfl rfl rfl ?_
      refine m_k2 (v := 23) (pc' := 137) cd_Mo_publish rfl (by decide) rfl ?_
      refine m_pure (pc' := 138) (st' := [.int 23, .ref 1497, .int 23, .ref 1497]) cd_Mo_publish rfl rfl (fun _ _ => rfl) ?_
      refine m_aI (r := 14) (a := 15) (g := (A 15)) (x := lnu) (pc' := 139) rfl rfl cd_Mo_publish rfl rfl rfl (vp_in_nI (n := 23) (by decide) (by decide)) (by rw [(show (23 : Int32).toNatClampNeg = 23 by decide)]; exact h23) ?_
      refine m_k1 (v := 1) (pc' := 140) cd_Mo_publish rfl (by decide) rfl ?_
      refine m_pure (pc' := 141) (st' := [.int (lnu + 1), .int 23, .ref 1497]) cd_Mo_publish rfl rfl (fun _ _ => rfl) ?_
      refine m_aS (r := 14) (a := 15) (g := (A 15)) (p := 23) (pc' := 142) rfl rfl cd_Mo_publish rfl rfl rfl (vp_in_nI (n := 23) (by decide) (by decide)) (show (23 : Int32).toNatClampNeg = 23 by decide) ?_
      refine m_ald (pc' := 143) cd_Mo_publish rfl (Or.inr ⟨_, rfl, rfl, rfl⟩) l0 rfl rfl ?_
      refine m_fR (r := 14) (a := 15) (ad := 1497) (pc' := 146) rfl rfl cd_Mo_publish rfl rfl rfl rfl rfl ?_
      refine m_k2 (v := 15) (pc' := 148) cd_Mo_publish rfl (by decide) rfl ?_
      refine m_ild (pc' := 149) cd_Mo_publish rfl (Or.inr ⟨_, rfl, rfl, rfl⟩) l3 rfl ?_
      refine m_pure (pc' := 150) (st' := [.int ((15 : Int32) + (nI on.length)), .ref 1497]) cd_Mo_publish rfl rfl (fun _ _ => rfl) ?_
      refine m_eq (show ((15 : Int32) + (nI on.length) : Int32) = nI (15 + on.length) from nI_add 15 on.length) ?_
      refine m_ald (pc' := 151) cd_Mo_publish rfl (Or.inr ⟨_, rfl, rfl, rfl⟩) l0 rfl rfl ?_
      refine m_ild (pc' := 152) cd_Mo_publish rfl (Or.inr ⟨_, rfl, rfl, rfl⟩) l1 rfl ?_
      refine m_k1 (v := 0) (pc' := 153) cd_Mo_publish rfl (by decide) rfl ?_
      refine m_ci (pc' := 156) cd_Mo_publish rfl rfl rfl rfl rfl cd_Mo_drawn rfl (Nat.le_of_ble_eq_true rfl) (m_drawn (rt := false) (xd := (nI p)) (xp := 0) (by exact MT_i hM rfl rfl rfl rfl rfl rfl rfl rfl rfl rfl) (by omega) (by show rc (A 1) T.length < 1000; omega) h11 (by omega) (fun f1 A1 T1 r1 hx1 hr1 => ?_))
      obtain ⟨p1, q1, s1, hM1⟩ := hx1
      have hM1 : MT f1 A1 T1 _ _ _ := MT_i hM1 rfl rfl rfl rfl rfl rfl rfl rfl rfl rfl
      have s1 : rc (A1 1) T1.length ≤ rc (A 1) T.length + 0 := s1
      show mg _ _ _ 156 _ [.int r1, .int (nI (15 + on.length)), .ref 1497] _ _
      refine m_aS (r := 14) (a := 15) (g := (upd (A 15) 23 (lnu + 1))) (p := (15 + on.length)) (pc' := 157) rfl rfl cd_Mo_publish rfl rfl rfl (vp_in_nI (by omega) (by decide)) (nI_clamp (by omega)) ?_
      refine m_ald (pc' := 158) cd_Mo_publish rfl (Or.inr ⟨_, rfl, rfl, rfl⟩) l0 rfl rfl ?_
      refine m_fR (r := 14) (a := 15) (ad := 1497) (pc' := 161) rfl rfl cd_Mo_publish rfl rfl rfl rfl rfl ?_
      refine m_k2 (v := 19) (pc' := 163) cd_Mo_publish rfl (by decide) rfl ?_
      refine m_ild (pc' := 164) cd_Mo_publish rfl (Or.inr ⟨_, rfl, rfl, rfl⟩) l3 rfl ?_
      refine m_pure (pc' := 165) (st' := [.int ((19 : Int32) + (nI on.length)), .ref 1497]) cd_Mo_publish rfl rfl (fun _ _ => rfl) ?_
      refine m_eq (show ((19 : Int32) + (nI on.length) : Int32) = nI (19 + on.length) from nI_add 19 on.length) ?_
      refine m_ald (pc' := 166) cd_Mo_publish rfl (Or.inr ⟨_, rfl, rfl, rfl⟩) l0 rfl rfl ?_
      refine m_fR (r := 14) (a := 15) (ad := 1497) (pc' := 169) rfl rfl cd_Mo_publish rfl rfl rfl rfl rfl ?_
      refine m_k2 (v := 23) (pc' := 171) cd_Mo_publish rfl (by decide) rfl ?_
      refine m_aI (r := 14) (a := 15) (g := (upd (upd (A 15) 23 (lnu + 1)) (15 + on.length) r1)) (x := (lnu + 1)) (pc' := 172) rfl rfl cd_Mo_publish rfl rfl rfl (vp_in_nI (n := 23) (by decide) (by decide)) (by rw [(show (23 : Int32).toNatClampNeg = 23 by decide), upd_ne (by omega), upd_same]) ?_
      refine m_aS (r := 14) (a := 15) (g := (upd (upd (A 15) 23 (lnu + 1)) (15 + on.length) r1)) (p := (19 + on.length)) (pc' := 173) rfl rfl cd_Mo_publish rfl rfl rfl (vp_in_nI (by omega) (by decide)) (nI_clamp (by omega)) ?_
      rw [fset_fset]
      refine m_ald (pc' := 174) cd_Mo_publish rfl (Or.inr ⟨_, rfl, rfl, rfl⟩) l0 rfl rfl ?_
      refine m_fR (r := 14) (a := 15) (ad := 1497) (pc' := 177) rfl rfl cd_Mo_publish rfl rfl rfl rfl rfl ?_
      refine m_k2 (v := 14) (pc' := 179) cd_Mo_publish rfl (by decide) rfl ?_
      refine m_pure (pc' := 180) (st' := [.int 14, .ref 1497, .int 14, .ref 1497]) cd_Mo_publish rfl rfl (fun _ _ => rfl) ?_
      refine m_aI (r := 14) (a := 15) (g := (upd (upd (upd (A 15) 23 (lnu + 1)) (15 + on.length) r1) (19 + on.length) (lnu + 1))) (x := nI on.length) (pc' := 181) rfl rfl cd_Mo_publish rfl rfl rfl (vp_in_nI (n := 14) (by decide) (by decide)) (by rw [(show (14 : Int32).toNatClampNeg = 14 by decide), upd_ne (by omega), upd_ne (by omega), upd_ne (by omega)]; exact h14) ?_
      refine m_k1 (v := 1) (pc' := 182) cd_Mo_publish rfl (by decide) rfl ?_
      refine m_pure (pc' := 183) (st' := [.int ((nI on.length) + 1), .int 14, .ref 1497]) cd_Mo_publish rfl rfl (fun _ _ => rfl) ?_
      refine m_eq (show ((nI on.length) + 1 : Int32) = nI (on.length + 1) from nI_add on.length 1) ?_
      refine m_aS (r := 14) (a := 15) (g := (upd (upd (upd (A 15) 23 (lnu + 1)) (15 + on.length) r1) (19 + on.length) (lnu + 1))) (p := 14) (pc' := 184) rfl rfl cd_Mo_publish rfl rfl rfl (vp_in_nI (n := 14) (by decide) (by decide)) (show (14 : Int32).toNatClampNeg = 14 by decide) ?_
      rw [fset_fset]
      refine m_pure (pc' := 112) (st' := []) cd_Mo_publish rfl rfl (fun _ _ => rfl) ?_
      have hO1 : qOn (upd (upd (upd (upd (A 15) 23 (lnu + 1)) (15 + on.length) r1) (19 + on.length) (lnu + 1)) 14 (nI (on.length + 1))) T1 (on ++ [((Tsec (nI DL.length) (nI p) 0), lnu + 1)]) := by
        refine qOn_push p1 (by omega) hO ?_ (fun k k1 k2 k3 k4 => by rw [upd_ne (by omega), upd_ne (by omega), upd_ne (by omega), upd_ne (by omega)]) ?_ ?_
        · rw [upd_same]
        · rw [upd_ne (by omega), upd_ne (by omega), upd_same]; exact hr1
        · rw [upd_ne (by omega), upd_same]
      have h231 : (upd (upd (upd (upd (A 15) 23 (lnu + 1)) (15 + on.length) r1) (19 + on.length) (lnu + 1)) 14 (nI (on.length + 1))) 23 = lnu + 1 := by rw [upd_ne (by omega), upd_ne (by omega), upd_ne (by omega), upd_same]
      have hdl1 : (DL ++ [(nI p, (0 : Int32))]).length = DL.length + 1 := by simp
      refine ih _ _ T1 (DL ++ [(nI p, 0)]) _ _ (by simp; omega) (by exact MT_i hM1 rfl rfl rfl rfl rfl rfl rfl rfl rfl rfl) (by omega) (by show rc (A1 1) _ < 1000; omega) (show nI (List.length DL + 1) = _ by rw [hdl1]) (by rw [hdl1]; omega) hO1 h231 (fun f2 A2 T2 lv p2 q2 s2 hM2 ef eA e11 hdw hO2 h232 h15 l0 l1 => ?_) lv l0 l1
      have s2 : rc (A2 1) T2.length ≤ rc (A1 1) T1.length := s2
      rw [List.append_assoc, show [(nI p, (0 : Int32))] ++ List.replicate m (nI p, 0) = List.replicate (m + 1) (nI p, 0) from rfl] at hM2
      rw [hdl1] at e11 hdw hO2 h232
      refine kk f2 A2 T2 lv (p1.trans p2) (by omega) (by omega) hM2 (fun k q => (ef k q).trans (by have e0 : ¬ k = 0 := (by omega); have e7 : ¬ k = 7 := (by omega); have e11 : ¬ k = 11 := (by omega); simp only [fset, mjF, mjBf, e0, e7, e11, or_self, if_false])) (fun j q => (eA j q).trans (by have e0 : ¬ (1 ≤ j ∧ j ≤ 8) := (by omega); have e10 : ¬ j = 10 := (by omega); have e11 : ¬ j = 11 := (by omega); have e12 : ¬ j = 12 := (by omega); have e13 : ¬ j = 13 := (by omega); have e15 : ¬ j = 15 := (by omega); simp only [fset, mjA, drA, e0, e10, e11, e12, e13, e15, or_self, if_false])) (by rw [e11]; congr 1; omega) ?_ hO2 h232 (fun k q => (h15 k q).trans (by show (upd (upd (upd (upd (A 15) 23 (lnu + 1)) (15 + on.length) r1) (19 + on.length) (lnu + 1)) 14 (nI (on.length + 1))) k = A 15 k; rw [upd_ne (by omega), upd_ne (by omega), upd_ne (by omega), upd_ne (by omega)])) l0 l1
      exact dws_app (l := [(nI p, false)]) ⟨rfl, rfl, rfl, rfl⟩ hdw
set_option maxRecDepth 100000 in
theorem l_mpubA {sc : tm_X} {d : Nat} {DL : List (Int32 × Int32)} {Kw : Tm → Prop} {p : Nat} {on : List (Tm × Int32)} {Q : Option Value → MS → Prop} (hp : p < 6) (h4 : on.length = 4) (hk : ∀ e, e ∈ on → kd e.1 = 1) : ∀ (R : List (Tm × Int32)) (i : Nat) (f : Nat → Int32) (A : Nat → Nat → Int32) (T : List Tm) (G : Tm → Prop) (dir : Nat → Tm), on.drop i = R → i ≤ 4 → MT f A T DL G Kw → T.length + 2 * R.length ≤ 4000 → rc (A 1) T.length + R.length ≤ 1000 → qOn (A 15) T on → (∀ j, j < 30 → tv T (A 17 j) (dir j)) → (∀ f1 A1 T1 (lv : tm_L), T <+: T1 → T1.length ≤ T.length + 2 * R.length → rc (A1 1) T1.length ≤ rc (A 1) T.length + R.length → MT f1 A1 T1 DL (fun y => G y ∨ y ∈ R.map (kr (nI p))) Kw → (f1 16 = 1 ∨ (f1 16 = f 16 ∧ ∀ y, y ∈ R.map (kr (nI p)) → G y)) → (∀ k, ¬ (k = 0 ∨ k = 7 ∨ k = 16) → f1 k = f k) → (∀ j, ¬ ((1 ≤ j ∧ j ≤ 9) ∨ j = 17) → A1 j = A j) → (∀ j, j < 30 → tv T1 (A1 17 j) (an_dir p (nI p) R i dir j)) → lv.lookup 0 = some (.ref 1482) → lv.lookup 1 = some (.int (nI p)) →  mg sc (d + 5) 199 298 lv [] (f1, A1) Q) → ∀ lv : tm_L, lv.lookup 0 = some (.ref 1482) → lv.lookup 1 = some (.int (nI p)) →  lv.lookup 3 = some (.int (nI i)) → mg sc (d + 5) 199 245 lv [] (f, A) Q := by
  intro R
  induction R with
  | nil =>
    intro i f A T G dir hR hi hM hl hr hO hdir kk lv l0 l1 l3
    have hd := drop_n hR
    refine m_ild (pc' := 246) cd_Mo_publish rfl (Or.inr ⟨_, rfl, rfl, rfl⟩) l3 rfl ?_
    refine m_k1 (v := 4) (pc' := 247) cd_Mo_publish rfl (by decide) rfl ?_
    refine m_if2 (t := 298) (pc' := 250) cd_Mo_publish rfl rfl rfl (fun c247 => ?_) (fun c247 => ?_)
    · have c247 : (4 : Int32) ≤ (nI i) := c247
      exact kk f A T lv (List.prefix_refl T) (by omega) (by omega) (MT_G hM (fun y => ⟨Or.inl, fun q => q.elim (fun z => z) (fun q => absurd q List.not_mem_nil)⟩) (fun _ => Iff.rfl)) (Or.inr ⟨rfl, fun y q => absurd q List.not_mem_nil⟩) (fun _ _ => rfl) (fun _ _ => rfl) hdir l0 l1
    · have c247 : ¬ (4 : Int32) ≤ (nI i) := c247
      exact absurd (nI_le (a := 4) (by omega) (by omega)) c247
  | cons e R ih =>
    intro i f A T G dir hR hi hM hl hr hO hdir kk lv l0 l1 l3
    obtain ⟨he, hR2, hil⟩ := drop_c hR
    rw [List.length_cons] at hl hr
    have hTl := MT_len hM
    have g1 := (hO.2 i e he).1
    have g2 := (hO.2 i e he).2
    have kE := hk e (List.mem_of_getElem? he)
    refine m_ild (pc' := 246) cd_Mo_publish rfl (Or.inr ⟨_, rfl, rfl, rfl⟩) l3 rfl ?_
    refine m_k1 (v := 4) (pc' := 247) cd_Mo_publish rfl (by decide) rfl ?_
    refine m_if2 (t := 298) (pc' := 250) cd_Mo_publish rfl rfl rfl (fun c247 => ?_) (fun c247 => ?_)
    · have c247 : (4 : Int32) ≤ (nI i) := c247
      exact absurd c247 (nI_ge (b := 4) (by omega) (by decide))
    · have c247 : ¬ (4 : Int32) ≤ (nI i) := c247
      refine m_ald (pc' := 251) cd_Mo_publish rfl (Or.inr ⟨_, rfl, rfl, rfl⟩) l0 rfl rfl ?_
      refine m_k1 (v := 5) (pc' := 252) cd_Mo_publish rfl (by decide) rfl ?_
      refine m_ild (pc' := 253) cd_Mo_publish rfl (Or.inr ⟨_, rfl, rfl, rfl⟩) l1 rfl ?_
      refine m_pure (pc' := 254) (st' := [.int ((5 : Int32) * (nI p)), .ref 1482]) cd_Mo_publish rfl rfl (fun _ _ => rfl) ?_
      refine m_eq (show ((5 : Int32) * (nI p) : Int32) = nI (5 * p) from pk_mul 5 p) ?_
      refine m_k1 (v := 1) (pc' := 255) cd_Mo_publish rfl (by decide) rfl ?_
      refine m_pure (pc' := 256) (st' := [.int ((nI (5 * p)) + 1), .ref 1482]) cd_Mo_publish rfl rfl (fun _ _ => rfl) ?_
      refine m_eq (show ((nI (5 * p)) + 1 : Int32) = nI ((5 * p) + 1) from nI_add (5 * p) 1) ?_
      refine m_ild (pc' := 257) cd_Mo_publish rfl (Or.inr ⟨_, rfl, rfl, rfl⟩) l3 rfl ?_
      refine m_pure (pc' := 258) (st' := [.int ((nI ((5 * p) + 1)) + (nI i)), .ref 1482]) cd_Mo_publish rfl rfl (fun _ _ => rfl) ?_
      refine m_eq (show ((nI ((5 * p) + 1)) + (nI i) : Int32) = nI (((5 * p) + 1) + i) from nI_add ((5 * p) + 1) i) ?_
      refine m_ald (pc' := 259) cd_Mo_publish rfl (Or.inr ⟨_, rfl, rfl, rfl⟩) l0 rfl rfl ?_
      refine m_k1 (v := 2) (pc' := 260) cd_Mo_publish rfl (by decide) rfl ?_
      refine m_ild (pc' := 261) cd_Mo_publish rfl (Or.inr ⟨_, rfl, rfl, rfl⟩) l1 rfl ?_
      refine m_ald (pc' := 262) cd_Mo_publish rfl (Or.inr ⟨_, rfl, rfl, rfl⟩) l0 rfl rfl ?_
      refine m_fR (r := 14) (a := 15) (ad := 1497) (pc' := 265) rfl rfl cd_Mo_publish rfl rfl rfl rfl rfl ?_
      refine m_k2 (v := 19) (pc' := 267) cd_Mo_publish rfl (by decide) rfl ?_
      refine m_ild (pc' := 268) cd_Mo_publish rfl (Or.inr ⟨_, rfl, rfl, rfl⟩) l3 rfl ?_
      refine m_pure (pc' := 269) (st' := [.int ((19 : Int32) + (nI i)), .ref 1497, .int (nI p), .int 2, .ref 1482, .int (nI (((5 * p) + 1) + i)), .ref 1482]) cd_Mo_publish rfl rfl (fun _ _ => rfl) ?_
      refine m_eq (show ((19 : Int32) + (nI i) : Int32) = nI (19 + i) from nI_add 19 i) ?_
      refine m_aI (r := 14) (a := 15) (g := (A 15)) (x := e.2) (pc' := 270) rfl rfl cd_Mo_publish rfl rfl rfl (vp_in_nI (by omega) (by decide)) ((congrArg (A 15) (nI_clamp (by omega))).trans g2) ?_
      refine m_k1 (v := 0) (pc' := 271) cd_Mo_publish rfl (by decide) rfl ?_
      refine m_k1 (v := 0) (pc' := 272) cd_Mo_publish rfl (by decide) rfl ?_
      refine m_ald (pc' := 273) cd_Mo_publish rfl (Or.inr ⟨_, rfl, rfl, rfl⟩) l0 rfl rfl ?_
      refine m_ald (pc' := 274) cd_Mo_publish rfl (Or.inr ⟨_, rfl, rfl, rfl⟩) l0 rfl rfl ?_
      refine m_fR (r := 14) (a := 15) (ad := 1497) (pc' := 277) rfl rfl cd_Mo_publish rfl rfl rfl rfl rfl ?_
      refine m_k2 (v := 15) (pc' := 279) cd_Mo_publish rfl (by decide) rfl ?_
      refine m_ild (pc' := 280) cd_Mo_publish rfl (Or.inr ⟨_, rfl, rfl, rfl⟩) l3 rfl ?_
      refine m_pure (pc' := 281) (st' := [.int ((15 : Int32) + (nI i)), .ref 1497, .ref 1482, .int 0, .int 0, .int e.2, .int (nI p), .int 2, .ref 1482, .int (nI (((5 * p) + 1) + i)), .ref 1482]) cd_Mo_publish rfl rfl (fun _ _ => rfl) ?_
      refine m_eq (show ((15 : Int32) + (nI i) : Int32) = nI (15 + i) from nI_add 15 i) ?_
      refine m_aI (r := 14) (a := 15) (g := (A 15)) (x := ((A 15) (15 + i))) (pc' := 282) rfl rfl cd_Mo_publish rfl rfl rfl (vp_in_nI (by omega) (by decide)) (congrArg (A 15) (nI_clamp (by omega))) ?_
      refine m_ci (pc' := 285) cd_Mo_publish rfl rfl rfl rfl rfl cd_Mo_publicOf rfl (Nat.le_of_ble_eq_true rfl) (m_publicOf (by exact MT_i hM rfl rfl rfl rfl rfl rfl rfl rfl rfl rfl) (by omega) (by show rc (A 1) T.length < 1000; omega) g1 kE (fun f1 A1 T1 r1 hx1 hr1 => ?_))
      obtain ⟨p1, q1, s1, hM1⟩ := hx1
      have hM1 : MT f1 A1 T1 _ _ _ := MT_i hM1 rfl rfl rfl rfl rfl rfl rfl rfl rfl rfl
      have s1 : rc (A1 1) T1.length ≤ rc (A 1) T.length + 0 := s1
      show mg _ _ _ 285 _ [.int r1, .int 0, .int 0, .int e.2, .int (nI p), .int 2, .ref 1482, .int (nI (((5 * p) + 1) + i)), .ref 1482] _ _
      refine m_k1 (v := 0) (pc' := 286) cd_Mo_publish rfl (by decide) rfl ?_
      refine m_ci (pc' := 289) cd_Mo_publish rfl rfl rfl rfl rfl cd_Mo_rowOf rfl (Nat.le_of_ble_eq_true rfl) (m_rowOf (by exact MT_i hM1 rfl rfl rfl rfl rfl rfl rfl rfl rfl rfl) (by omega) (by show rc (A1 1) T1.length < 1000; omega) hr1 (MT_z hM1) (fun f2 A2 T2 r2 g2 hx2 hr2 => ?_))
      obtain ⟨p2, q2, s2, hM2⟩ := hx2
      have hM2 : MT f2 A2 T2 _ _ _ := MT_i hM2 rfl rfl rfl rfl rfl rfl rfl rfl rfl rfl
      have s2 : rc (A2 1) T2.length ≤ rc (A1 1) T1.length + 1 := s2
      show mg _ _ _ 289 _ [.int r2, .int (nI (((5 * p) + 1) + i)), .ref 1482] _ _
      refine m_cv (pc' := 292) cd_Mo_publish rfl rfl rfl rfl rfl cd_Mo_put rfl (Nat.le_of_ble_eq_true rfl) (m_put (X := kr (nI p) e) (q := 5 * p + 1 + i) (by exact MT_i hM2 rfl rfl rfl rfl rfl rfl rfl rfl rfl rfl) (by omega) (show tv T2 r2 (kr (nI p) e) from hr2) (fun v g hv hM3 => ?_))
      show mg _ _ _ 292 _ [] _ _
      refine m_inc (y := nI (i + 1)) (pc' := 295) cd_Mo_publish rfl l3 (by decide) (nI_add i 1) rfl (fun lv el => ?_)
      have l0 := tm_lk el l0 rfl (by decide)
      have l1 := tm_lk el l1 rfl (by decide)
      have l3 : lv.lookup 3 = some (.int (nI (i + 1))) := tm_lks el
      clear el
      refine m_pure (pc' := 245) (st' := []) cd_Mo_publish rfl rfl (fun _ _ => rfl) ?_
      have hXz : kr (nI p) e ≠ tz := fun q => nomatch q
      have hd3 : ∀ j, j < 30 → tv T2 (upd (A 17) (5 * p + 1 + i) r2 j) (fset dir (p * 5 + (i + 1)) (kr (nI p) e) j) := fun j hj => by
        by_cases q : j = 5 * p + 1 + i
        · rw [q, upd_same, show 5 * p + 1 + i = p * 5 + (i + 1) by omega, fset_same]; exact hr2
        · rw [upd_ne q, fset_ne (by omega)]; exact tv_mono (p1.trans p2) (hdir j hj)
      refine ih (i + 1) (fset (mjF f2 (mjF f1 f)) 16 v) (fset (fset (mjA A2 (fset (mjA A1 A) 9 g2)) 17 (upd (A 17) (5 * p + 1 + i) r2)) 5 g) T2 _ _ hR2 (by omega) (by exact MT_i hM3 rfl rfl rfl rfl rfl rfl rfl rfl rfl rfl) (by omega) (by show rc (A2 1) _ + _ ≤ 1000; omega) (show qOn (A 15) T2 on from qOn_c (p1.trans p2) (fun _ _ _ => rfl) hO) hd3 (fun f4 A4 T4 lv p4 q4 s4 hM4 hst4 ef eA hd4 l0 l1 => ?_) lv l0 l1 l3
      have s4 : rc (A4 1) T4.length ≤ rc (A2 1) T2.length + R.length := s4
      have hst5 : f4 16 = 1 ∨ (f4 16 = f 16 ∧ ∀ y, y ∈ (e :: R).map (kr (nI p)) → G y) := by
        rcases hst4 with q | ⟨q, q2⟩
        · exact Or.inl q
        · rcases hv with hv | ⟨hv, hv2⟩
          · exact Or.inl ((show f4 16 = v from q).trans hv)
          · have gX : G (kr (nI p) e) := hv2.elim (fun z => absurd z hXz) (fun z => z)
            refine Or.inr ⟨(show f4 16 = v from q).trans hv, fun y hy => ?_⟩
            rcases List.mem_cons.mp hy with e1 | hy
            · exact e1 ▸ gX
            · exact (q2 y hy).elim (fun z => z) (fun z => z.1 ▸ gX)
      refine kk f4 A4 T4 lv ((p1.trans p2).trans p4) (by rw [List.length_cons]; omega) (by rw [List.length_cons]; omega) (MT_G hM4 (fun y => ?_) (fun _ => Iff.rfl)) hst5 (fun k q => (ef k q).trans (by have e0 : ¬ k = 0 := (by omega); have e7 : ¬ k = 7 := (by omega); have e16 : ¬ k = 16 := (by omega); simp only [fset, mjF, e0, e7, e16, or_self, if_false])) (fun j q => (eA j q).trans (by have e0 : ¬ (1 ≤ j ∧ j ≤ 8) := (by omega); have e5 : ¬ j = 5 := (by omega); have e9 : ¬ j = 9 := (by omega); have e17 : ¬ j = 17 := (by omega); simp only [fset, mjA, drA, e0, e5, e9, e17, or_self, if_false])) hd4 l0 l1
      rw [List.map_cons, List.mem_cons]
      exact ⟨fun q => q.elim (fun q => q.elim Or.inl (fun q => Or.inr (Or.inl q.1))) (fun q => Or.inr (Or.inr q)), fun q => q.elim (fun q => Or.inl (Or.inl q)) (fun q => q.elim (fun q => Or.inl (Or.inr ⟨q, hXz⟩)) Or.inr)⟩
