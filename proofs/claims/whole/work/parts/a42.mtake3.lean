/-! The reference: takeSealed, its pieces -/
theorem exP_lo {w : Nat → Int32} {a n j : Nat} (h : j < n) : exP w a n n (a + j) = w (a + n + j) := by
  unfold exP
  rw [if_pos (by omega)]
  congr 1
  omega
theorem exP_hi {w : Nat → Int32} {a n j : Nat} (h : j < n) : exP w a n n (a + n + j) = w (a + j) := by
  unfold exP
  rw [if_neg (by omega), if_pos (by omega)]
  congr 1
  omega
theorem exP_out {w : Nat → Int32} {a n j : Nat} (h : ¬ (a ≤ j ∧ j < a + 2 * n)) : exP w a n n j = w j := by
  unfold exP
  rw [if_neg (by omega), if_neg (by omega)]
def ssZ : SS := ss_start tz tz tz false
theorem qDv_new {w : Nat → Int32} {T : List Tm} {id : Tm} {K0 K1 : PK} {on : List (Tm × Int32)} {lnu : Int32} {se : Nat → List SS} {me : Nat → MM} {p : Nat} (hp : p < 6) (hz : tv T 0 tz) (h : qDv w T (id, K0, K1, on, lnu, se, me)) : qDv (upd (frP w (30 + (2 * p + 0) * 38) 38 0) (24 + p) (nI (min ((se p).length + 1) 2))) T (id, K0, K1, on, lnu, fset se p (ssZ :: (se p).take 1), me) := by
  have hq := h.2.2.1 p hp
  have hl := hq.1.2
  refine qDv_ses hp h (List.prefix_refl T) ⟨⟨by rw [upd_same]; congr 1; simp; omega, by simp; omega⟩, fun k S hS => ?_⟩ (fun k k1 k2 => by rw [upd_ne k1, frP_out (by omega) (by omega)])
  rcases k with _ | k
  · cases hS
    have E : ∀ j, j < 38 → (upd (frP w (30 + (2 * p + 0) * 38) 38 0) (24 + p) (nI (min ((se p).length + 1) 2))) (30 + (2 * p + 0) * 38 + j) = 0 := fun j hj => by rw [upd_ne (by omega), frP_lo (by omega) (by omega)]
    have F : ∀ j, j < 38 → tv T ((upd (frP w (30 + (2 * p + 0) * 38) 38 0) (24 + p) (nI (min ((se p).length + 1) 2))) (30 + (2 * p + 0) * 38 + j)) tz := fun j hj => by rw [E j hj]; exact hz
    exact ⟨⟨F 0 (by decide), F 1 (by decide), F 2 (by decide), F 3 (by decide), F 4 (by decide), F 7 (by decide)⟩, ⟨E 5 (by decide), E 6 (by decide), E 8 (by decide)⟩, ⟨E 9 (by decide), fun q => nomatch q⟩, ⟨E 12 (by decide), by decide⟩, fun i x hx => by simp at hx, E 37 (by decide)⟩
  · have hS : ((se p).take 1)[k]? = some S := hS
    have hk1 := (List.getElem?_eq_some_iff.mp hS).1
    rw [List.length_take] at hk1
    have hk0 : k = 0 := by omega
    subst hk0
    have hk : (se p)[0]? = some S := by rw [List.getElem?_take, if_pos (by omega)] at hS; exact hS
    refine qSe_c (List.prefix_refl T) (fun j hj => ?_) (hq.2 0 S hk)
    rw [upd_ne (by omega), frP_hi (by omega) (by omega)]
    congr 1
    omega
theorem qDv_exch {w : Nat → Int32} {T : List Tm} {id : Tm} {K0 K1 : PK} {on : List (Tm × Int32)} {lnu : Int32} {se : Nat → List SS} {me : Nat → MM} {p : Nat} {S0 S1 : SS} (hp : p < 6) (hs : se p = [S0, S1]) (h : qDv w T (id, K0, K1, on, lnu, se, me)) : qDv (exP w (30 + (2 * p + 0) * 38) 38 38) T (id, K0, K1, on, lnu, fset se p [S1, S0], me) := by
  have hq := h.2.2.1 p hp
  rw [hs] at hq
  refine qDv_ses hp h (List.prefix_refl T) ⟨⟨by rw [exP_out (by omega)]; exact hq.1.1, Nat.le_refl 2⟩, fun k S hS => ?_⟩ (fun k k1 k2 => exP_out (by omega))
  rcases k with _ | _ | k
  · cases hS
    refine qSe_c (List.prefix_refl T) (fun j hj => ?_) (hq.2 1 S1 rfl)
    rw [exP_lo hj]
    congr 1
    omega
  · cases hS
    refine qSe_c (List.prefix_refl T) (fun j hj => ?_) (hq.2 0 S0 rfl)
    rw [show 30 + (2 * p + (0 + 1)) * 38 + j = 30 + (2 * p + 0) * 38 + 38 + j by omega, exP_hi hj]
  · cases hS
theorem qDv_used {w g : Nat → Int32} {T T' : List Tm} {id : Tm} {K0 K1 U0 U1 : PK} {on uo : List (Tm × Int32)} {lnu : Int32} {se : Nat → List SS} {me : Nat → MM} (hT : T <+: T') (h : qDv w T (id, K0, K1, on, lnu, se, me)) (h0 : qPk g T' 0 U0) (h1 : qPk g T' 7 U1) (h2 : qOn g T' uo) (e : ∀ k, 23 ≤ k → g k = w k) : qDv g T' (id, U0, U1, uo, lnu, se, me) := by
  obtain ⟨-, ⟨-, q4⟩, q5, q6⟩ := h
  exact ⟨⟨h0, h1⟩, ⟨h2, (e 23 (by omega)).trans q4⟩, fun p hp => qSs_c hp hT (fun k hk => e k (by omega)) (q5 p hp), fun q hq => qMm_c hT (fun k k1 _ => e k (by omega)) (q6 q hq)⟩
theorem good3_n {A : Tm} (h : Tgood 3 A = true) : (∃ p, p < 6 ∧ nu A 0 = nI p) ∧ (∃ m, m ≤ 9999 ∧ nu A 2 = nI m) ∧ ∃ m, m ≤ 9999 ∧ nu A 3 = nI m := by
  have q := good_gn h
  unfold gn at q
  simp only [Bool.and_eq_true] at q
  have ix : ∀ {x : Int32}, ib_idx x = true → ∃ m, m ≤ 9999 ∧ x = nI m := fun {x} hx => by
    unfold ib_idx at hx
    simp only [Bool.and_eq_true, Bool.not_eq_true', decide_eq_false_iff_not] at hx
    have h1 := Int32.le_iff_toInt_le.mp (Int32.not_lt.mp hx.1)
    have h2 := Int32.lt_iff_toInt_lt.mp (Int32.not_le.mp hx.2)
    have h3 : (0 : Int32).toInt = 0 := rfl
    have h4 : (10000 : Int32).toInt = 10000 := rfl
    rw [h3] at h1
    rw [h4] at h2
    refine ⟨x.toInt.toNat, by omega, ?_⟩
    apply Int32.toInt_inj.mp
    rw [nI_toInt (by omega)]
    omega
  exact ⟨dev_of q.1.1.1, ix q.1.2, ix q.2⟩
set_option maxRecDepth 100000 in
theorem l_mtsK {sc : tm_X} {d : Nat} {f : Nat → Int32} {A : Nat → Nat → Int32} {T : List Tm} {DL : List (Int32 × Int32)} {G Kw : Tm → Prop} {th ch ba ro mi sd bp bo : Tm} {n b : Int32} {le : List (Tm × Int32 × Tm)} {br on : Bool} {q p ti hi : Nat} {X : Tm} {x5 x6 : Int32} {nn : Nat} {Q : Int32 → MS → Prop} (hM : MT f A T DL G Kw) (hl : T.length + 25 ≤ 4000) (hr : rc (A 1) T.length < 1000) (hn : nn ≤ 10000) (hX : T[ti]? = some X) (kX : kd X = 5) (hH : T[hi]? = some (pt X 1)) (gH : Tgood 3 (pt X 1) = true) (kmi : kd mi = 1) (hS : qSe (A 43) T 0 ((th, ch, nI nn, le), ba, ro, mi, sd, n, b, br, bp, bo, on)) (k0 : ss_key ((th, ch, nI nn, le), ba, ro, mi, sd, n, b, br, bp, bo, on) (pt X 1) = none → ∀ f1 A1 T1, T <+: T1 → T1.length ≤ T.length + 25 → rc (A1 1) T1.length ≤ rc (A 1) T.length →  MT (mjKf f1 f) (mjKA A1 A) T1 DL G Kw → Q (-13) (mjKf f1 f, mjKA A1 A)) (kk : ∀ r, ss_key ((th, ch, nI nn, le), ba, ro, mi, sd, n, b, br, bp, bo, on) (pt X 1) = some r → ∀ f1 A1 T1 (lv : tm_L), T <+: T1 → T1.length ≤ T.length + 25 → rc (A1 1) T1.length ≤ rc (A 1) T.length →  MT (mjKf f1 f) (mjKA A1 A) T1 DL G Kw → tv T1 (f1 61) r.1 → qSe (A1 43) T1 0 r.2 → lv.lookup 0 = some (.ref 1482) → lv.lookup 1 = some (.int (nI q)) → lv.lookup 2 = some (.int (nI ti)) → lv.lookup 3 = some (.int (nI hi)) → lv.lookup 4 = some (.int (nI p)) → lv.lookup 5 = some (.int x5) → lv.lookup 6 = some (.int x6) → mg sc (d + 7) 232 197 lv [] (mjKf f1 f, mjKA A1 A) (fun r s' => ∃ v, r = some (.int v) ∧ Q v s')) : ∀ lv : tm_L, lv.lookup 0 = some (.ref 1482) → lv.lookup 1 = some (.int (nI q)) → lv.lookup 2 = some (.int (nI ti)) → lv.lookup 3 = some (.int (nI hi)) → lv.lookup 4 = some (.int (nI p)) → lv.lookup 5 = some (.int x5) → lv.lookup 6 = some (.int x6) → mg sc (d + 7) 232 165 lv [] (f, A) (fun r s' => ∃ v, r = some (.int v) ∧ Q v s') := by
  intro lv l0 l1 l2 l3 l4 l5 l6
  have hTl := MT_len hM
  have k7 := good_k7 gH
  obtain ⟨-, ⟨m, hm, em⟩, m3, hm3, em3⟩ := good3_n gH
  have kP := (good3_p gH).2.1
  refine m_ald (pc' := 166) cd_Mo_takeSealed rfl (Or.inr ⟨_, rfl, rfl, rfl⟩) l0 rfl rfl ?_
  refine m_ald (pc' := 167) cd_Mo_takeSealed rfl (Or.inr ⟨_, rfl, rfl, rfl⟩) l0 rfl rfl ?_
  refine m_ild (pc' := 168) cd_Mo_takeSealed rfl (Or.inr ⟨_, rfl, rfl, rfl⟩) l3 rfl ?_
  refine m_k1 (v := 5) (pc' := 169) cd_Mo_takeSealed rfl (by decide) rfl ?_
  refine m_ci (pc' := 172) cd_Mo_takeSealed rfl rfl rfl rfl rfl cd_Mo_cell rfl (Nat.le_of_ble_eq_true rfl) (m_cellP (k := 1) hM hH k7 (by decide) (fun ro hro => ?_))
  obtain ⟨xi, rfl, hxi⟩ := hro
  show mg _ _ _ 172 _ [.int (nI xi), .ref 1482] _ _
  refine m_ald (pc' := 173) cd_Mo_takeSealed rfl (Or.inr ⟨_, rfl, rfl, rfl⟩) l0 rfl rfl ?_
  refine m_ild (pc' := 174) cd_Mo_takeSealed rfl (Or.inr ⟨_, rfl, rfl, rfl⟩) l3 rfl ?_
  refine m_k1 (v := 2) (pc' := 175) cd_Mo_takeSealed rfl (by decide) rfl ?_
  refine m_ci (pc' := 178) cd_Mo_takeSealed rfl rfl rfl rfl rfl cd_Mo_cell rfl (Nat.le_of_ble_eq_true rfl) (m_cellE (k := 2) hM hH k7 (by decide) em ?_)
  show mg _ _ _ 178 _ [.int (nI m), .int (nI xi), .ref 1482] _ _
  refine m_ald (pc' := 179) cd_Mo_takeSealed rfl (Or.inr ⟨_, rfl, rfl, rfl⟩) l0 rfl rfl ?_
  refine m_ild (pc' := 180) cd_Mo_takeSealed rfl (Or.inr ⟨_, rfl, rfl, rfl⟩) l3 rfl ?_
  refine m_k1 (v := 3) (pc' := 181) cd_Mo_takeSealed rfl (by decide) rfl ?_
  refine m_ci (pc' := 184) cd_Mo_takeSealed rfl rfl rfl rfl rfl cd_Mo_cell rfl (Nat.le_of_ble_eq_true rfl) (m_cellE (k := 3) hM hH k7 (by decide) em3 ?_)
  show mg _ _ _ 184 _ [.int (nI m3), .int (nI m), .int (nI xi), .ref 1482] _ _
  refine m_ci (pc' := 187) cd_Mo_takeSealed rfl rfl rfl rfl rfl cd_Mo_keyOf rfl (Nat.le_of_ble_eq_true rfl) (m_keyOf hM hl hr hm hm3 hn hxi kP (MT_pub1 hM ⟨xi, rfl, hxi⟩ kP) kmi hS (fun hN f1 A1 T1 p1 q1 s1 hM1 => ?_) (fun r hN f1 A1 T1 p1 q1 s1 hM1 ht hq => ?_))
  · skip
    rw [← em, ← em3] at hN
    show mg _ _ _ 187 _ [.int (-13)] _ _
    refine m_ist (pc' := 189) cd_Mo_takeSealed rfl (Or.inl ⟨rfl, rfl⟩) (by decide) rfl (fun lv el => ?_)
    have l0 := tm_lk el l0 rfl (by decide)
    have l1 := tm_lk el l1 rfl (by decide)
    have l2 := tm_lk el l2 rfl (by decide)
    have l3 := tm_lk el l3 rfl (by decide)
    have l4 := tm_lk el l4 rfl (by decide)
    have l5 := tm_lk el l5 rfl (by decide)
    have l6 := tm_lk el l6 rfl (by decide)
    have l7 : lv.lookup 7 = some (.int (-13)) := tm_lks el
    clear el
    refine m_ild (pc' := 191) cd_Mo_takeSealed rfl (Or.inl ⟨rfl, rfl⟩) l7 rfl ?_
    refine m_if1 (t := 197) (pc' := 194) cd_Mo_takeSealed rfl rfl rfl (fun c191 => ?_) (fun c191 => ?_)
    · exact absurd (show ((-13) : Int32) = 0 from c191) (by decide)
    · have c191 : ¬ ((-13) : Int32) = 0 := c191
      refine m_ild (pc' := 196) cd_Mo_takeSealed rfl (Or.inl ⟨rfl, rfl⟩) l7 rfl ?_
      exact m_reti cd_Mo_takeSealed rfl ⟨_, rfl, (k0 hN f1 A1 T1 p1 q1 s1 hM1)⟩
  · skip
    rw [← em, ← em3] at hN
    show mg _ _ _ 187 _ [.int 0] _ _
    refine m_ist (pc' := 189) cd_Mo_takeSealed rfl (Or.inl ⟨rfl, rfl⟩) (by decide) rfl (fun lv el => ?_)
    have l0 := tm_lk el l0 rfl (by decide)
    have l1 := tm_lk el l1 rfl (by decide)
    have l2 := tm_lk el l2 rfl (by decide)
    have l3 := tm_lk el l3 rfl (by decide)
    have l4 := tm_lk el l4 rfl (by decide)
    have l5 := tm_lk el l5 rfl (by decide)
    have l6 := tm_lk el l6 rfl (by decide)
    have l7 : lv.lookup 7 = some (.int 0) := tm_lks el
    clear el
    refine m_ild (pc' := 191) cd_Mo_takeSealed rfl (Or.inl ⟨rfl, rfl⟩) l7 rfl ?_
    refine m_if1 (t := 197) (pc' := 194) cd_Mo_takeSealed rfl rfl rfl (fun c191 => ?_) (fun c191 => ?_)
    · have c191 : (0 : Int32) = 0 := c191
      exact kk r hN f1 A1 T1 lv p1 q1 s1 hM1 ht hq l0 l1 l2 l3 l4 l5 l6
    · exact absurd (show ¬ (0 : Int32) = 0 from c191) (by decide)
set_option maxRecDepth 100000 in
theorem l_mtsB {sc : tm_X} {d : Nat} {f : Nat → Int32} {A : Nat → Nat → Int32} {T : List Tm} {DL : List (Int32 × Int32)} {G Kw : Tm → Prop} {q p ti hi : Nat} {X : Tm} {x5 x6 : Int32} {K : Tm} {Q : Int32 → MS → Prop} (hM : MT f A T DL G Kw) (hX : T[ti]? = some X) (kX : kd X = 5) (hH : T[hi]? = some (pt X 1)) (gH : Tgood 3 (pt X 1) = true) (hK : tv T (f 61) K) (k14 : K ≠ pt X 0 → Q (-14) (f, A)) (k15 : K = pt X 0 → Tgood 4 (pt X 2) = false → Tgood 5 (pt X 2) = false → Q (-15) (f, A)) (kk : K = pt X 0 → (Tgood 4 (pt X 2) = true ∨ Tgood 5 (pt X 2) = true) → ∀ bi (lv : tm_L), T[bi]? = some (pt X 2) → lv.lookup 0 = some (.ref 1482) → lv.lookup 1 = some (.int (nI q)) → lv.lookup 2 = some (.int (nI ti)) → lv.lookup 3 = some (.int (nI hi)) → lv.lookup 4 = some (.int (nI p)) → lv.lookup 5 = some (.int x5) → lv.lookup 6 = some (.int x6) → lv.lookup 8 = some (.int (nI bi)) → mg sc (d + 7) 232 244 lv [] (f, A) (fun r s' => ∃ v, r = some (.int v) ∧ Q v s')) : ∀ lv : tm_L, lv.lookup 0 = some (.ref 1482) → lv.lookup 1 = some (.int (nI q)) → lv.lookup 2 = some (.int (nI ti)) → lv.lookup 3 = some (.int (nI hi)) → lv.lookup 4 = some (.int (nI p)) → lv.lookup 5 = some (.int x5) → lv.lookup 6 = some (.int x6) → mg sc (d + 7) 232 197 lv [] (f, A) (fun r s' => ∃ v, r = some (.int v) ∧ Q v s') := by
  intro lv l0 l1 l2 l3 l4 l5 l6
  have hTl := MT_len hM
  have hti := tv_lt hX
  have h0 := MT_one hM hX (Or.inr (Or.inr (Or.inl kX)))
  obtain ⟨bi, ebi, hbi⟩ := MT_three hM hX kX
  refine m_ald (pc' := 198) cd_Mo_takeSealed rfl (Or.inr ⟨_, rfl, rfl, rfl⟩) l0 rfl rfl ?_
  refine m_fR (r := 1) (a := 2) (ad := 1484) (pc' := 201) rfl rfl cd_Mo_takeSealed rfl rfl rfl rfl rfl ?_
  refine m_ild (pc' := 202) cd_Mo_takeSealed rfl (Or.inr ⟨_, rfl, rfl, rfl⟩) l2 rfl ?_
  refine m_aI (r := 1) (a := 2) (g := (A 2)) (x := ((A 2) ti)) (pc' := 203) rfl rfl cd_Mo_takeSealed rfl rfl rfl (vp_in_nI (by omega) (by decide)) (congrArg (A 2) (nI_clamp (by omega))) ?_
  refine m_ald (pc' := 204) cd_Mo_takeSealed rfl (Or.inr ⟨_, rfl, rfl, rfl⟩) l0 rfl rfl ?_
  refine m_fI (k := 61) (x := (f 61)) (pc' := 207) cd_Mo_takeSealed rfl rfl rfl rfl rfl rfl ?_
  refine m_if2 (t := 213) (pc' := 210) cd_Mo_takeSealed rfl rfl rfl (fun c207 => ?_) (fun c207 => ?_)
  · have c207 : ((A 2) ti) = (f 61) := c207
    refine m_ald (pc' := 214) cd_Mo_takeSealed rfl (Or.inr ⟨_, rfl, rfl, rfl⟩) l0 rfl rfl ?_
    refine m_fR (r := 3) (a := 4) (ad := 1486) (pc' := 217) rfl rfl cd_Mo_takeSealed rfl rfl rfl rfl rfl ?_
    refine m_ild (pc' := 218) cd_Mo_takeSealed rfl (Or.inr ⟨_, rfl, rfl, rfl⟩) l2 rfl ?_
    refine m_aI (r := 3) (a := 4) (g := (A 4)) (x := nI bi) (pc' := 219) rfl rfl cd_Mo_takeSealed rfl rfl rfl (vp_in_nI (by omega) (by decide)) ((congrArg (A 4) (nI_clamp (by omega))).trans ebi) ?_
    refine m_ist (pc' := 221) cd_Mo_takeSealed rfl (Or.inl ⟨rfl, rfl⟩) (by decide) rfl (fun lv el => ?_)
    have l0 := tm_lk el l0 rfl (by decide)
    have l1 := tm_lk el l1 rfl (by decide)
    have l2 := tm_lk el l2 rfl (by decide)
    have l3 := tm_lk el l3 rfl (by decide)
    have l4 := tm_lk el l4 rfl (by decide)
    have l5 := tm_lk el l5 rfl (by decide)
    have l6 := tm_lk el l6 rfl (by decide)
    have l8 : lv.lookup 8 = some (.int (nI bi)) := tm_lks el
    clear el
    refine m_ald (pc' := 222) cd_Mo_takeSealed rfl (Or.inr ⟨_, rfl, rfl, rfl⟩) l0 rfl rfl ?_
    refine m_ild (pc' := 224) cd_Mo_takeSealed rfl (Or.inl ⟨rfl, rfl⟩) l8 rfl ?_
    refine m_k1 (v := 4) (pc' := 225) cd_Mo_takeSealed rfl (by decide) rfl ?_
    refine m_ci (pc' := 228) cd_Mo_takeSealed rfl rfl rfl rfl rfl cd_Mo_isGood rfl (Nat.le_of_ble_eq_true rfl) (m_isGood4 hM hbi ?_)
    show mg _ _ _ 228 _ [.int (bz (Tgood 4 (pt X 2)))] _ _
    refine m_if1 (t := 244) (pc' := 231) cd_Mo_takeSealed rfl rfl rfl (fun c228 => ?_) (fun c228 => ?_)
    · have c228 : (Tgood 4 (pt X 2)) = true := bz_t c228
      exact kk ((MT_eq hM h0 hK).mp c207).symm (Or.inl c228) bi lv hbi l0 l1 l2 l3 l4 l5 l6 l8
    · have c228 : (Tgood 4 (pt X 2)) = false := bz_f (Classical.not_not.mp c228)
      refine m_ald (pc' := 232) cd_Mo_takeSealed rfl (Or.inr ⟨_, rfl, rfl, rfl⟩) l0 rfl rfl ?_
      refine m_ild (pc' := 234) cd_Mo_takeSealed rfl (Or.inl ⟨rfl, rfl⟩) l8 rfl ?_
      refine m_k1 (v := 5) (pc' := 235) cd_Mo_takeSealed rfl (by decide) rfl ?_
      refine m_ci (pc' := 238) cd_Mo_takeSealed rfl rfl rfl rfl rfl cd_Mo_isGood rfl (Nat.le_of_ble_eq_true rfl) (m_isGood5 hM hbi ?_)
      show mg _ _ _ 238 _ [.int (bz (Tgood 5 (pt X 2)))] _ _
      refine m_if1 (t := 244) (pc' := 241) cd_Mo_takeSealed rfl rfl rfl (fun c238 => ?_) (fun c238 => ?_)
      · have c238 : (Tgood 5 (pt X 2)) = true := bz_t c238
        exact kk ((MT_eq hM h0 hK).mp c207).symm (Or.inr c238) bi lv hbi l0 l1 l2 l3 l4 l5 l6 l8
      · have c238 : (Tgood 5 (pt X 2)) = false := bz_f (Classical.not_not.mp c238)
        refine m_k2 (v := (-15)) (pc' := 243) cd_Mo_takeSealed rfl (by decide) rfl ?_
        exact m_reti cd_Mo_takeSealed rfl ⟨_, rfl, (k15 ((MT_eq hM h0 hK).mp c207).symm c228 c238)⟩
  · have c207 : ¬ ((A 2) ti) = (f 61) := c207
    refine m_k2 (v := (-14)) (pc' := 212) cd_Mo_takeSealed rfl (by decide) rfl ?_
    exact m_reti cd_Mo_takeSealed rfl ⟨_, rfl, (k14 (fun q => c207 ((MT_eq hM h0 hK).mpr q.symm)))⟩
set_option maxRecDepth 100000 in
theorem l_mtsF {sc : tm_X} {d : Nat} {f : Nat → Int32} {A : Nat → Nat → Int32} {T : List Tm} {DL : List (Int32 × Int32)} {G Kw : Tm → Prop} {q p ti hi : Nat} {X : Tm} {l : List SS} {Q : Option Value → MS → Prop} (hM : MT f A T DL G Kw) (hp : p < 6) (hH : T[hi]? = some (pt X 1)) (gH : Tgood 3 (pt X 1) = true) (hL : qSs (A 15) T p l) (kn : (∀ (j : Nat) (S : SS), l[j]? = some S → S.2.1 ≠ pt (pt X 1) 0) → ∀ lv : tm_L, lv.lookup 0 = some (.ref 1482) → lv.lookup 1 = some (.int (nI q)) → lv.lookup 2 = some (.int (nI ti)) → lv.lookup 3 = some (.int (nI hi)) → lv.lookup 4 = some (.int (nI p)) → lv.lookup 5 = some (.int (nI l.length)) → mg sc (d + 7) 232 81 lv [] (f, A) Q) (kf : ∀ (k : Nat) (S : SS), l[k]? = some S → S.2.1 = pt (pt X 1) 0 → (∀ (j : Nat) (S' : SS), j < k → l[j]? = some S' → S'.2.1 ≠ pt (pt X 1) 0) → ∀ lv : tm_L, lv.lookup 0 = some (.ref 1482) → lv.lookup 1 = some (.int (nI q)) → lv.lookup 2 = some (.int (nI ti)) → lv.lookup 3 = some (.int (nI hi)) → lv.lookup 4 = some (.int (nI p)) → lv.lookup 5 = some (.int (nI k)) → mg sc (d + 7) 232 81 lv [] (f, A) Q) : ∀ (r k : Nat), k + r = l.length → (∀ (j : Nat) (S : SS), j < k → l[j]? = some S → S.2.1 ≠ pt (pt X 1) 0) → ∀ lv : tm_L, lv.lookup 0 = some (.ref 1482) → lv.lookup 1 = some (.int (nI q)) → lv.lookup 2 = some (.int (nI ti)) → lv.lookup 3 = some (.int (nI hi)) → lv.lookup 4 = some (.int (nI p)) → lv.lookup 5 = some (.int (nI k)) → mg sc (d + 7) 232 37 lv [] (f, A) Q := by
  have h24 := hL.1.1
  have h2 := hL.1.2
  have k7 := good_k7 gH
  intro r
  induction r with
  | zero =>
    intro k hk hb lv l0 l1 l2 l3 l4 l5
    refine m_ild (pc' := 39) cd_Mo_takeSealed rfl (Or.inl ⟨rfl, rfl⟩) l5 rfl ?_
    refine m_ald (pc' := 40) cd_Mo_takeSealed rfl (Or.inr ⟨_, rfl, rfl, rfl⟩) l0 rfl rfl ?_
    refine m_fR (r := 14) (a := 15) (ad := 1497) (pc' := 43) rfl rfl cd_Mo_takeSealed rfl rfl rfl rfl rfl ?_
    refine m_k2 (v := 24) (pc' := 45) cd_Mo_takeSealed rfl (by decide) rfl ?_
    refine m_ild (pc' := 47) cd_Mo_takeSealed rfl (Or.inl ⟨rfl, rfl⟩) l4 rfl ?_
    refine m_pure (pc' := 48) (st' := [.int ((24 : Int32) + (nI p)), .ref 1497, .int (nI k)]) cd_Mo_takeSealed rfl rfl (fun _ _ => rfl) ?_
    refine m_eq (show ((24 : Int32) + (nI p) : Int32) = nI (24 + p) from nI_add 24 p) ?_
    refine m_aI (r := 14) (a := 15) (g := (A 15)) (x := nI l.length) (pc' := 49) rfl rfl cd_Mo_takeSealed rfl rfl rfl (vp_in_nI (by omega) (by decide)) (by rw [(nI_clamp (by omega))]; exact h24) ?_
    refine m_if2 (t := 81) (pc' := 52) cd_Mo_takeSealed rfl rfl rfl (fun c49 => ?_) (fun c49 => ?_)
    · have c49 : (nI l.length) ≤ (nI k) := c49
      have hk2 : k = l.length := by omega
      rw [hk2] at l5
      exact kn (fun j S hj => hb j S (by have := (List.getElem?_eq_some_iff.mp hj).1; omega) hj) lv l0 l1 l2 l3 l4 l5
    · have c49 : ¬ (nI l.length) ≤ (nI k) := c49
      exact absurd (nI_le (by omega) (by omega)) c49
  | succ r ih =>
    intro k hk hb lv l0 l1 l2 l3 l4 l5
    obtain ⟨S, hS⟩ : ∃ S, l[k]? = some S := ⟨_, List.getElem?_eq_getElem (by omega)⟩
    have hse := hL.2 k S hS
    obtain ⟨⟨th, ch, nx, le⟩, ba, ro, mi, sd, n, b, br, bp, bo, on⟩ := S
    have g1 : tv T (A 15 (30 + (2 * p + k) * 38 + 0)) ba := hse.1.1
    refine m_ild (pc' := 39) cd_Mo_takeSealed rfl (Or.inl ⟨rfl, rfl⟩) l5 rfl ?_
    refine m_ald (pc' := 40) cd_Mo_takeSealed rfl (Or.inr ⟨_, rfl, rfl, rfl⟩) l0 rfl rfl ?_
    refine m_fR (r := 14) (a := 15) (ad := 1497) (pc' := 43) rfl rfl cd_Mo_takeSealed rfl rfl rfl rfl rfl ?_
    refine m_k2 (v := 24) (pc' := 45) cd_Mo_takeSealed rfl (by decide) rfl ?_
    refine m_ild (pc' := 47) cd_Mo_takeSealed rfl (Or.inl ⟨rfl, rfl⟩) l4 rfl ?_
    refine m_pure (pc' := 48) (st' := [.int ((24 : Int32) + (nI p)), .ref 1497, .int (nI k)]) cd_Mo_takeSealed rfl rfl (fun _ _ => rfl) ?_
    refine m_eq (show ((24 : Int32) + (nI p) : Int32) = nI (24 + p) from nI_add 24 p) ?_
    refine m_aI (r := 14) (a := 15) (g := (A 15)) (x := nI l.length) (pc' := 49) rfl rfl cd_Mo_takeSealed rfl rfl rfl (vp_in_nI (by omega) (by decide)) (by rw [(nI_clamp (by omega))]; exact h24) ?_
    refine m_if2 (t := 81) (pc' := 52) cd_Mo_takeSealed rfl rfl rfl (fun c49 => ?_) (fun c49 => ?_)
    · have c49 : (nI l.length) ≤ (nI k) := c49
      exact absurd c49 (nI_ge (by omega) (by omega))
    · have c49 : ¬ (nI l.length) ≤ (nI k) := c49
      refine m_ald (pc' := 53) cd_Mo_takeSealed rfl (Or.inr ⟨_, rfl, rfl, rfl⟩) l0 rfl rfl ?_
      refine m_fR (r := 14) (a := 15) (ad := 1497) (pc' := 56) rfl rfl cd_Mo_takeSealed rfl rfl rfl rfl rfl ?_
      refine m_ild (pc' := 58) cd_Mo_takeSealed rfl (Or.inl ⟨rfl, rfl⟩) l4 rfl ?_
      refine m_ild (pc' := 60) cd_Mo_takeSealed rfl (Or.inl ⟨rfl, rfl⟩) l5 rfl ?_
      refine m_si (pc' := 63) cd_Mo_takeSealed rfl rfl rfl rfl rfl cd_Mo_sessionAt rfl (Nat.le_of_ble_eq_true rfl) (m_sessionAt ?_)
      show mg _ _ _ 63 _ [.int (nI (30 + (2 * p + k) * 38)), .ref 1497] _ _
      refine m_k1 (v := 0) (pc' := 64) cd_Mo_takeSealed rfl (by decide) rfl ?_
      refine m_pure (pc' := 65) (st' := [.int ((nI (30 + (2 * p + k) * 38)) + 0), .ref 1497]) cd_Mo_takeSealed rfl rfl (fun _ _ => rfl) ?_
      refine m_eq (show ((nI (30 + (2 * p + k) * 38)) + 0 : Int32) = nI ((30 + (2 * p + k) * 38) + 0) from nI_add (30 + (2 * p + k) * 38) 0) ?_
      refine m_aI (r := 14) (a := 15) (g := (A 15)) (x := ((A 15) ((30 + (2 * p + k) * 38) + 0))) (pc' := 66) rfl rfl cd_Mo_takeSealed rfl rfl rfl (vp_in_nI (by omega) (by decide)) (congrArg (A 15) (nI_clamp (by omega))) ?_
      refine m_ald (pc' := 67) cd_Mo_takeSealed rfl (Or.inr ⟨_, rfl, rfl, rfl⟩) l0 rfl rfl ?_
      refine m_ild (pc' := 68) cd_Mo_takeSealed rfl (Or.inr ⟨_, rfl, rfl, rfl⟩) l3 rfl ?_
      refine m_k1 (v := 4) (pc' := 69) cd_Mo_takeSealed rfl (by decide) rfl ?_
      refine m_ci (pc' := 72) cd_Mo_takeSealed rfl rfl rfl rfl rfl cd_Mo_cell rfl (Nat.le_of_ble_eq_true rfl) (m_cellP (k := 0) hM hH k7 (by decide) (fun ro hro => ?_))
      show mg _ _ _ 72 _ [.int ro, .int (((A 15) ((30 + (2 * p + k) * 38) + 0)))] _ _
      refine m_if2 (t := 81) (pc' := 75) cd_Mo_takeSealed rfl rfl rfl (fun c72 => ?_) (fun c72 => ?_)
      · have c72 : ((A 15) ((30 + (2 * p + k) * 38) + 0)) = ro := c72
        exact kf k _ hS ((MT_eq hM g1 hro).mp c72) hb lv l0 l1 l2 l3 l4 l5
      · have c72 : ¬ ((A 15) ((30 + (2 * p + k) * 38) + 0)) = ro := c72
        refine m_inc (y := nI (k + 1)) (pc' := 78) cd_Mo_takeSealed rfl l5 (by decide) (nI_add k 1) rfl (fun lv el => ?_)
        have l0 := tm_lk el l0 rfl (by decide)
        have l1 := tm_lk el l1 rfl (by decide)
        have l2 := tm_lk el l2 rfl (by decide)
        have l3 := tm_lk el l3 rfl (by decide)
        have l4 := tm_lk el l4 rfl (by decide)
        have l5 : lv.lookup 5 = some (.int (nI (k + 1))) := tm_lks el
        clear el
        refine m_pure (pc' := 37) (st' := []) cd_Mo_takeSealed rfl rfl (fun _ _ => rfl) ?_
        refine ih (k + 1) (by omega) (fun j S' hj hS' => ?_) lv l0 l1 l2 l3 l4 l5
        by_cases q2 : j = k
        · rw [q2, hS] at hS'
          cases hS'
          exact fun q => c72 ((MT_eq hM g1 hro).mpr q)
        · exact hb j S' (by omega) hS'
def csW (s w : Nat → Int32) (a n : Nat) : Nat → Int32 := fun j => if j < n then w (a + j) else s j
theorem csW_0 (s w : Nat → Int32) (a : Nat) : csW s w a 0 = s := funext fun j => if_neg (by omega)
theorem csW_s (s w : Nat → Int32) (a n : Nat) : upd (csW s w a n) n (w (a + n)) = csW s w a (n + 1) := funext fun j => by
  show (if j = n then w (a + n) else csW s w a n j) = _
  unfold csW
  by_cases c : j = n
  · rw [if_pos c, if_pos (by omega), c]
  · rw [if_neg c]
    by_cases c2 : j < n
    · rw [if_pos c2, if_pos (by omega)]
    · rw [if_neg c2, if_neg (by omega)]
theorem csW_in {s w : Nat → Int32} {a n j : Nat} (h : j < n) : csW s w a n j = w (a + j) := if_pos h
set_option maxRecDepth 100000 in
theorem l_mtsO {sc : tm_X} {d : Nat} {f : Nat → Int32} {A : Nat → Nat → Int32} {q p ti hi k : Nat} {Q : Option Value → MS → Prop} (hp : p < 6) (hk2 : k < 2) (kk : ∀ lv : tm_L, lv.lookup 0 = some (.ref 1482) → lv.lookup 1 = some (.int (nI q)) → lv.lookup 2 = some (.int (nI ti)) → lv.lookup 3 = some (.int (nI hi)) → lv.lookup 4 = some (.int (nI p)) → lv.lookup 5 = some (.int (nI k)) → lv.lookup 6 = some (.int 0) → mg sc (d + 7) 232 165 lv [] (f, fset A 43 (csW (A 43) (A 15) (30 + (2 * p + k) * 38) 38)) Q) : ∀ (r i : Nat), i + r = 38 → ∀ lv : tm_L, lv.lookup 0 = some (.ref 1482) → lv.lookup 1 = some (.int (nI q)) → lv.lookup 2 = some (.int (nI ti)) → lv.lookup 3 = some (.int (nI hi)) → lv.lookup 4 = some (.int (nI p)) → lv.lookup 5 = some (.int (nI k)) → lv.lookup 6 = some (.int 0) → lv.lookup 7 = some (.int (nI i)) → mg sc (d + 7) 232 125 lv [] (f, fset A 43 (csW (A 43) (A 15) (30 + (2 * p + k) * 38) i)) Q := by
  intro r
  induction r with
  | zero =>
    intro i hi2 lv l0 l1 l2 l3 l4 l5 l6 l7
    have hi3 : i = 38 := by omega
    subst hi3
    refine m_ild (pc' := 127) cd_Mo_takeSealed rfl (Or.inl ⟨rfl, rfl⟩) l7 rfl ?_
    refine m_k2 (v := 38) (pc' := 129) cd_Mo_takeSealed rfl (by decide) rfl ?_
    refine m_if2 (t := 165) (pc' := 132) cd_Mo_takeSealed rfl rfl rfl (fun c129 => ?_) (fun c129 => ?_)
    · have c129 : (38 : Int32) ≤ (nI 38) := c129
      exact kk lv l0 l1 l2 l3 l4 l5 l6
    · have c129 : ¬ (38 : Int32) ≤ (nI 38) := c129
      exact absurd (show (38 : Int32) ≤ nI 38 from by decide) c129
  | succ r ih =>
    intro i hi2 lv l0 l1 l2 l3 l4 l5 l6 l7
    refine m_ild (pc' := 127) cd_Mo_takeSealed rfl (Or.inl ⟨rfl, rfl⟩) l7 rfl ?_
    refine m_k2 (v := 38) (pc' := 129) cd_Mo_takeSealed rfl (by decide) rfl ?_
    refine m_if2 (t := 165) (pc' := 132) cd_Mo_takeSealed rfl rfl rfl (fun c129 => ?_) (fun c129 => ?_)
    · have c129 : (38 : Int32) ≤ (nI i) := c129
      exact absurd c129 (nI_ge (b := 38) (by omega) (by decide))
    · have c129 : ¬ (38 : Int32) ≤ (nI i) := c129
      refine m_ild (pc' := 134) cd_Mo_takeSealed rfl (Or.inl ⟨rfl, rfl⟩) l6 rfl ?_
      refine m_if1 (t := 165) (pc' := 137) cd_Mo_takeSealed rfl rfl rfl (fun c134 => ?_) (fun c134 => ?_)
      · exact absurd (show ¬ (0 : Int32) = 0 from c134) (by decide)
      · have c134 : (0 : Int32) = 0 := Classical.not_not.mp c134
        refine m_ald (pc' := 138) cd_Mo_takeSealed rfl (Or.inr ⟨_, rfl, rfl, rfl⟩) l0 rfl rfl ?_
        refine m_fR (r := 42) (a := 43) (ad := 1525) (pc' := 141) rfl rfl cd_Mo_takeSealed rfl rfl rfl rfl rfl ?_
        refine m_ild (pc' := 143) cd_Mo_takeSealed rfl (Or.inl ⟨rfl, rfl⟩) l7 rfl ?_
        refine m_ald (pc' := 144) cd_Mo_takeSealed rfl (Or.inr ⟨_, rfl, rfl, rfl⟩) l0 rfl rfl ?_
        refine m_fR (r := 14) (a := 15) (ad := 1497) (pc' := 147) rfl rfl cd_Mo_takeSealed rfl rfl rfl rfl rfl ?_
        refine m_ild (pc' := 149) cd_Mo_takeSealed rfl (Or.inl ⟨rfl, rfl⟩) l4 rfl ?_
        refine m_ild (pc' := 151) cd_Mo_takeSealed rfl (Or.inl ⟨rfl, rfl⟩) l5 rfl ?_
        refine m_si (pc' := 154) cd_Mo_takeSealed rfl rfl rfl rfl rfl cd_Mo_sessionAt rfl (Nat.le_of_ble_eq_true rfl) (m_sessionAt ?_)
        show mg _ _ _ 154 _ [.int (nI (30 + (2 * p + k) * 38)), .ref 1497, .int (nI i), .ref 1525] _ _
        refine m_ild (pc' := 156) cd_Mo_takeSealed rfl (Or.inl ⟨rfl, rfl⟩) l7 rfl ?_
        refine m_pure (pc' := 157) (st' := [.int ((nI (30 + (2 * p + k) * 38)) + (nI i)), .ref 1497, .int (nI i), .ref 1525]) cd_Mo_takeSealed rfl rfl (fun _ _ => rfl) ?_
        refine m_eq (show ((nI (30 + (2 * p + k) * 38)) + (nI i) : Int32) = nI ((30 + (2 * p + k) * 38) + i) from nI_add (30 + (2 * p + k) * 38) i) ?_
        refine m_aI (r := 14) (a := 15) (g := (A 15)) (x := ((A 15) ((30 + (2 * p + k) * 38) + i))) (pc' := 158) rfl rfl cd_Mo_takeSealed rfl rfl rfl (vp_in_nI (by omega) (by decide)) (congrArg (A 15) (nI_clamp (by omega))) ?_
        refine m_aS (r := 42) (a := 43) (g := (csW (A 43) (A 15) (30 + (2 * p + k) * 38) i)) (p := i) (pc' := 159) rfl rfl cd_Mo_takeSealed rfl rfl rfl (vp_in_nI (by omega) (by decide)) (nI_clamp (by omega)) ?_
        refine m_inc (y := nI (i + 1)) (pc' := 162) cd_Mo_takeSealed rfl l7 (by decide) (nI_add i 1) rfl (fun lv el => ?_)
        have l0 := tm_lk el l0 rfl (by decide)
        have l1 := tm_lk el l1 rfl (by decide)
        have l2 := tm_lk el l2 rfl (by decide)
        have l3 := tm_lk el l3 rfl (by decide)
        have l4 := tm_lk el l4 rfl (by decide)
        have l5 := tm_lk el l5 rfl (by decide)
        have l6 := tm_lk el l6 rfl (by decide)
        have l7 : lv.lookup 7 = some (.int (nI (i + 1))) := tm_lks el
        clear el
        refine m_pure (pc' := 125) (st' := []) cd_Mo_takeSealed rfl rfl (fun _ _ => rfl) ?_
        rw [fset_fset, csW_s]
        exact ih (i + 1) (by omega) lv l0 l1 l2 l3 l4 l5 l6 l7
