/-! The reference: makes -/
/-- the session that a head makes, and what it uses up -/
noncomputable def as_ses (id : Tm) (K0 K1 : PK) (on : List (Tm × Int32)) (pi H : Tm) : Option SS := match pk_find K0 K1 (pt H 2) with
  | none => none
  | some b => cif (pt H 3 = tz) (cif (pt H 0 ∈ (pk_of K0 K1 b).2.2 ∨ 4 ≤ (pk_of K0 K1 b).2.2.length) none (some (ss_start (pt H 0) (pk_of K0 K1 b).1 (as_root id (pk_of K0 K1 b).1 pi (pt H 0) none) false))) (match on_find (pt H 3) on with
    | none => none
    | some i => some (ss_start (pt H 0) (pk_of K0 K1 b).1 (as_root id (pk_of K0 K1 b).1 pi (pt H 0) (some (on.getD i (tz, 0)).1)) true))
noncomputable def as_used (K0 K1 : PK) (on : List (Tm × Int32)) (H : Tm) : PK × PK × List (Tm × Int32) := match pk_find K0 K1 (pt H 2) with
  | none => (K0, K1, on)
  | some b => cif (pt H 3 = tz) ((pk_add K0 K1 b (pt H 0)).1, (pk_add K0 K1 b (pt H 0)).2, on) (match on_find (pt H 3) on with
    | none => (K0, K1, on)
    | some i => (K0, K1, on.eraseIdx i))
theorem as_spec_of (id : Tm) (K0 K1 : PK) (on : List (Tm × Int32)) (lnu : Int32) (se : Nat → List SS) (me : Nat → MM) (ids : Nat → Tm) (p : Nat) (H : Tm) : as_spec (id, K0, K1, on, lnu, se, me) ids p H = (as_ses id K0 K1 on (ids p) H).map fun S => dv_ses (id, (as_used K0 K1 on H).1, (as_used K0 K1 on H).2.1, (as_used K0 K1 on H).2.2, lnu, se, me) p S := by
  unfold as_spec as_ses as_used
  dsimp only
  cases h1 : pk_find K0 K1 (pt H 2) with
  | none => rfl
  | some b =>
    dsimp only
    by_cases c : pt H 3 = tz
    · rw [cif_t c, cif_t c, cif_t c]
      by_cases c2 : pt H 0 ∈ (pk_of K0 K1 b).2.2 ∨ 4 ≤ (pk_of K0 K1 b).2.2.length
      · rw [cif_t c2, cif_t c2]; rfl
      · rw [cif_f c2, cif_f c2]; rfl
    · rw [cif_f c, cif_f c, cif_f c]
      cases h2 : on_find (pt H 3) on with
      | none => rfl
      | some i => rfl
def zW (g : Nat → Int32) (k : Nat) : Nat → Int32 := fun j => if j < k then 0 else g j
theorem zW_0 (g : Nat → Int32) : zW g 0 = g := funext fun j => if_neg (by omega)
theorem zW_s (g : Nat → Int32) (k : Nat) : upd (zW g k) k 0 = zW g (k + 1) := funext fun j => by
  show (if j = k then 0 else zW g k j) = _
  unfold zW
  by_cases c : j = k
  · rw [if_pos c, if_pos (by omega)]
  · rw [if_neg c]
    by_cases c2 : j < k
    · rw [if_pos c2, if_pos (by omega)]
    · rw [if_neg c2, if_neg (by omega)]
theorem zW_z {g : Nat → Int32} {k j : Nat} (h : j < k) : zW g k j = 0 := if_pos h
set_option maxRecDepth 100000 in
theorem l_mmkZ {sc : tm_X} {d : Nat} {f : Nat → Int32} {A : Nat → Nat → Int32} {q p ib : Nat} {x6 x7 x8 x9 : Int32} {Q : Option Value → MS → Prop} (kk : ∀ lv : tm_L, lv.lookup 0 = some (.ref 1482) → lv.lookup 1 = some (.int (nI q)) → lv.lookup 2 = some (.int (nI p)) → lv.lookup 4 = some (.int (nI ib)) → lv.lookup 6 = some (.int x6) → lv.lookup 7 = some (.int x7) → lv.lookup 8 = some (.int x8) → lv.lookup 9 = some (.int x9) → mg sc (d + 5) 233 181 lv [] (f, fset A 43 (zW (A 43) 38)) Q) : ∀ (r k : Nat), k + r = 38 → ∀ lv : tm_L, lv.lookup 0 = some (.ref 1482) → lv.lookup 1 = some (.int (nI q)) → lv.lookup 2 = some (.int (nI p)) → lv.lookup 4 = some (.int (nI ib)) → lv.lookup 6 = some (.int x6) → lv.lookup 7 = some (.int x7) → lv.lookup 8 = some (.int x8) → lv.lookup 9 = some (.int x9) → lv.lookup 10 = some (.int (nI k)) → mg sc (d + 5) 233 160 lv [] (f, fset A 43 (zW (A 43) k)) Q := by
  intro r
  induction r with
  | zero =>
    intro k hk lv l0 l1 l2 l4 l6 l7 l8 l9 l10
    have hk2 : k = 38 := by omega
    subst hk2
    refine m_ild (pc' := 162) cd_Mo_makes rfl (Or.inl ⟨rfl, rfl⟩) l10 rfl ?_
    refine m_k2 (v := 38) (pc' := 164) cd_Mo_makes rfl (by decide) rfl ?_
    refine m_if2 (t := 181) (pc' := 167) cd_Mo_makes rfl rfl rfl (fun c164 => ?_) (fun c164 => ?_)
    · have c164 : (38 : Int32) ≤ (nI 38) := c164
      exact kk lv l0 l1 l2 l4 l6 l7 l8 l9
    · have c164 : ¬ (38 : Int32) ≤ (nI 38) := c164
      exact absurd (show (38 : Int32) ≤ nI 38 from by decide) c164
  | succ r ih =>
    intro k hk lv l0 l1 l2 l4 l6 l7 l8 l9 l10
    refine m_ild (pc' := 162) cd_Mo_makes rfl (Or.inl ⟨rfl, rfl⟩) l10 rfl ?_
    refine m_k2 (v := 38) (pc' := 164) cd_Mo_makes rfl (by decide) rfl ?_
    refine m_if2 (t := 181) (pc' := 167) cd_Mo_makes rfl rfl rfl (fun c164 => ?_) (fun c164 => ?_)
    · have c164 : (38 : Int32) ≤ (nI k) := c164
      exact absurd c164 (nI_ge (b := 38) (by omega) (by decide))
    · have c164 : ¬ (38 : Int32) ≤ (nI k) := c164
      refine m_ald (pc' := 168) cd_Mo_makes rfl (Or.inr ⟨_, rfl, rfl, rfl⟩) l0 rfl rfl ?_
      refine m_fR (r := 42) (a := 43) (ad := 1525) (pc' := 171) rfl rfl cd_Mo_makes rfl rfl rfl rfl rfl ?_
      refine m_ild (pc' := 173) cd_Mo_makes rfl (Or.inl ⟨rfl, rfl⟩) l10 rfl ?_
      refine m_k1 (v := 0) (pc' := 174) cd_Mo_makes rfl (by decide) rfl ?_
      refine m_aS (r := 42) (a := 43) (g := (zW (A 43) k)) (p := k) (pc' := 175) rfl rfl cd_Mo_makes rfl rfl rfl (vp_in_nI (by omega) (by decide)) (nI_clamp (by omega)) ?_
      refine m_inc (y := nI (k + 1)) (pc' := 178) cd_Mo_makes rfl l10 (by decide) (nI_add k 1) rfl (fun lv el => ?_)
      have l0 := tm_lk el l0 rfl (by decide)
      have l1 := tm_lk el l1 rfl (by decide)
      have l2 := tm_lk el l2 rfl (by decide)
      have l4 := tm_lk el l4 rfl (by decide)
      have l6 := tm_lk el l6 rfl (by decide)
      have l7 := tm_lk el l7 rfl (by decide)
      have l8 := tm_lk el l8 rfl (by decide)
      have l9 := tm_lk el l9 rfl (by decide)
      have l10 : lv.lookup 10 = some (.int (nI (k + 1))) := tm_lks el
      clear el
      refine m_pure (pc' := 160) (st' := []) cd_Mo_makes rfl rfl (fun _ _ => rfl) ?_
      rw [fset_fset, zW_s]
      exact ih (k + 1) (by omega) lv l0 l1 l2 l4 l6 l7 l8 l9 l10
set_option maxRecDepth 100000 in
theorem l_mmk0 {sc : tm_X} {d : Nat} {f : Nat → Int32} {A : Nat → Nat → Int32} {T : List Tm} {DL : List (Int32 × Int32)} {G Kw : Tm → Prop} {K : PK} {on : List (Tm × Int32)} {ids : Nat → Tm} {q p ib oi i : Nat} {b : Bool} {BA : Tm} {e : Tm × Int32} {Q : Int32 → MS → Prop} (hM : MT f A T DL G Kw) (hl : T.length + 6 ≤ 4000) (hr : rc (A 1) T.length < 1000) (hq : q < 6) (hp : p < 6) (hid : ∀ q, q < 6 → tv T (A 16 q) (ids q)) (kid : ∀ q, q < 6 → kd (ids q) = 1) (hK : qPk (A 15) T (7 * sh b) K) (kK : kd K.1 = 1) (hB : T[ib]? = some BA) (kB : kd BA = 2) (kB0 : kd (pt BA 0) = 1) (kk : ∀ f1 A1 T1, T <+: T1 → T1.length ≤ T.length + 6 → rc (A1 1) T1.length ≤ rc (A 1) T.length →  MT (mjKf f1 f) (mjKA A1 A) T1 DL G Kw → qSe (A1 43) T1 0 (ss_start BA K.1 (as_root (ids q) K.1 (ids p) BA none) false) → Q 1 (mjKf f1 f, mjKA A1 A)) : ∀ lv : tm_L, lv.lookup 0 = some (.ref 1482) → lv.lookup 1 = some (.int (nI q)) → lv.lookup 2 = some (.int (nI p)) → lv.lookup 4 = some (.int (nI ib)) → lv.lookup 6 = some (.int 0) → lv.lookup 7 = some (.int (nI (7 * sh b))) → lv.lookup 8 = some (.int (-1)) → mg sc (d + 5) 233 148 lv [] (f, A) (fun r s' => ∃ v, r = some (.int v) ∧ Q v s') := by
  intro lv l0 l1 l2 l4 l6 l7 l8
  have hTl := MT_len hM
  have hib := tv_lt hB
  have hsb := sh_lt b
  have hBo := MT_one hM hB (Or.inl kB)
  have gK := hK.1.1
  refine m_ald (pc' := 149) cd_Mo_makes rfl (Or.inr ⟨_, rfl, rfl, rfl⟩) l0 rfl rfl ?_
  refine m_fR (r := 1) (a := 2) (ad := 1484) (pc' := 152) rfl rfl cd_Mo_makes rfl rfl rfl rfl rfl ?_
  refine m_ild (pc' := 154) cd_Mo_makes rfl (Or.inl ⟨rfl, rfl⟩) l4 rfl ?_
  refine m_aI (r := 1) (a := 2) (g := (A 2)) (x := ((A 2) ib)) (pc' := 155) rfl rfl cd_Mo_makes rfl rfl rfl (vp_in_nI (by omega) (by decide)) (congrArg (A 2) (nI_clamp (by omega))) ?_
  refine m_ist (pc' := 157) cd_Mo_makes rfl (Or.inl ⟨rfl, rfl⟩) (by decide) rfl (fun lv el => ?_)
  have l0 := tm_lk el l0 rfl (by decide)
  have l1 := tm_lk el l1 rfl (by decide)
  have l2 := tm_lk el l2 rfl (by decide)
  have l4 := tm_lk el l4 rfl (by decide)
  have l6 := tm_lk el l6 rfl (by decide)
  have l7 := tm_lk el l7 rfl (by decide)
  have l8 := tm_lk el l8 rfl (by decide)
  have l9 : lv.lookup 9 = some (.int (((A 2) ib))) := tm_lks el
  clear el
  refine m_k1 (v := 0) (pc' := 158) cd_Mo_makes rfl (by decide) rfl ?_
  refine m_ist (pc' := 160) cd_Mo_makes rfl (Or.inl ⟨rfl, rfl⟩) (by decide) rfl (fun lv el => ?_)
  have l0 := tm_lk el l0 rfl (by decide)
  have l1 := tm_lk el l1 rfl (by decide)
  have l2 := tm_lk el l2 rfl (by decide)
  have l4 := tm_lk el l4 rfl (by decide)
  have l6 := tm_lk el l6 rfl (by decide)
  have l7 := tm_lk el l7 rfl (by decide)
  have l8 := tm_lk el l8 rfl (by decide)
  have l9 := tm_lk el l9 rfl (by decide)
  have l10 : lv.lookup 10 = some (.int 0) := tm_lks el
  clear el
  rw [show A = fset A 43 (zW (A 43) 0) from (by rw [zW_0, fset_id])]
  refine l_mmkZ (fun lv l0 l1 l2 l4 l6 l7 l8 l9 => ?_) 38 0 rfl lv l0 l1 l2 l4 l6 l7 l8 l9 l10
  refine m_ald (pc' := 182) cd_Mo_makes rfl (Or.inr ⟨_, rfl, rfl, rfl⟩) l0 rfl rfl ?_
  refine m_fR (r := 42) (a := 43) (ad := 1525) (pc' := 185) rfl rfl cd_Mo_makes rfl rfl rfl rfl rfl ?_
  refine m_k1 (v := 0) (pc' := 186) cd_Mo_makes rfl (by decide) rfl ?_
  refine m_ild (pc' := 188) cd_Mo_makes rfl (Or.inl ⟨rfl, rfl⟩) l4 rfl ?_
  refine m_aS (r := 42) (a := 43) (g := (zW (A 43) 38)) (p := 0) (pc' := 189) rfl rfl cd_Mo_makes rfl rfl rfl (vp_in_nI (n := 0) (by decide) (by decide)) (show (0 : Int32).toNatClampNeg = 0 by decide) ?_
  refine m_ald (pc' := 190) cd_Mo_makes rfl (Or.inr ⟨_, rfl, rfl, rfl⟩) l0 rfl rfl ?_
  refine m_fR (r := 42) (a := 43) (ad := 1525) (pc' := 193) rfl rfl cd_Mo_makes rfl rfl rfl rfl rfl ?_
  refine m_k1 (v := 1) (pc' := 194) cd_Mo_makes rfl (by decide) rfl ?_
  refine m_ald (pc' := 195) cd_Mo_makes rfl (Or.inr ⟨_, rfl, rfl, rfl⟩) l0 rfl rfl ?_
  refine m_ald (pc' := 196) cd_Mo_makes rfl (Or.inr ⟨_, rfl, rfl, rfl⟩) l0 rfl rfl ?_
  refine m_ald (pc' := 197) cd_Mo_makes rfl (Or.inr ⟨_, rfl, rfl, rfl⟩) l0 rfl rfl ?_
  refine m_fR (r := 14) (a := 15) (ad := 1497) (pc' := 200) rfl rfl cd_Mo_makes rfl rfl rfl rfl rfl ?_
  refine m_ild (pc' := 202) cd_Mo_makes rfl (Or.inl ⟨rfl, rfl⟩) l7 rfl ?_
  refine m_aI (r := 14) (a := 15) (g := (A 15)) (x := ((A 15) (7 * sh b))) (pc' := 203) rfl rfl cd_Mo_makes rfl rfl rfl (vp_in_nI (by omega) (by decide)) (congrArg (A 15) (nI_clamp (by omega))) ?_
  refine m_ald (pc' := 204) cd_Mo_makes rfl (Or.inr ⟨_, rfl, rfl, rfl⟩) l0 rfl rfl ?_
  refine m_fR (r := 15) (a := 16) (ad := 1498) (pc' := 207) rfl rfl cd_Mo_makes rfl rfl rfl rfl rfl ?_
  refine m_ild (pc' := 208) cd_Mo_makes rfl (Or.inr ⟨_, rfl, rfl, rfl⟩) l2 rfl ?_
  refine m_aI (r := 15) (a := 16) (g := (A 16)) (x := ((A 16) p)) (pc' := 209) rfl rfl cd_Mo_makes rfl rfl rfl (vp_in_nI (by omega) (by decide)) (congrArg (A 16) (nI_clamp (by omega))) ?_
  refine m_ci (pc' := 212) cd_Mo_makes rfl rfl rfl rfl rfl cd_Mo_shared rfl (Nat.le_of_ble_eq_true rfl) (m_shared (by exact MT_i hM rfl rfl rfl rfl rfl rfl rfl rfl rfl rfl) (by omega) (by show rc (A 1) T.length < 1000; omega) gK (hid p hp) kK (kid p hp) (fun f1 A1 T1 r1 hx1 hr1 => ?_))
  obtain ⟨p1, q1, s1, hM1⟩ := hx1
  have hM1 : MT f1 A1 T1 _ _ _ := MT_i hM1 rfl rfl rfl rfl rfl rfl rfl rfl rfl rfl
  have s1 : rc (A1 1) T1.length ≤ rc (A 1) T.length + 0 := s1
  show mg _ _ _ 212 _ [.int r1, .ref 1482, .int 1, .ref 1525] _ _
  refine m_ald (pc' := 213) cd_Mo_makes rfl (Or.inr ⟨_, rfl, rfl, rfl⟩) l0 rfl rfl ?_
  refine m_ald (pc' := 214) cd_Mo_makes rfl (Or.inr ⟨_, rfl, rfl, rfl⟩) l0 rfl rfl ?_
  refine m_fR (r := 15) (a := 16) (ad := 1498) (pc' := 217) rfl rfl cd_Mo_makes rfl rfl rfl rfl rfl ?_
  refine m_ild (pc' := 218) cd_Mo_makes rfl (Or.inr ⟨_, rfl, rfl, rfl⟩) l1 rfl ?_
  refine m_aI (r := 15) (a := 16) (g := (A 16)) (x := ((A 16) q)) (pc' := 219) rfl rfl cd_Mo_makes rfl rfl rfl (vp_in_nI (by omega) (by decide)) (congrArg (A 16) (nI_clamp (by omega))) ?_
  refine m_ild (pc' := 221) cd_Mo_makes rfl (Or.inl ⟨rfl, rfl⟩) l9 rfl ?_
  refine m_ci (pc' := 224) cd_Mo_makes rfl rfl rfl rfl rfl cd_Mo_shared rfl (Nat.le_of_ble_eq_true rfl) (m_shared (by exact MT_i hM1 rfl rfl rfl rfl rfl rfl rfl rfl rfl rfl) (by omega) (by show rc (A1 1) T1.length < 1000; omega) (tv_mono p1 (hid q hq)) (tv_mono p1 hBo) (kid q hq) kB0 (fun f2 A2 T2 r2 hx2 hr2 => ?_))
  obtain ⟨p2, q2, s2, hM2⟩ := hx2
  have hM2 : MT f2 A2 T2 _ _ _ := MT_i hM2 rfl rfl rfl rfl rfl rfl rfl rfl rfl rfl
  have s2 : rc (A2 1) T2.length ≤ rc (A1 1) T1.length + 0 := s2
  show mg _ _ _ 224 _ [.int r2, .int r1, .ref 1482, .int 1, .ref 1525] _ _
  refine m_ald (pc' := 225) cd_Mo_makes rfl (Or.inr ⟨_, rfl, rfl, rfl⟩) l0 rfl rfl ?_
  refine m_ald (pc' := 226) cd_Mo_makes rfl (Or.inr ⟨_, rfl, rfl, rfl⟩) l0 rfl rfl ?_
  refine m_fR (r := 14) (a := 15) (ad := 1497) (pc' := 229) rfl rfl cd_Mo_makes rfl rfl rfl rfl rfl ?_
  refine m_ild (pc' := 231) cd_Mo_makes rfl (Or.inl ⟨rfl, rfl⟩) l7 rfl ?_
  refine m_aI (r := 14) (a := 15) (g := (A 15)) (x := ((A 15) (7 * sh b))) (pc' := 232) rfl rfl cd_Mo_makes rfl rfl rfl (vp_in_nI (by omega) (by decide)) (congrArg (A 15) (nI_clamp (by omega))) ?_
  refine m_ild (pc' := 234) cd_Mo_makes rfl (Or.inl ⟨rfl, rfl⟩) l9 rfl ?_
  refine m_ci (pc' := 237) cd_Mo_makes rfl rfl rfl rfl rfl cd_Mo_shared rfl (Nat.le_of_ble_eq_true rfl) (m_shared (by exact MT_i hM2 rfl rfl rfl rfl rfl rfl rfl rfl rfl rfl) (by omega) (by show rc (A2 1) T2.length < 1000; omega) (tv_mono p2 (tv_mono p1 gK)) (tv_mono p2 (tv_mono p1 hBo)) kK kB0 (fun f3 A3 T3 r3 hx3 hr3 => ?_))
  obtain ⟨p3, q3, s3, hM3⟩ := hx3
  have hM3 : MT f3 A3 T3 _ _ _ := MT_i hM3 rfl rfl rfl rfl rfl rfl rfl rfl rfl rfl
  have s3 : rc (A3 1) T3.length ≤ rc (A2 1) T2.length + 0 := s3
  show mg _ _ _ 237 _ [.int r3, .int r2, .int r1, .ref 1482, .int 1, .ref 1525] _ _
  refine m_ild (pc' := 239) cd_Mo_makes rfl (Or.inl ⟨rfl, rfl⟩) l6 rfl ?_
  refine m_if1 (t := 246) (pc' := 242) cd_Mo_makes rfl rfl rfl (fun c239 => ?_) (fun c239 => ?_)
  · exact absurd (show ¬ (0 : Int32) = 0 from c239) (by decide)
  · have c239 : (0 : Int32) = 0 := Classical.not_not.mp c239
    refine m_k1 (v := 0) (pc' := 243) cd_Mo_makes rfl (by decide) rfl ?_
    refine m_pure (pc' := 262) (st' := [.int 0, .int r3, .int r2, .int r1, .ref 1482, .int 1, .ref 1525]) cd_Mo_makes rfl rfl (fun _ _ => rfl) ?_
    refine m_ci (pc' := 265) cd_Mo_makes rfl rfl rfl rfl rfl cd_Mo_agreed rfl (Nat.le_of_ble_eq_true rfl) (m_agreed (by exact MT_i hM3 rfl rfl rfl rfl rfl rfl rfl rfl rfl rfl) (by omega) (by show rc (A3 1) T3.length < 1000; omega) (tv_mono p3 (tv_mono p2 hr1)) (tv_mono p3 hr2) hr3 (MT_z hM3) (fun f4 A4 T4 r4 hx4 hr4 => ?_))
    obtain ⟨p4, q4, s4, hM4⟩ := hx4
    have hM4 : MT f4 A4 T4 _ _ _ := MT_i hM4 rfl rfl rfl rfl rfl rfl rfl rfl rfl rfl
    have s4 : rc (A4 1) T4.length ≤ rc (A3 1) T3.length + 0 := s4
    show mg _ _ _ 265 _ [.int r4, .int 1, .ref 1525] _ _
    refine m_aS (r := 42) (a := 43) (g := (upd (zW (A 43) 38) 0 (nI ib))) (p := 1) (pc' := 266) rfl rfl cd_Mo_makes rfl rfl rfl (vp_in_nI (n := 1) (by decide) (by decide)) (show (1 : Int32).toNatClampNeg = 1 by decide) ?_
    refine m_ald (pc' := 267) cd_Mo_makes rfl (Or.inr ⟨_, rfl, rfl, rfl⟩) l0 rfl rfl ?_
    refine m_fR (r := 42) (a := 43) (ad := 1525) (pc' := 270) rfl rfl cd_Mo_makes rfl rfl rfl rfl rfl ?_
    refine m_k1 (v := 2) (pc' := 271) cd_Mo_makes rfl (by decide) rfl ?_
    refine m_ald (pc' := 272) cd_Mo_makes rfl (Or.inr ⟨_, rfl, rfl, rfl⟩) l0 rfl rfl ?_
    refine m_fR (r := 14) (a := 15) (ad := 1497) (pc' := 275) rfl rfl cd_Mo_makes rfl rfl rfl rfl rfl ?_
    refine m_ild (pc' := 277) cd_Mo_makes rfl (Or.inl ⟨rfl, rfl⟩) l7 rfl ?_
    refine m_aI (r := 14) (a := 15) (g := (A 15)) (x := ((A 15) (7 * sh b))) (pc' := 278) rfl rfl cd_Mo_makes rfl rfl rfl (vp_in_nI (by omega) (by decide)) (congrArg (A 15) (nI_clamp (by omega))) ?_
    refine m_aS (r := 42) (a := 43) (g := (upd (upd (zW (A 43) 38) 0 (nI ib)) 1 r4)) (p := 2) (pc' := 279) rfl rfl cd_Mo_makes rfl rfl rfl (vp_in_nI (n := 2) (by decide) (by decide)) (show (2 : Int32).toNatClampNeg = 2 by decide) ?_
    rw [fset_fset]
    refine m_ald (pc' := 280) cd_Mo_makes rfl (Or.inr ⟨_, rfl, rfl, rfl⟩) l0 rfl rfl ?_
    refine m_fR (r := 42) (a := 43) (ad := 1525) (pc' := 283) rfl rfl cd_Mo_makes rfl rfl rfl rfl rfl ?_
    refine m_k2 (v := 37) (pc' := 285) cd_Mo_makes rfl (by decide) rfl ?_
    refine m_ild (pc' := 287) cd_Mo_makes rfl (Or.inl ⟨rfl, rfl⟩) l6 rfl ?_
    refine m_if1 (t := 294) (pc' := 290) cd_Mo_makes rfl rfl rfl (fun c287 => ?_) (fun c287 => ?_)
    · exact absurd (show ¬ (0 : Int32) = 0 from c287) (by decide)
    · have c287 : (0 : Int32) = 0 := Classical.not_not.mp c287
      refine m_k1 (v := 0) (pc' := 291) cd_Mo_makes rfl (by decide) rfl ?_
      refine m_pure (pc' := 295) (st' := [.int 0, .int 37, .ref 1525]) cd_Mo_makes rfl rfl (fun _ _ => rfl) ?_
      refine m_aS (r := 42) (a := 43) (g := (upd (upd (upd (zW (A 43) 38) 0 (nI ib)) 1 r4) 2 ((A 15) (7 * sh b)))) (p := 37) (pc' := 296) rfl rfl cd_Mo_makes rfl rfl rfl (vp_in_nI (n := 37) (by decide) (by decide)) (show (37 : Int32).toNatClampNeg = 37 by decide) ?_
      rw [fset_fset]
      refine m_k1 (v := 1) (pc' := 297) cd_Mo_makes rfl (by decide) rfl ?_
      have zz : tv T4 0 tz := MT_z hM4
      have hq2 : qSe (upd (upd (upd (upd (zW (A 43) 38) 0 (nI ib)) 1 r4) 2 ((A 15) (7 * sh b))) 37 0) T4 0 (ss_start BA K.1 (as_root (ids q) K.1 (ids p) BA none) false) := by
        have E : ∀ k, k < 37 → k ≠ 0 → k ≠ 1 → k ≠ 2 → (upd (upd (upd (upd (zW (A 43) 38) 0 (nI ib)) 1 r4) 2 ((A 15) (7 * sh b))) 37 0) (0 + k) = 0 := fun k k1 k2 k3 k4 => by rw [upd_ne (by omega), upd_ne (by omega), upd_ne (by omega), upd_ne (by omega), zW_z (by omega)]
        have T0_ : ∀ k, k < 37 → k ≠ 0 → k ≠ 1 → k ≠ 2 → tv T4 ((upd (upd (upd (upd (zW (A 43) 38) 0 (nI ib)) 1 r4) 2 ((A 15) (7 * sh b))) 37 0) (0 + k)) tz := fun k k1 k2 k3 k4 => by rw [E k k1 k2 k3 k4]; exact zz
        refine ⟨⟨?_, ?_, ?_, T0_ 3 (by decide) (by decide) (by decide) (by decide), T0_ 4 (by decide) (by decide) (by decide) (by decide), T0_ 7 (by decide) (by decide) (by decide) (by decide)⟩, ⟨E 5 (by decide) (by decide) (by decide) (by decide), E 6 (by decide) (by decide) (by decide) (by decide), E 8 (by decide) (by decide) (by decide) (by decide)⟩, ⟨E 9 (by decide) (by decide) (by decide) (by decide), fun q => nomatch q⟩, ⟨E 12 (by decide) (by decide) (by decide) (by decide), by decide⟩, fun i x hx => by simp at hx, ?_⟩
        · rw [upd_ne (by omega), upd_ne (by omega), upd_ne (by omega), upd_same]; exact (tv_mono p4 (tv_mono p3 (tv_mono p2 (tv_mono p1 ⟨ib, rfl, hB⟩))))
        · rw [upd_ne (by omega), upd_ne (by omega), upd_same]; exact hr4
        · rw [upd_ne (by omega), upd_same]; exact (tv_mono p4 (tv_mono p3 (tv_mono p2 (tv_mono p1 gK))))
        · rw [upd_same]; rfl
      exact m_retz cd_Mo_makes rfl (Or.inr rfl) ⟨_, rfl, (mK_end (Q := Q 1) (f := f) (A := A) (fun k q => by have e0 : ¬ k = 0 := (by omega); have e7 : ¬ k = 7 := (by omega); have e61 : ¬ k = 61 := (by omega); simp only [fset, mjF, mjKf, e0, e7, e61, or_self, if_false]) (fun j q => by have e0 : ¬ (1 ≤ j ∧ j ≤ 8) := (by omega); have e43 : ¬ j = 43 := (by omega); have e44 : ¬ j = 44 := (by omega); simp only [fset, mjA, mjKA, e0, e43, e44, or_self, if_false]) (kk _ _ _ (((p1.trans p2).trans p3).trans p4) (by omega) (show rc (A4 1) _ ≤ _ by omega) (by exact MT_i hM4 rfl rfl rfl rfl rfl rfl rfl rfl rfl rfl) hq2))⟩
set_option maxRecDepth 100000 in
theorem l_mmk1 {sc : tm_X} {d : Nat} {f : Nat → Int32} {A : Nat → Nat → Int32} {T : List Tm} {DL : List (Int32 × Int32)} {G Kw : Tm → Prop} {K : PK} {on : List (Tm × Int32)} {ids : Nat → Tm} {q p ib oi i : Nat} {b : Bool} {BA : Tm} {e : Tm × Int32} {Q : Int32 → MS → Prop} (hM : MT f A T DL G Kw) (hl : T.length + 7 ≤ 4000) (hr : rc (A 1) T.length < 1000) (hq : q < 6) (hp : p < 6) (hid : ∀ q, q < 6 → tv T (A 16 q) (ids q)) (kid : ∀ q, q < 6 → kd (ids q) = 1) (hK : qPk (A 15) T (7 * sh b) K) (kK : kd K.1 = 1) (hB : T[ib]? = some BA) (kB : kd BA = 2) (kB0 : kd (pt BA 0) = 1) (hO : qOn (A 15) T on) (he : on[i]? = some e) (kE : kd e.1 = 1) (hoz : ¬ nI oi = 0) (kk : ∀ f1 A1 T1, T <+: T1 → T1.length ≤ T.length + 7 → rc (A1 1) T1.length ≤ rc (A 1) T.length →  MT (mjKf f1 f) (mjKA A1 A) T1 DL G Kw → qSe (A1 43) T1 0 (ss_start BA K.1 (as_root (ids q) K.1 (ids p) BA (some e.1)) true) → Q 1 (mjKf f1 f, mjKA A1 A)) : ∀ lv : tm_L, lv.lookup 0 = some (.ref 1482) → lv.lookup 1 = some (.int (nI q)) → lv.lookup 2 = some (.int (nI p)) → lv.lookup 4 = some (.int (nI ib)) → lv.lookup 6 = some (.int (nI oi)) → lv.lookup 7 = some (.int (nI (7 * sh b))) → lv.lookup 8 = some (.int (nI i)) → mg sc (d + 5) 233 148 lv [] (f, A) (fun r s' => ∃ v, r = some (.int v) ∧ Q v s') := by
  intro lv l0 l1 l2 l4 l6 l7 l8
  have hTl := MT_len hM
  have hib := tv_lt hB
  have hsb := sh_lt b
  have hBo := MT_one hM hB (Or.inl kB)
  have gK := hK.1.1
  have h4 := hO.1.2
  have hi : i < on.length := (List.getElem?_eq_some_iff.mp he).1
  have gE := (hO.2 i e he).1
  refine m_ald (pc' := 149) cd_Mo_makes rfl (Or.inr ⟨_, rfl, rfl, rfl⟩) l0 rfl rfl ?_
  refine m_fR (r := 1) (a := 2) (ad := 1484) (pc' := 152) rfl rfl cd_Mo_makes rfl rfl rfl rfl rfl ?_
  refine m_ild (pc' := 154) cd_Mo_makes rfl (Or.inl ⟨rfl, rfl⟩) l4 rfl ?_
  refine m_aI (r := 1) (a := 2) (g := (A 2)) (x := ((A 2) ib)) (pc' := 155) rfl rfl cd_Mo_makes rfl rfl rfl (vp_in_nI (by omega) (by decide)) (congrArg (A 2) (nI_clamp (by omega))) ?_
  refine m_ist (pc' := 157) cd_Mo_makes rfl (Or.inl ⟨rfl, rfl⟩) (by decide) rfl (fun lv el => ?_)
  have l0 := tm_lk el l0 rfl (by decide)
  have l1 := tm_lk el l1 rfl (by decide)
  have l2 := tm_lk el l2 rfl (by decide)
  have l4 := tm_lk el l4 rfl (by decide)
  have l6 := tm_lk el l6 rfl (by decide)
  have l7 := tm_lk el l7 rfl (by decide)
  have l8 := tm_lk el l8 rfl (by decide)
  have l9 : lv.lookup 9 = some (.int (((A 2) ib))) := tm_lks el
  clear el
  refine m_k1 (v := 0) (pc' := 158) cd_Mo_makes rfl (by decide) rfl ?_
  refine m_ist (pc' := 160) cd_Mo_makes rfl (Or.inl ⟨rfl, rfl⟩) (by decide) rfl (fun lv el => ?_)
  have l0 := tm_lk el l0 rfl (by decide)
  have l1 := tm_lk el l1 rfl (by decide)
  have l2 := tm_lk el l2 rfl (by decide)
  have l4 := tm_lk el l4 rfl (by decide)
  have l6 := tm_lk el l6 rfl (by decide)
  have l7 := tm_lk el l7 rfl (by decide)
  have l8 := tm_lk el l8 rfl (by decide)
  have l9 := tm_lk el l9 rfl (by decide)
  have l10 : lv.lookup 10 = some (.int 0) := tm_lks el
  clear el
  rw [show A = fset A 43 (zW (A 43) 0) from (by rw [zW_0, fset_id])]
  refine l_mmkZ (fun lv l0 l1 l2 l4 l6 l7 l8 l9 => ?_) 38 0 rfl lv l0 l1 l2 l4 l6 l7 l8 l9 l10
  refine m_ald (pc' := 182) cd_Mo_makes rfl (Or.inr ⟨_, rfl, rfl, rfl⟩) l0 rfl rfl ?_
  refine m_fR (r := 42) (a := 43) (ad := 1525) (pc' := 185) rfl rfl cd_Mo_makes rfl rfl rfl rfl rfl ?_
  refine m_k1 (v := 0) (pc' := 186) cd_Mo_makes rfl (by decide) rfl ?_
  refine m_ild (pc' := 188) cd_Mo_makes rfl (Or.inl ⟨rfl, rfl⟩) l4 rfl ?_
  refine m_aS (r := 42) (a := 43) (g := (zW (A 43) 38)) (p := 0) (pc' := 189) rfl rfl cd_Mo_makes rfl rfl rfl (vp_in_nI (n := 0) (by decide) (by decide)) (show (0 : Int32).toNatClampNeg = 0 by decide) ?_
  refine m_ald (pc' := 190) cd_Mo_makes rfl (Or.inr ⟨_, rfl, rfl, rfl⟩) l0 rfl rfl ?_
  refine m_fR (r := 42) (a := 43) (ad := 1525) (pc' := 193) rfl rfl cd_Mo_makes rfl rfl rfl rfl rfl ?_
  refine m_k1 (v := 1) (pc' := 194) cd_Mo_makes rfl (by decide) rfl ?_
  refine m_ald (pc' := 195) cd_Mo_makes rfl (Or.inr ⟨_, rfl, rfl, rfl⟩) l0 rfl rfl ?_
  refine m_ald (pc' := 196) cd_Mo_makes rfl (Or.inr ⟨_, rfl, rfl, rfl⟩) l0 rfl rfl ?_
  refine m_ald (pc' := 197) cd_Mo_makes rfl (Or.inr ⟨_, rfl, rfl, rfl⟩) l0 rfl rfl ?_
  refine m_fR (r := 14) (a := 15) (ad := 1497) (pc' := 200) rfl rfl cd_Mo_makes rfl rfl rfl rfl rfl ?_
  refine m_ild (pc' := 202) cd_Mo_makes rfl (Or.inl ⟨rfl, rfl⟩) l7 rfl ?_
  refine m_aI (r := 14) (a := 15) (g := (A 15)) (x := ((A 15) (7 * sh b))) (pc' := 203) rfl rfl cd_Mo_makes rfl rfl rfl (vp_in_nI (by omega) (by decide)) (congrArg (A 15) (nI_clamp (by omega))) ?_
  refine m_ald (pc' := 204) cd_Mo_makes rfl (Or.inr ⟨_, rfl, rfl, rfl⟩) l0 rfl rfl ?_
  refine m_fR (r := 15) (a := 16) (ad := 1498) (pc' := 207) rfl rfl cd_Mo_makes rfl rfl rfl rfl rfl ?_
  refine m_ild (pc' := 208) cd_Mo_makes rfl (Or.inr ⟨_, rfl, rfl, rfl⟩) l2 rfl ?_
  refine m_aI (r := 15) (a := 16) (g := (A 16)) (x := ((A 16) p)) (pc' := 209) rfl rfl cd_Mo_makes rfl rfl rfl (vp_in_nI (by omega) (by decide)) (congrArg (A 16) (nI_clamp (by omega))) ?_
  refine m_ci (pc' := 212) cd_Mo_makes rfl rfl rfl rfl rfl cd_Mo_shared rfl (Nat.le_of_ble_eq_true rfl) (m_shared (by exact MT_i hM rfl rfl rfl rfl rfl rfl rfl rfl rfl rfl) (by omega) (by show rc (A 1) T.length < 1000; omega) gK (hid p hp) kK (kid p hp) (fun f1 A1 T1 r1 hx1 hr1 => ?_))
  obtain ⟨p1, q1, s1, hM1⟩ := hx1
  have hM1 : MT f1 A1 T1 _ _ _ := MT_i hM1 rfl rfl rfl rfl rfl rfl rfl rfl rfl rfl
  have s1 : rc (A1 1) T1.length ≤ rc (A 1) T.length + 0 := s1
  show mg _ _ _ 212 _ [.int r1, .ref 1482, .int 1, .ref 1525] _ _
  refine m_ald (pc' := 213) cd_Mo_makes rfl (Or.inr ⟨_, rfl, rfl, rfl⟩) l0 rfl rfl ?_
  refine m_ald (pc' := 214) cd_Mo_makes rfl (Or.inr ⟨_, rfl, rfl, rfl⟩) l0 rfl rfl ?_
  refine m_fR (r := 15) (a := 16) (ad := 1498) (pc' := 217) rfl rfl cd_Mo_makes rfl rfl rfl rfl rfl ?_
  refine m_ild (pc' := 218) cd_Mo_makes rfl (Or.inr ⟨_, rfl, rfl, rfl⟩) l1 rfl ?_
  refine m_aI (r := 15) (a := 16) (g := (A 16)) (x := ((A 16) q)) (pc' := 219) rfl rfl cd_Mo_makes rfl rfl rfl (vp_in_nI (by omega) (by decide)) (congrArg (A 16) (nI_clamp (by omega))) ?_
  refine m_ild (pc' := 221) cd_Mo_makes rfl (Or.inl ⟨rfl, rfl⟩) l9 rfl ?_
  refine m_ci (pc' := 224) cd_Mo_makes rfl rfl rfl rfl rfl cd_Mo_shared rfl (Nat.le_of_ble_eq_true rfl) (m_shared (by exact MT_i hM1 rfl rfl rfl rfl rfl rfl rfl rfl rfl rfl) (by omega) (by show rc (A1 1) T1.length < 1000; omega) (tv_mono p1 (hid q hq)) (tv_mono p1 hBo) (kid q hq) kB0 (fun f2 A2 T2 r2 hx2 hr2 => ?_))
  obtain ⟨p2, q2, s2, hM2⟩ := hx2
  have hM2 : MT f2 A2 T2 _ _ _ := MT_i hM2 rfl rfl rfl rfl rfl rfl rfl rfl rfl rfl
  have s2 : rc (A2 1) T2.length ≤ rc (A1 1) T1.length + 0 := s2
  show mg _ _ _ 224 _ [.int r2, .int r1, .ref 1482, .int 1, .ref 1525] _ _
  refine m_ald (pc' := 225) cd_Mo_makes rfl (Or.inr ⟨_, rfl, rfl, rfl⟩) l0 rfl rfl ?_
  refine m_ald (pc' := 226) cd_Mo_makes rfl (Or.inr ⟨_, rfl, rfl, rfl⟩) l0 rfl rfl ?_
  refine m_fR (r := 14) (a := 15) (ad := 1497) (pc' := 229) rfl rfl cd_Mo_makes rfl rfl rfl rfl rfl ?_
  refine m_ild (pc' := 231) cd_Mo_makes rfl (Or.inl ⟨rfl, rfl⟩) l7 rfl ?_
  refine m_aI (r := 14) (a := 15) (g := (A 15)) (x := ((A 15) (7 * sh b))) (pc' := 232) rfl rfl cd_Mo_makes rfl rfl rfl (vp_in_nI (by omega) (by decide)) (congrArg (A 15) (nI_clamp (by omega))) ?_
  refine m_ild (pc' := 234) cd_Mo_makes rfl (Or.inl ⟨rfl, rfl⟩) l9 rfl ?_
  refine m_ci (pc' := 237) cd_Mo_makes rfl rfl rfl rfl rfl cd_Mo_shared rfl (Nat.le_of_ble_eq_true rfl) (m_shared (by exact MT_i hM2 rfl rfl rfl rfl rfl rfl rfl rfl rfl rfl) (by omega) (by show rc (A2 1) T2.length < 1000; omega) (tv_mono p2 (tv_mono p1 gK)) (tv_mono p2 (tv_mono p1 hBo)) kK kB0 (fun f3 A3 T3 r3 hx3 hr3 => ?_))
  obtain ⟨p3, q3, s3, hM3⟩ := hx3
  have hM3 : MT f3 A3 T3 _ _ _ := MT_i hM3 rfl rfl rfl rfl rfl rfl rfl rfl rfl rfl
  have s3 : rc (A3 1) T3.length ≤ rc (A2 1) T2.length + 0 := s3
  show mg _ _ _ 237 _ [.int r3, .int r2, .int r1, .ref 1482, .int 1, .ref 1525] _ _
  refine m_ild (pc' := 239) cd_Mo_makes rfl (Or.inl ⟨rfl, rfl⟩) l6 rfl ?_
  refine m_if1 (t := 246) (pc' := 242) cd_Mo_makes rfl rfl rfl (fun c239 => ?_) (fun c239 => ?_)
  · have c239 : ¬ (nI oi) = 0 := c239
    refine m_ald (pc' := 247) cd_Mo_makes rfl (Or.inr ⟨_, rfl, rfl, rfl⟩) l0 rfl rfl ?_
    refine m_ald (pc' := 248) cd_Mo_makes rfl (Or.inr ⟨_, rfl, rfl, rfl⟩) l0 rfl rfl ?_
    refine m_fR (r := 14) (a := 15) (ad := 1497) (pc' := 251) rfl rfl cd_Mo_makes rfl rfl rfl rfl rfl ?_
    refine m_k2 (v := 15) (pc' := 253) cd_Mo_makes rfl (by decide) rfl ?_
    refine m_ild (pc' := 255) cd_Mo_makes rfl (Or.inl ⟨rfl, rfl⟩) l8 rfl ?_
    refine m_pure (pc' := 256) (st' := [.int ((15 : Int32) + (nI i)), .ref 1497, .ref 1482, .int r3, .int r2, .int r1, .ref 1482, .int 1, .ref 1525]) cd_Mo_makes rfl rfl (fun _ _ => rfl) ?_
    refine m_eq (show ((15 : Int32) + (nI i) : Int32) = nI (15 + i) from nI_add 15 i) ?_
    refine m_aI (r := 14) (a := 15) (g := (A 15)) (x := ((A 15) (15 + i))) (pc' := 257) rfl rfl cd_Mo_makes rfl rfl rfl (vp_in_nI (by omega) (by decide)) (congrArg (A 15) (nI_clamp (by omega))) ?_
    refine m_ild (pc' := 259) cd_Mo_makes rfl (Or.inl ⟨rfl, rfl⟩) l9 rfl ?_
    refine m_ci (pc' := 262) cd_Mo_makes rfl rfl rfl rfl rfl cd_Mo_shared rfl (Nat.le_of_ble_eq_true rfl) (m_shared (by exact MT_i hM3 rfl rfl rfl rfl rfl rfl rfl rfl rfl rfl) (by omega) (by show rc (A3 1) T3.length < 1000; omega) (tv_mono p3 (tv_mono p2 (tv_mono p1 gE))) (tv_mono p3 (tv_mono p2 (tv_mono p1 hBo))) kE kB0 (fun f4 A4 T4 r4 hx4 hr4 => ?_))
    obtain ⟨p4, q4, s4, hM4⟩ := hx4
    have hM4 : MT f4 A4 T4 _ _ _ := MT_i hM4 rfl rfl rfl rfl rfl rfl rfl rfl rfl rfl
    have s4 : rc (A4 1) T4.length ≤ rc (A3 1) T3.length + 0 := s4
    show mg _ _ _ 262 _ [.int r4, .int r3, .int r2, .int r1, .ref 1482, .int 1, .ref 1525] _ _
    refine m_ci (pc' := 265) cd_Mo_makes rfl rfl rfl rfl rfl cd_Mo_agreed rfl (Nat.le_of_ble_eq_true rfl) (m_agreed (by exact MT_i hM4 rfl rfl rfl rfl rfl rfl rfl rfl rfl rfl) (by omega) (by show rc (A4 1) T4.length < 1000; omega) (tv_mono p4 (tv_mono p3 (tv_mono p2 hr1))) (tv_mono p4 (tv_mono p3 hr2)) (tv_mono p4 hr3) hr4 (fun f5 A5 T5 r5 hx5 hr5 => ?_))
    obtain ⟨p5, q5, s5, hM5⟩ := hx5
    have hM5 : MT f5 A5 T5 _ _ _ := MT_i hM5 rfl rfl rfl rfl rfl rfl rfl rfl rfl rfl
    have s5 : rc (A5 1) T5.length ≤ rc (A4 1) T4.length + 0 := s5
    show mg _ _ _ 265 _ [.int r5, .int 1, .ref 1525] _ _
    refine m_aS (r := 42) (a := 43) (g := (upd (zW (A 43) 38) 0 (nI ib))) (p := 1) (pc' := 266) rfl rfl cd_Mo_makes rfl rfl rfl (vp_in_nI (n := 1) (by decide) (by decide)) (show (1 : Int32).toNatClampNeg = 1 by decide) ?_
    refine m_ald (pc' := 267) cd_Mo_makes rfl (Or.inr ⟨_, rfl, rfl, rfl⟩) l0 rfl rfl ?_
    refine m_fR (r := 42) (a := 43) (ad := 1525) (pc' := 270) rfl rfl cd_Mo_makes rfl rfl rfl rfl rfl ?_
    refine m_k1 (v := 2) (pc' := 271) cd_Mo_makes rfl (by decide) rfl ?_
    refine m_ald (pc' := 272) cd_Mo_makes rfl (Or.inr ⟨_, rfl, rfl, rfl⟩) l0 rfl rfl ?_
    refine m_fR (r := 14) (a := 15) (ad := 1497) (pc' := 275) rfl rfl cd_Mo_makes rfl rfl rfl rfl rfl ?_
    refine m_ild (pc' := 277) cd_Mo_makes rfl (Or.inl ⟨rfl, rfl⟩) l7 rfl ?_
    refine m_aI (r := 14) (a := 15) (g := (A 15)) (x := ((A 15) (7 * sh b))) (pc' := 278) rfl rfl cd_Mo_makes rfl rfl rfl (vp_in_nI (by omega) (by decide)) (congrArg (A 15) (nI_clamp (by omega))) ?_
    refine m_aS (r := 42) (a := 43) (g := (upd (upd (zW (A 43) 38) 0 (nI ib)) 1 r5)) (p := 2) (pc' := 279) rfl rfl cd_Mo_makes rfl rfl rfl (vp_in_nI (n := 2) (by decide) (by decide)) (show (2 : Int32).toNatClampNeg = 2 by decide) ?_
    rw [fset_fset]
    refine m_ald (pc' := 280) cd_Mo_makes rfl (Or.inr ⟨_, rfl, rfl, rfl⟩) l0 rfl rfl ?_
    refine m_fR (r := 42) (a := 43) (ad := 1525) (pc' := 283) rfl rfl cd_Mo_makes rfl rfl rfl rfl rfl ?_
    refine m_k2 (v := 37) (pc' := 285) cd_Mo_makes rfl (by decide) rfl ?_
    refine m_ild (pc' := 287) cd_Mo_makes rfl (Or.inl ⟨rfl, rfl⟩) l6 rfl ?_
    refine m_if1 (t := 294) (pc' := 290) cd_Mo_makes rfl rfl rfl (fun c287 => ?_) (fun c287 => ?_)
    · have c287 : ¬ (nI oi) = 0 := c287
      refine m_k1 (v := 1) (pc' := 295) cd_Mo_makes rfl (by decide) rfl ?_
      refine m_aS (r := 42) (a := 43) (g := (upd (upd (upd (zW (A 43) 38) 0 (nI ib)) 1 r5) 2 ((A 15) (7 * sh b)))) (p := 37) (pc' := 296) rfl rfl cd_Mo_makes rfl rfl rfl (vp_in_nI (n := 37) (by decide) (by decide)) (show (37 : Int32).toNatClampNeg = 37 by decide) ?_
      rw [fset_fset]
      refine m_k1 (v := 1) (pc' := 297) cd_Mo_makes rfl (by decide) rfl ?_
      have zz : tv T5 0 tz := MT_z hM5
      have hq2 : qSe (upd (upd (upd (upd (zW (A 43) 38) 0 (nI ib)) 1 r5) 2 ((A 15) (7 * sh b))) 37 1) T5 0 (ss_start BA K.1 (as_root (ids q) K.1 (ids p) BA (some e.1)) true) := by
        have E : ∀ k, k < 37 → k ≠ 0 → k ≠ 1 → k ≠ 2 → (upd (upd (upd (upd (zW (A 43) 38) 0 (nI ib)) 1 r5) 2 ((A 15) (7 * sh b))) 37 1) (0 + k) = 0 := fun k k1 k2 k3 k4 => by rw [upd_ne (by omega), upd_ne (by omega), upd_ne (by omega), upd_ne (by omega), zW_z (by omega)]
        have T0_ : ∀ k, k < 37 → k ≠ 0 → k ≠ 1 → k ≠ 2 → tv T5 ((upd (upd (upd (upd (zW (A 43) 38) 0 (nI ib)) 1 r5) 2 ((A 15) (7 * sh b))) 37 1) (0 + k)) tz := fun k k1 k2 k3 k4 => by rw [E k k1 k2 k3 k4]; exact zz
        refine ⟨⟨?_, ?_, ?_, T0_ 3 (by decide) (by decide) (by decide) (by decide), T0_ 4 (by decide) (by decide) (by decide) (by decide), T0_ 7 (by decide) (by decide) (by decide) (by decide)⟩, ⟨E 5 (by decide) (by decide) (by decide) (by decide), E 6 (by decide) (by decide) (by decide) (by decide), E 8 (by decide) (by decide) (by decide) (by decide)⟩, ⟨E 9 (by decide) (by decide) (by decide) (by decide), fun q => nomatch q⟩, ⟨E 12 (by decide) (by decide) (by decide) (by decide), by decide⟩, fun i x hx => by simp at hx, ?_⟩
        · rw [upd_ne (by omega), upd_ne (by omega), upd_ne (by omega), upd_same]; exact (tv_mono p5 (tv_mono p4 (tv_mono p3 (tv_mono p2 (tv_mono p1 ⟨ib, rfl, hB⟩)))))
        · rw [upd_ne (by omega), upd_ne (by omega), upd_same]; rw [if_neg (fun q => Tsh_nz _ _ (tnil_iff.mp q))] at hr5; exact hr5
        · rw [upd_ne (by omega), upd_same]; exact (tv_mono p5 (tv_mono p4 (tv_mono p3 (tv_mono p2 (tv_mono p1 gK)))))
        · rw [upd_same]; rfl
      exact m_retz cd_Mo_makes rfl (Or.inr rfl) ⟨_, rfl, (mK_end (Q := Q 1) (f := f) (A := A) (fun k q => by have e0 : ¬ k = 0 := (by omega); have e7 : ¬ k = 7 := (by omega); have e61 : ¬ k = 61 := (by omega); simp only [fset, mjF, mjKf, e0, e7, e61, or_self, if_false]) (fun j q => by have e0 : ¬ (1 ≤ j ∧ j ≤ 8) := (by omega); have e43 : ¬ j = 43 := (by omega); have e44 : ¬ j = 44 := (by omega); simp only [fset, mjA, mjKA, e0, e43, e44, or_self, if_false]) (kk _ _ _ ((((p1.trans p2).trans p3).trans p4).trans p5) (by omega) (show rc (A5 1) _ ≤ _ by omega) (by exact MT_i hM5 rfl rfl rfl rfl rfl rfl rfl rfl rfl rfl) hq2))⟩
    · have c287 : (nI oi) = 0 := Classical.not_not.mp c287
      exact absurd c287 hoz
  · have c239 : (nI oi) = 0 := Classical.not_not.mp c239
    exact absurd c239 hoz
