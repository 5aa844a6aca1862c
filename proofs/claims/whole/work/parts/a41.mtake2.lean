/-! The reference: what is taken is written back -/
def mjQA (B A : Nat → Nat → Int32) : Nat → Nat → Int32 := fun j => if (1 ≤ j ∧ j ≤ 8) ∨ j = 15 ∨ j = 43 ∨ j = 44 then B j else A j
theorem mjQA_of {B A : Nat → Nat → Int32} (h : ∀ j, ¬ ((1 ≤ j ∧ j ≤ 8) ∨ j = 15 ∨ j = 43 ∨ j = 44) → B j = A j) : mjQA B A = B := by
  funext j
  unfold mjQA
  split
  · rfl
  · rename_i q; exact (h j q).symm
theorem mjQA_in {B A A' : Nat → Nat → Int32} (h : ∀ j, ¬ ((1 ≤ j ∧ j ≤ 8) ∨ j = 15 ∨ j = 43 ∨ j = 44) → A' j = A j) : mjQA B A' = mjQA B A := by
  funext j
  unfold mjQA
  split
  · rfl
  · rename_i q; exact h j q
theorem mQ_end {f f' : Nat → Int32} {A A' : Nat → Nat → Int32} {Q : MS → Prop} (h1 : ∀ k, ¬ (k = 0 ∨ k = 7 ∨ k = 61) → f' k = f k) (h2 : ∀ j, ¬ ((1 ≤ j ∧ j ≤ 8) ∨ j = 15 ∨ j = 43 ∨ j = 44) → A' j = A j) (h : Q (mjKf f' f, mjQA A' A)) : Q (f', A') := by
  rw [mjKf_of h1, mjQA_of h2] at h
  exact h
def cpW (w s : Nat → Int32) (a n : Nat) : Nat → Int32 := fun j => if a ≤ j ∧ j < a + n then s (j - a) else w j
theorem cpW_0 (w s : Nat → Int32) (a : Nat) : cpW w s a 0 = w := funext fun j => if_neg (by omega)
theorem cpW_s (w s : Nat → Int32) (a n : Nat) : upd (cpW w s a n) (a + n) (s n) = cpW w s a (n + 1) := funext fun j => by
  show (if j = a + n then s n else cpW w s a n j) = _
  unfold cpW
  by_cases c : j = a + n
  · rw [if_pos c, if_pos (by omega)]; congr 1; omega
  · rw [if_neg c]
    by_cases c2 : a ≤ j ∧ j < a + n
    · rw [if_pos c2, if_pos (by omega)]
    · rw [if_neg c2, if_neg (by omega)]
theorem cpW_in {w s : Nat → Int32} {a n j : Nat} (h : j < n) : cpW w s a n (a + j) = s j := by
  unfold cpW
  rw [if_pos (by omega)]
  congr 1
  omega
theorem cpW_out {w s : Nat → Int32} {a n j : Nat} (h : ¬ (a ≤ j ∧ j < a + n)) : cpW w s a n j = w j := if_neg h
theorem good_mk {k : Nat} {A : Tm} (h : Tgood k A = true) : mk A = nI k := by
  unfold Tgood at h
  simp only [Bool.and_eq_true, decide_eq_true_eq] at h
  exact h.1.1.2
theorem qSe_nb {w g : Nat → Int32} {T : List Tm} {S : SS} (h : qSe w T 0 S) (e : ∀ k, k < 38 → k ≠ 9 → k ≠ 10 → k ≠ 11 → g k = w k) (e9 : g 9 = 0) : qSe g T 0 (ss_nb S) := by
  obtain ⟨⟨th, ch, nx, le⟩, ba, ro, mi, sd, n, b, br, bp, bo, on⟩ := S
  obtain ⟨⟨a1, a2, a3, a4, a5, a6⟩, ⟨a7, a8, a9⟩, ⟨a10, a11⟩, ⟨a12, a13⟩, a14, a15⟩ := h
  have E : ∀ k, k < 38 → k ≠ 9 → k ≠ 10 → k ≠ 11 → ∀ {X : Tm}, tv T (w (0 + k)) X → tv T (g (0 + k)) X := fun k k1 k2 k3 k4 X hX => by rw [Nat.zero_add] at hX ⊢; rw [e k k1 k2 k3 k4]; exact hX
  have F : ∀ k, k < 38 → k ≠ 9 → k ≠ 10 → k ≠ 11 → g (0 + k) = w (0 + k) := fun k k1 k2 k3 k4 => by rw [Nat.zero_add]; exact e k k1 k2 k3 k4
  refine ⟨⟨E 0 (by decide) (by decide) (by decide) (by decide) a1, E 1 (by decide) (by decide) (by decide) (by decide) a2, E 2 (by decide) (by decide) (by decide) (by decide) a3, E 3 (by decide) (by decide) (by decide) (by decide) a4, E 4 (by decide) (by decide) (by decide) (by decide) a5, E 7 (by decide) (by decide) (by decide) (by decide) a6⟩, ⟨(F 5 (by decide) (by decide) (by decide) (by decide)).trans a7, (F 6 (by decide) (by decide) (by decide) (by decide)).trans a8, (F 8 (by decide) (by decide) (by decide) (by decide)).trans a9⟩, ⟨e9, fun q => nomatch q⟩, ⟨(F 12 (by decide) (by decide) (by decide) (by decide)).trans a12, a13⟩, fun i x hx => ?_, (F 37 (by decide) (by decide) (by decide) (by decide)).trans a15⟩
  have hi : i < le.length := (List.getElem?_eq_some_iff.mp hx).1
  obtain ⟨c1, c2, c3⟩ := a14 i x hx
  rw [e _ (by omega) (by omega) (by omega) (by omega), e _ (by omega) (by omega) (by omega) (by omega), e _ (by omega) (by omega) (by omega) (by omega)]
  exact ⟨c1, c2, c3⟩
theorem qSe_on {w : Nat → Int32} {T : List Tm} {S : SS} (h : qSe w T 0 S) : w 37 = bz S.2.2.2.2.2.2.2.2.2.2 := by
  obtain ⟨⟨th, ch, nx, le⟩, ba, ro, mi, sd, n, b, br, bp, bo, on⟩ := S
  exact h.2.2.2.2.2
/-- a session written into the first place -/
theorem qDv_first {w g : Nat → Int32} {T : List Tm} {id : Tm} {K0 K1 : PK} {on : List (Tm × Int32)} {lnu : Int32} {se : Nat → List SS} {me : Nat → MM} {p : Nat} {X0 S : SS} {rest : List SS} (hp : p < 6) (h : qDv w T (id, K0, K1, on, lnu, fset se p (X0 :: rest), me)) (hs : qSe g T (30 + (2 * p + 0) * 38) S) (e : ∀ k, ¬ (30 + (2 * p + 0) * 38 ≤ k ∧ k < 30 + (2 * p + 0) * 38 + 38) → g k = w k) : qDv g T (id, K0, K1, on, lnu, fset se p (S :: rest), me) := by
  have hq := h.2.2.1 p hp
  rw [fset_same] at hq
  have hl := hq.1.2
  have h2 := qDv_ses (l' := S :: rest) hp h (List.prefix_refl T) (g := g) ⟨⟨by rw [e _ (by omega)]; exact hq.1.1, hl⟩, fun k S' hS => ?_⟩ (fun k k1 k2 => e k (by omega))
  · rw [fset_fset] at h2
    exact h2
  · rcases k with _ | k
    · cases hS
      exact hs
    · have hk1 := (List.getElem?_eq_some_iff.mp hS).1
      simp only [List.length_cons] at hk1 hl
      have hS : (X0 :: rest)[k + 1]? = some S' := hS
      exact qSe_c (List.prefix_refl T) (fun j hj => e _ (by omega)) (hq.2 (k + 1) S' hS)
set_option maxRecDepth 100000 in
theorem l_mtsC {sc : tm_X} {d : Nat} {f : Nat → Int32} {A : Nat → Nat → Int32} {p bi : Nat} {Q : Option Value → MS → Prop} (hp : p < 6) (kk : ∀ lv : tm_L, lv.lookup 0 = some (.ref 1482) → lv.lookup 4 = some (.int (nI p)) → lv.lookup 8 = some (.int (nI bi)) → mg sc (d + 7) 232 348 lv [] (f, fset A 15 (cpW (A 15) (A 43) (30 + (2 * p + 0) * 38) 38)) Q) : ∀ (r k : Nat), k + r = 38 → ∀ lv : tm_L, lv.lookup 0 = some (.ref 1482) → lv.lookup 4 = some (.int (nI p)) → lv.lookup 8 = some (.int (nI bi)) → lv.lookup 9 = some (.int (nI k)) → mg sc (d + 7) 232 314 lv [] (f, fset A 15 (cpW (A 15) (A 43) (30 + (2 * p + 0) * 38) k)) Q := by
  intro r
  induction r with
  | zero =>
    intro k hk lv l0 l4 l8 l9
    have hk2 : k = 38 := by omega
    subst hk2
    refine m_ild (pc' := 316) cd_Mo_takeSealed rfl (Or.inl ⟨rfl, rfl⟩) l9 rfl ?_
    refine m_k2 (v := 38) (pc' := 318) cd_Mo_takeSealed rfl (by decide) rfl ?_
    refine m_if2 (t := 348) (pc' := 321) cd_Mo_takeSealed rfl rfl rfl (fun c318 => ?_) (fun c318 => ?_)
    · have c318 : (38 : Int32) ≤ (nI 38) := c318
      exact kk lv l0 l4 l8
    · have c318 : ¬ (38 : Int32) ≤ (nI 38) := c318
      exact absurd (show (38 : Int32) ≤ nI 38 from by decide) c318
  | succ r ih =>
    intro k hk lv l0 l4 l8 l9
    refine m_ild (pc' := 316) cd_Mo_takeSealed rfl (Or.inl ⟨rfl, rfl⟩) l9 rfl ?_
    refine m_k2 (v := 38) (pc' := 318) cd_Mo_takeSealed rfl (by decide) rfl ?_
    refine m_if2 (t := 348) (pc' := 321) cd_Mo_takeSealed rfl rfl rfl (fun c318 => ?_) (fun c318 => ?_)
    · have c318 : (38 : Int32) ≤ (nI k) := c318
      exact absurd c318 (nI_ge (b := 38) (by omega) (by decide))
    · have c318 : ¬ (38 : Int32) ≤ (nI k) := c318
      refine m_ald (pc' := 322) cd_Mo_takeSealed rfl (Or.inr ⟨_, rfl, rfl, rfl⟩) l0 rfl rfl ?_
      refine m_fR (r := 14) (a := 15) (ad := 1497) (pc' := 325) rfl rfl cd_Mo_takeSealed rfl rfl rfl rfl rfl ?_
      refine m_ild (pc' := 327) cd_Mo_takeSealed rfl (Or.inl ⟨rfl, rfl⟩) l4 rfl ?_
      refine m_k1 (v := 0) (pc' := 328) cd_Mo_takeSealed rfl (by decide) rfl ?_
      refine m_si (pc' := 331) cd_Mo_takeSealed rfl rfl rfl rfl rfl cd_Mo_sessionAt rfl (Nat.le_of_ble_eq_true rfl) (m_sessionAt (k := 0) ?_)
      show mg _ _ _ 331 _ [.int (nI (30 + (2 * p + 0) * 38)), .ref 1497] _ _
      refine m_ild (pc' := 333) cd_Mo_takeSealed rfl (Or.inl ⟨rfl, rfl⟩) l9 rfl ?_
      refine m_pure (pc' := 334) (st' := [.int ((nI (30 + (2 * p + 0) * 38)) + (nI k)), .ref 1497]) cd_Mo_takeSealed rfl rfl (fun _ _ => rfl) ?_
      refine m_eq (show ((nI (30 + (2 * p + 0) * 38)) + (nI k) : Int32) = nI ((30 + (2 * p + 0) * 38) + k) from nI_add (30 + (2 * p + 0) * 38) k) ?_
      refine m_ald (pc' := 335) cd_Mo_takeSealed rfl (Or.inr ⟨_, rfl, rfl, rfl⟩) l0 rfl rfl ?_
      refine m_fR (r := 42) (a := 43) (ad := 1525) (pc' := 338) rfl rfl cd_Mo_takeSealed rfl rfl rfl rfl rfl ?_
      refine m_ild (pc' := 340) cd_Mo_takeSealed rfl (Or.inl ⟨rfl, rfl⟩) l9 rfl ?_
      refine m_aI (r := 42) (a := 43) (g := (A 43)) (x := ((A 43) k)) (pc' := 341) rfl rfl cd_Mo_takeSealed rfl rfl rfl (vp_in_nI (by omega) (by decide)) (congrArg (A 43) (nI_clamp (by omega))) ?_
      refine m_aS (r := 14) (a := 15) (g := (cpW (A 15) (A 43) (30 + (2 * p + 0) * 38) k)) (p := ((30 + (2 * p + 0) * 38) + k)) (pc' := 342) rfl rfl cd_Mo_takeSealed rfl rfl rfl (vp_in_nI (by omega) (by decide)) (nI_clamp (by omega)) ?_
      refine m_inc (y := nI (k + 1)) (pc' := 345) cd_Mo_takeSealed rfl l9 (by decide) (nI_add k 1) rfl (fun lv el => ?_)
      have l0 := tm_lk el l0 rfl (by decide)
      have l4 := tm_lk el l4 rfl (by decide)
      have l8 := tm_lk el l8 rfl (by decide)
      have l9 : lv.lookup 9 = some (.int (nI (k + 1))) := tm_lks el
      clear el
      refine m_pure (pc' := 314) (st' := []) cd_Mo_takeSealed rfl rfl (fun _ _ => rfl) ?_
      rw [fset_fset, cpW_s]
      exact ih (k + 1) (by omega) lv l0 l4 l8 l9
set_option maxRecDepth 100000 in
theorem l_mtsW {sc : tm_X} {d : Nat} {f : Nat → Int32} {A : Nat → Nat → Int32} {T : List Tm} {DL : List (Int32 × Int32)} {G Kw : Tm → Prop} {id : Tm} {K0 K1 : PK} {on : List (Tm × Int32)} {lnu : Int32} {se : Nat → List SS} {me : Nat → MM} {p bi : Nat} {B : Tm} {X0 S1 : SS} {rest : List SS} {Q : Int32 → MS → Prop} (hM : MT f A T DL G Kw) (hp : p < 6) (hB : T[bi]? = some B) (hgd : Tgood 4 B = true ∨ Tgood 5 B = true) (hD : qDv (A 15) T (id, K0, K1, on, lnu, fset se p (X0 :: rest), me)) (hS : qSe (A 43) T 0 S1) (k1 : Tgood 4 B = true → ∀ A1, MT f (mjQA A1 A) T DL G Kw → A1 1 = A 1 → qDv (A1 15) T (id, K0, K1, on, lnu, (fset se p (ss_nb S1 :: rest)), me) → Q 1 (f, mjQA A1 A)) (k2 : Tgood 4 B = false → ∀ g, g < 4 → nu B 0 = nI g → ∀ A1, MT f (mjQA A1 A) T DL G Kw → A1 1 = A 1 → qDv (A1 15) T (id, K0, K1, on, lnu, (fset se p (ss_nb S1 :: rest)), fset me g (mm_acc (me g) p B S1.2.2.2.2.2.2.2.2.2.2)) → Q 2 (f, mjQA A1 A)) : ∀ lv : tm_L, lv.lookup 0 = some (.ref 1482) → lv.lookup 4 = some (.int (nI p)) → lv.lookup 8 = some (.int (nI bi)) → mg sc (d + 7) 232 287 lv [] (f, A) (fun r s' => ∃ v, r = some (.int v) ∧ Q v s') := by
  intro lv l0 l4 l8
  have hTl := MT_len hM
  have hbi := tv_lt hB
  have kB : kd B = 7 := hgd.elim good_k7 good_k7
  have hmk := MT_mk hM hB (Or.inr (Or.inr kB))
  refine m_ald (pc' := 288) cd_Mo_takeSealed rfl (Or.inr ⟨_, rfl, rfl, rfl⟩) l0 rfl rfl ?_
  refine m_fR (r := 42) (a := 43) (ad := 1525) (pc' := 291) rfl rfl cd_Mo_takeSealed rfl rfl rfl rfl rfl ?_
  refine m_k2 (v := 9) (pc' := 293) cd_Mo_takeSealed rfl (by decide) rfl ?_
  refine m_k1 (v := 0) (pc' := 294) cd_Mo_takeSealed rfl (by decide) rfl ?_
  refine m_aS (r := 42) (a := 43) (g := (A 43)) (p := 9) (pc' := 295) rfl rfl cd_Mo_takeSealed rfl rfl rfl (vp_in_nI (n := 9) (by decide) (by decide)) (show (9 : Int32).toNatClampNeg = 9 by decide) ?_
  refine m_ald (pc' := 296) cd_Mo_takeSealed rfl (Or.inr ⟨_, rfl, rfl, rfl⟩) l0 rfl rfl ?_
  refine m_fR (r := 42) (a := 43) (ad := 1525) (pc' := 299) rfl rfl cd_Mo_takeSealed rfl rfl rfl rfl rfl ?_
  refine m_k2 (v := 10) (pc' := 301) cd_Mo_takeSealed rfl (by decide) rfl ?_
  refine m_k1 (v := 0) (pc' := 302) cd_Mo_takeSealed rfl (by decide) rfl ?_
  refine m_aS (r := 42) (a := 43) (g := (upd (A 43) 9 0)) (p := 10) (pc' := 303) rfl rfl cd_Mo_takeSealed rfl rfl rfl (vp_in_nI (n := 10) (by decide) (by decide)) (show (10 : Int32).toNatClampNeg = 10 by decide) ?_
  rw [fset_fset]
  refine m_ald (pc' := 304) cd_Mo_takeSealed rfl (Or.inr ⟨_, rfl, rfl, rfl⟩) l0 rfl rfl ?_
  refine m_fR (r := 42) (a := 43) (ad := 1525) (pc' := 307) rfl rfl cd_Mo_takeSealed rfl rfl rfl rfl rfl ?_
  refine m_k2 (v := 11) (pc' := 309) cd_Mo_takeSealed rfl (by decide) rfl ?_
  refine m_k1 (v := 0) (pc' := 310) cd_Mo_takeSealed rfl (by decide) rfl ?_
  refine m_aS (r := 42) (a := 43) (g := (upd (upd (A 43) 9 0) 10 0)) (p := 11) (pc' := 311) rfl rfl cd_Mo_takeSealed rfl rfl rfl (vp_in_nI (n := 11) (by decide) (by decide)) (show (11 : Int32).toNatClampNeg = 11 by decide) ?_
  rw [fset_fset]
  refine m_k1 (v := 0) (pc' := 312) cd_Mo_takeSealed rfl (by decide) rfl ?_
  refine m_ist (pc' := 314) cd_Mo_takeSealed rfl (Or.inl ⟨rfl, rfl⟩) (by decide) rfl (fun lv el => ?_)
  have l0 := tm_lk el l0 rfl (by decide)
  have l4 := tm_lk el l4 rfl (by decide)
  have l8 := tm_lk el l8 rfl (by decide)
  have l9 : lv.lookup 9 = some (.int 0) := tm_lks el
  clear el
  have hnb : qSe (upd (upd (upd (A 43) 9 0) 10 0) 11 0) T 0 (ss_nb S1) := qSe_nb hS (fun k q1 q2 q3 q4 => by rw [upd_ne (by omega), upd_ne (by omega), upd_ne (by omega)]) (by rw [upd_ne (by omega), upd_ne (by omega), upd_same])
  have h37 : (upd (upd (upd (A 43) 9 0) 10 0) 11 0) 37 = bz S1.2.2.2.2.2.2.2.2.2.2 := by rw [upd_ne (by omega), upd_ne (by omega), upd_ne (by omega)]; exact qSe_on hS
  have hfin : qDv (cpW (A 15) (upd (upd (upd (A 43) 9 0) 10 0) 11 0) (30 + (2 * p + 0) * 38) 38) T (id, K0, K1, on, lnu, (fset se p (ss_nb S1 :: rest)), me) := qDv_first hp hD (qSe_c (List.prefix_refl T) (fun k hk => by rw [cpW_in hk, Nat.zero_add]) hnb) (fun k hk => cpW_out hk)
  have ks : mg sc (d + 7) 232 314 lv [] (f, fset (fset A 43 (upd (upd (upd (A 43) 9 0) 10 0) 11 0)) 15 (cpW (A 15) (upd (upd (upd (A 43) 9 0) 10 0) 11 0) (30 + (2 * p + 0) * 38) 0)) (fun r s' => ∃ v, r = some (.int v) ∧ Q v s') := by
    refine l_mtsC (A := (fset A 43 (upd (upd (upd (A 43) 9 0) 10 0) 11 0))) hp (fun lv l0 l4 l8 => ?_) 38 0 rfl lv l0 l4 l8 l9
    refine m_ald (pc' := 349) cd_Mo_takeSealed rfl (Or.inr ⟨_, rfl, rfl, rfl⟩) l0 rfl rfl ?_
    refine m_fR (r := 1) (a := 2) (ad := 1484) (pc' := 352) rfl rfl cd_Mo_takeSealed rfl rfl rfl rfl rfl ?_
    refine m_ild (pc' := 354) cd_Mo_takeSealed rfl (Or.inl ⟨rfl, rfl⟩) l8 rfl ?_
    refine m_aI (r := 1) (a := 2) (g := (A 2)) (x := (mk B)) (pc' := 355) rfl rfl cd_Mo_takeSealed rfl rfl rfl (vp_in_nI (by omega) (by decide)) ((congrArg (A 2) (nI_clamp (by omega))).trans hmk) ?_
    refine m_k1 (v := 4) (pc' := 356) cd_Mo_takeSealed rfl (by decide) rfl ?_
    refine m_if2 (t := 363) (pc' := 359) cd_Mo_takeSealed rfl rfl rfl (fun c356 => ?_) (fun c356 => ?_)
    · have c356 : ¬ (mk B) = 4 := c356
      have g4 : Tgood 4 B = false := by
        cases q : Tgood 4 B with
        | true => exact absurd (good_mk q) c356
        | false => rfl
      have g5 : Tgood 5 B = true := hgd.resolve_left (fun q => Bool.noConfusion (g4.symm.trans q))
      obtain ⟨g, hg, eg⟩ := good5_g g5
      rcases hme : me g with ⟨ve, ma, go, ge, ch, si, ix, ga, sl, gv⟩
      have hG := hfin.2.2.2 g hg
      rw [hme] at hG
      refine m_ald (pc' := 364) cd_Mo_takeSealed rfl (Or.inr ⟨_, rfl, rfl, rfl⟩) l0 rfl rfl ?_
      refine m_ild (pc' := 366) cd_Mo_takeSealed rfl (Or.inl ⟨rfl, rfl⟩) l4 rfl ?_
      refine m_ild (pc' := 368) cd_Mo_takeSealed rfl (Or.inl ⟨rfl, rfl⟩) l8 rfl ?_
      refine m_ci (pc' := 371) cd_Mo_takeSealed rfl rfl rfl rfl rfl cd_Mo_gift rfl (Nat.le_of_ble_eq_true rfl) (m_gift (o := S1.2.2.2.2.2.2.2.2.2.2) (by exact MT_i hM rfl rfl rfl rfl rfl rfl rfl rfl rfl rfl) hp hg hB kB eg hG h37 (fun h hm hf => ?_))
      show mg _ _ _ 371 _ [.int 2] _ _
      have hfin2 := qDv_grp hg hfin (List.prefix_refl T) hm (fun j hj => hf j hj)
      rw [← hme] at hfin2
      exact m_reti cd_Mo_takeSealed rfl ⟨_, rfl, (mQ_end (Q := Q 2) (f := f) (A := A) (fun _ _ => rfl) (fun j q => by have e0 : ¬ (1 ≤ j ∧ j ≤ 8) := (by omega); have e15 : ¬ j = 15 := (by omega); have e43 : ¬ j = 43 := (by omega); simp only [fset, e15, e43, if_false]) (by rw [mjKf_of (fun _ _ => rfl)]; exact k2 g4 g hg eg _ (by exact MT_i hM rfl rfl rfl rfl rfl rfl rfl rfl rfl rfl) rfl hfin2))⟩
    · have c356 : (mk B) = 4 := Classical.not_not.mp c356
      have g4 : Tgood 4 B = true := hgd.elim (fun z => z) (fun q => by have e := good_mk q; rw [e] at c356; exact absurd c356 (by decide))
      refine m_k1 (v := 1) (pc' := 360) cd_Mo_takeSealed rfl (by decide) rfl ?_
      refine m_pure (pc' := 371) (st' := [.int 1]) cd_Mo_takeSealed rfl rfl (fun _ _ => rfl) ?_
      exact m_reti cd_Mo_takeSealed rfl ⟨_, rfl, (mQ_end (Q := Q 1) (f := f) (A := A) (fun _ _ => rfl) (fun j q => by have e0 : ¬ (1 ≤ j ∧ j ≤ 8) := (by omega); have e15 : ¬ j = 15 := (by omega); have e43 : ¬ j = 43 := (by omega); simp only [fset, e15, e43, if_false]) (by rw [mjKf_of (fun _ _ => rfl)]; exact k1 g4 _ (by exact MT_i hM rfl rfl rfl rfl rfl rfl rfl rfl rfl rfl) rfl hfin))⟩
  rw [cpW_0] at ks
  have k9 : mg sc (d + 7) 232 314 lv [] (f, fset (fset A 43 (upd (upd (upd (A 43) 9 0) 10 0) 11 0)) 15 ((fset A 43 (upd (upd (upd (A 43) 9 0) 10 0) 11 0)) 15)) (fun r s' => ∃ v, r = some (.int v) ∧ Q v s') := ks
  rw [fset_id] at k9
  exact k9
