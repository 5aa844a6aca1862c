/-! Knowledge: what one call does -/
/-- Knowledge at k, of the Terms at a: cells kc, learned kl; its room; learned, spread, linked -/
def kn_ok (B : bm_H) (k a kc kl rk lc sp ln : Nat) : Prop := (k < bm_n B ∧ bm_K B k = 3) ∧ (bm_FR B 3 0 k = some a ∧ bm_FR B 3 1 k = some kc ∧ bm_FR B 3 2 k = some kl) ∧ ((kc < bm_n B ∧ bm_K B kc = 13 ∧ bm_AL B kc = rk * 6) ∧ (kl < bm_n B ∧ bm_K B kl = 13 ∧ bm_AL B kl = rk)) ∧ (bm_FI B 3 3 k = nI lc ∧ bm_FI B 3 4 k = nI sp ∧ bm_FI B 3 5 k = nI ln) ∧ (1 ≤ ln ∧ ln ≤ rk ∧ rk ≤ 65536 ∧ lc ≤ rk) ∧ kc ≠ kl
theorem kn_ix {B : bm_H} {k a kc kl rk lc sp ln u i : Nat} (hN : kn_ok B k a kc kl rk lc sp ln) (hu : u < rk) (hi : i < 6) : vp_in (nI u * 6 + nI i) (bm_AL B kc) ∧ (nI u * 6 + nI i).toNatClampNeg = u * 6 + i := by
  obtain ⟨-, -, ⟨⟨-, -, hL⟩, -⟩, -, ⟨-, -, hr, -⟩, -⟩ := hN
  have e : nI u * 6 + nI i = nI (u * 6 + i) := by rw [show (6 : Int32) = nI 6 from rfl, pk_mul, nI_add]
  rw [e, hL, nI_clamp (by omega)]
  exact ⟨vp_in_nI (by omega) (by omega), rfl⟩
theorem kn_ix2 {B : bm_H} {k a kc kl rk lc sp ln u i j : Nat} (hN : kn_ok B k a kc kl rk lc sp ln) (hu : u < rk) (hi : i + j < 6) : vp_in (nI u * 6 + nI j + nI i) (bm_AL B kc) ∧ (nI u * 6 + nI j + nI i).toNatClampNeg = u * 6 + (j + i) := by
  obtain ⟨-, -, ⟨⟨-, -, hL⟩, -⟩, -, ⟨-, -, hr, -⟩, -⟩ := hN
  have e : nI u * 6 + nI j + nI i = nI (u * 6 + (j + i)) := by rw [show (6 : Int32) = nI 6 from rfl, pk_mul, nI_add, nI_add, Nat.add_assoc]
  rw [e, hL, nI_clamp (by omega)]
  exact ⟨vp_in_nI (by omega) (by omega), rfl⟩
theorem kn_ix0 {B : bm_H} {k a kc kl rk lc sp ln : Nat} (hN : kn_ok B k a kc kl rk lc sp ln) {t : Int32} {n : Nat} (hn : n ≤ rk) (h0 : ¬ t ≤ 0) (h1 : ¬ nI n ≤ t) : vp_in (t * 6 + 0) (bm_AL B kc) ∧ (t * 6 + 0).toNatClampNeg = t.toNatClampNeg * 6 := by
  have hr : rk ≤ 65536 := hN.2.2.2.2.1.2.2.1
  obtain ⟨u, u0, u1, rfl⟩ := i32_pos h0 h1 (by omega)
  have := kn_ix hN (u := u) (i := 0) (by omega) (by decide)
  rw [nI_clamp (show u < 2 ^ 31 by omega)]
  exact this
/-- whether a term is known -/
def kn_is (B : bm_H) (kc ln : Nat) (t : Int32) : Bool := decide (t = 0) || (!decide (t ≤ 0) && !decide (nI ln ≤ t) && !decide (bm_AI B kc (t.toNatClampNeg * 6) = 0))
def kn_can (B : bm_H) (ca sz kc ln : Nat) (t : Int32) : Bool := if te_get B ca sz t 0 = 3 then (kn_is B kc ln (te_gt2 B ca sz t 0 6) && kn_is B kc ln (te_gt2 B ca sz t 3 6)) || (kn_is B kc ln (te_gt2 B ca sz t 1 6) && kn_is B kc ln (te_gt2 B ca sz t 2 6)) else !decide (te_get B ca sz t 0 = 1) && kn_is B kc ln (te_gt2 B ca sz t 0 6) && kn_is B kc ln (te_gt2 B ca sz t 1 6) && kn_is B kc ln (te_gt2 B ca sz t 2 6) && kn_is B kc ln (te_gt2 B ca sz t 3 6)
/-- a term u becomes known -/
def kn_add (B : bm_H) (k kc kl u lc : Nat) : bm_H := bm_putI (bm_setI (bm_setI B kc (u * 6) 1) kl lc (nI u)) 3 3 k (nI (lc + 1))
/-- u's part i is v: u is one more use of v -/
def kn_lnk (B : bm_H) (kc u i v : Nat) : bm_H := bm_setI (bm_setI B kc (u * 6 + (2 + i)) (bm_AI B kc (v * 6 + 1))) kc (v * 6 + 1) (nI (u * 4 + i))
set_option maxRecDepth 100000 in
theorem k_Kn_isKnown {sc : tm_X} {d : Nat} {B : bm_H} {a k kc kl rk lc sp ln : Nat} {t : Int32} {Q : Int32 → bm_H → Prop} (hN : kn_ok B k a kc kl rk lc sp ln) (kk : Q (bz (kn_is B kc ln t)) B) : bm_Gi sc d 25 [.ref k, .int t] B Q := by
  show bm_G sc d 25 0 [(0, .ref k), (1, .int t)] [] B _
  generalize elv : ([(0, .ref k), (1, .int t)] : tm_L) = lv
  have l0 : lv.lookup 0 = some (.ref k) := by rw [← elv]; rfl
  have l1 : lv.lookup 1 = some (.int t) := by rw [← elv]; rfl
  clear elv
  refine g_ild (pc' := 1) cd_Kn_isKnown rfl (Or.inr ⟨_, rfl, rfl, rfl⟩) l1 rfl ?_
  refine g_if1 (t := 30) (pc' := 4) cd_Kn_isKnown rfl rfl rfl (fun c1 => ?_) (fun c1 => ?_)
  · have c1 : t = 0 := c1
    refine g_k1 (v := 1) (pc' := 31) cd_Kn_isKnown rfl (by decide) rfl ?_
    refine g_pure (pc' := 35) (st' := [.int 1]) cd_Kn_isKnown rfl rfl (fun _ _ => rfl) ?_
    exact g_retz cd_Kn_isKnown rfl (Or.inr rfl) ⟨_, rfl, bz_fin kk (by simp [kn_is, bz, c1])⟩
  · have c1 : ¬ t = 0 := c1
    refine g_ild (pc' := 5) cd_Kn_isKnown rfl (Or.inr ⟨_, rfl, rfl, rfl⟩) l1 rfl ?_
    refine g_if1 (t := 34) (pc' := 8) cd_Kn_isKnown rfl rfl rfl (fun c5 => ?_) (fun c5 => ?_)
    · have c5 : t ≤ 0 := c5
      refine g_k1 (v := 0) (pc' := 35) cd_Kn_isKnown rfl (by decide) rfl ?_
      exact g_retz cd_Kn_isKnown rfl (Or.inl rfl) ⟨_, rfl, bz_fin kk (by simp [kn_is, bz, c1, c5])⟩
    · have c5 : ¬ t ≤ 0 := c5
      refine g_ild (pc' := 9) cd_Kn_isKnown rfl (Or.inr ⟨_, rfl, rfl, rfl⟩) l1 rfl ?_
      refine g_ald (pc' := 10) cd_Kn_isKnown rfl (Or.inr ⟨_, rfl, rfl, rfl⟩) l0 rfl rfl ?_
      refine g_fI (c := 3) (k := 5) (x := (nI ln)) (pc' := 13) cd_Kn_isKnown rfl rfl rfl rfl rfl (by decide) hN.1.1 hN.1.2 hN.2.2.2.1.2.2 ?_
      refine g_if2 (t := 34) (pc' := 16) cd_Kn_isKnown rfl rfl rfl (fun c13 => ?_) (fun c13 => ?_)
      · have c13 : (nI ln) ≤ t := c13
        refine g_k1 (v := 0) (pc' := 35) cd_Kn_isKnown rfl (by decide) rfl ?_
        exact g_retz cd_Kn_isKnown rfl (Or.inl rfl) ⟨_, rfl, bz_fin kk (by simp [kn_is, bz, c1, c5, c13])⟩
      · have c13 : ¬ (nI ln) ≤ t := c13
        refine g_ald (pc' := 17) cd_Kn_isKnown rfl (Or.inr ⟨_, rfl, rfl, rfl⟩) l0 rfl rfl ?_
        refine g_fR (c := 3) (k := 1) (x := kc) (pc' := 20) cd_Kn_isKnown rfl rfl rfl rfl rfl (by decide) hN.1.1 hN.1.2 hN.2.1.2.1 ?_
        refine g_ild (pc' := 21) cd_Kn_isKnown rfl (Or.inr ⟨_, rfl, rfl, rfl⟩) l1 rfl ?_
        refine g_k2 (v := 6) (pc' := 23) cd_Kn_isKnown rfl (by decide) rfl ?_
        refine g_pure (pc' := 24) (st' := [.int (t * 6), .ref kc]) cd_Kn_isKnown rfl rfl (fun _ _ => rfl) ?_
        refine g_k1 (v := 0) (pc' := 25) cd_Kn_isKnown rfl (by decide) rfl ?_
        refine g_pure (pc' := 26) (st' := [.int ((t * 6) + 0), .ref kc]) cd_Kn_isKnown rfl rfl (fun _ _ => rfl) ?_
        refine g_aI (x := (bm_AI B kc (t.toNatClampNeg * 6))) (pc' := 27) cd_Kn_isKnown rfl rfl hN.2.2.1.1.1 hN.2.2.1.1.2.1 (kn_ix0 hN hN.2.2.2.2.1.2.1 c5 c13).1 (congrArg (bm_AI B kc) (kn_ix0 hN hN.2.2.2.2.1.2.1 c5 c13).2) ?_
        refine g_if1 (t := 34) (pc' := 30) cd_Kn_isKnown rfl rfl rfl (fun c27 => ?_) (fun c27 => ?_)
        · have c27 : (bm_AI B kc (t.toNatClampNeg * 6)) = 0 := c27
          refine g_k1 (v := 0) (pc' := 35) cd_Kn_isKnown rfl (by decide) rfl ?_
          exact g_retz cd_Kn_isKnown rfl (Or.inl rfl) ⟨_, rfl, bz_fin kk (by simp [kn_is, bz, c1, c5, c13, c27])⟩
        · have c27 : ¬ (bm_AI B kc (t.toNatClampNeg * 6)) = 0 := c27
          refine g_k1 (v := 1) (pc' := 31) cd_Kn_isKnown rfl (by decide) rfl ?_
          refine g_pure (pc' := 35) (st' := [.int 1]) cd_Kn_isKnown rfl rfl (fun _ _ => rfl) ?_
          exact g_retz cd_Kn_isKnown rfl (Or.inr rfl) ⟨_, rfl, bz_fin kk (by simp [kn_is, bz, c1, c5, c13, c27])⟩
set_option maxRecDepth 100000 in
theorem k_Kn_learn {sc : tm_X} {d : Nat} {B : bm_H} {a ca ba da rm sz dr k kc kl rk lc sp ln : Nat} {t : Int32} {Q : bm_H → Prop} (hT : te_ok B a ca ba da rm sz dr) (hN : kn_ok B k a kc kl rk lc sp ln) (hsz : sz ≤ rk) (hlc : lc < rk) (kkN : t ≤ 0 ∨ nI sz ≤ t → Q B) (kkO : ∀ u, t = nI u → 0 < u → u < sz → ¬ bm_AI B kc (u * 6) = 0 → Q B) (kkA : ∀ u, t = nI u → 0 < u → u < sz → bm_AI B kc (u * 6) = 0 → Q (kn_add B k kc kl u lc)) : bm_Gv sc d 26 [.ref k, .int t] B Q := by
  have hrk : rk ≤ 65536 := hN.2.2.2.2.1.2.2.1
  show bm_G sc d 26 0 [(0, .ref k), (1, .int t)] [] B _
  generalize elv : ([(0, .ref k), (1, .int t)] : tm_L) = lv
  have l0 : lv.lookup 0 = some (.ref k) := by rw [← elv]; rfl
  have l1 : lv.lookup 1 = some (.int t) := by rw [← elv]; rfl
  clear elv
  refine g_ild (pc' := 1) cd_Kn_learn rfl (Or.inr ⟨_, rfl, rfl, rfl⟩) l1 rfl ?_
  refine g_if1 (t := 27) (pc' := 4) cd_Kn_learn rfl rfl rfl (fun c1 => ?_) (fun c1 => ?_)
  · have c1 : t ≤ 0 := c1
    exact g_retv cd_Kn_learn rfl ⟨rfl, kkN (Or.inl c1)⟩
  · have c1 : ¬ t ≤ 0 := c1
    refine g_ild (pc' := 5) cd_Kn_learn rfl (Or.inr ⟨_, rfl, rfl, rfl⟩) l1 rfl ?_
    refine g_ald (pc' := 6) cd_Kn_learn rfl (Or.inr ⟨_, rfl, rfl, rfl⟩) l0 rfl rfl ?_
    refine g_fR (c := 3) (k := 0) (x := a) (pc' := 9) cd_Kn_learn rfl rfl rfl rfl rfl (by decide) hN.1.1 hN.1.2 hN.2.1.1 ?_
    refine g_fI (c := 9) (k := 4) (x := (nI sz)) (pc' := 12) cd_Kn_learn rfl rfl rfl rfl rfl (by decide) hT.1.1 hT.1.2 hT.2.2.2.1.2.1 ?_
    refine g_if2 (t := 27) (pc' := 15) cd_Kn_learn rfl rfl rfl (fun c12 => ?_) (fun c12 => ?_)
    · have c12 : (nI sz) ≤ t := c12
      exact g_retv cd_Kn_learn rfl ⟨rfl, kkN (Or.inr c12)⟩
    · have c12 : ¬ (nI sz) ≤ t := c12
      refine g_ald (pc' := 16) cd_Kn_learn rfl (Or.inr ⟨_, rfl, rfl, rfl⟩) l0 rfl rfl ?_
      refine g_fI (c := 3) (k := 3) (x := (nI lc)) (pc' := 19) cd_Kn_learn rfl rfl rfl rfl rfl (by decide) hN.1.1 hN.1.2 hN.2.2.2.1.1 ?_
      refine g_ald (pc' := 20) cd_Kn_learn rfl (Or.inr ⟨_, rfl, rfl, rfl⟩) l0 rfl rfl ?_
      refine g_fR (c := 3) (k := 2) (x := kl) (pc' := 23) cd_Kn_learn rfl rfl rfl rfl rfl (by decide) hN.1.1 hN.1.2 hN.2.1.2.2 ?_
      refine g_al (x := (nI rk)) (pc' := 24) cd_Kn_learn rfl rfl hN.2.2.1.2.1 (Nat.le_of_eq (Eq.symm hN.2.2.1.2.2.1)) (by rw [show bm_K B kl = 13 from hN.2.2.1.2.2.1]; decide) (by rw [show bm_AL B kl = rk from hN.2.2.1.2.2.2]; rfl) ?_
      refine g_if2 (t := 28) (pc' := 27) cd_Kn_learn rfl rfl rfl (fun c24 => ?_) (fun c24 => ?_)
      · have c24 : (nI lc) < (nI rk) := c24
        refine g_ald (pc' := 29) cd_Kn_learn rfl (Or.inr ⟨_, rfl, rfl, rfl⟩) l0 rfl rfl ?_
        refine g_fR (c := 3) (k := 1) (x := kc) (pc' := 32) cd_Kn_learn rfl rfl rfl rfl rfl (by decide) hN.1.1 hN.1.2 hN.2.1.2.1 ?_
        refine g_ild (pc' := 33) cd_Kn_learn rfl (Or.inr ⟨_, rfl, rfl, rfl⟩) l1 rfl ?_
        refine g_k2 (v := 6) (pc' := 35) cd_Kn_learn rfl (by decide) rfl ?_
        refine g_pure (pc' := 36) (st' := [.int (t * 6), .ref kc]) cd_Kn_learn rfl rfl (fun _ _ => rfl) ?_
        refine g_k1 (v := 0) (pc' := 37) cd_Kn_learn rfl (by decide) rfl ?_
        refine g_pure (pc' := 38) (st' := [.int ((t * 6) + 0), .ref kc]) cd_Kn_learn rfl rfl (fun _ _ => rfl) ?_
        refine g_aI (x := (bm_AI B kc (t.toNatClampNeg * 6))) (pc' := 39) cd_Kn_learn rfl rfl hN.2.2.1.1.1 hN.2.2.1.1.2.1 (kn_ix0 hN hsz c1 c12).1 (congrArg (bm_AI B kc) (kn_ix0 hN hsz c1 c12).2) ?_
        refine g_if1 (t := 74) (pc' := 42) cd_Kn_learn rfl rfl rfl (fun c39 => ?_) (fun c39 => ?_)
        · have c39 : ¬ (bm_AI B kc (t.toNatClampNeg * 6)) = 0 := c39
          exact g_retv cd_Kn_learn rfl ⟨rfl, (by obtain ⟨u, u0, u1, rfl⟩ := i32_pos c1 c12 (by omega); rw [nI_clamp (show u < 2 ^ 31 by omega)] at c39; exact kkO u rfl u0 u1 c39)⟩
        · have c39 : ¬ (¬ (bm_AI B kc (t.toNatClampNeg * 6)) = 0) := c39
          refine g_ald (pc' := 43) cd_Kn_learn rfl (Or.inr ⟨_, rfl, rfl, rfl⟩) l0 rfl rfl ?_
          refine g_fR (c := 3) (k := 1) (x := kc) (pc' := 46) cd_Kn_learn rfl rfl rfl rfl rfl (by decide) hN.1.1 hN.1.2 hN.2.1.2.1 ?_
          refine g_ild (pc' := 47) cd_Kn_learn rfl (Or.inr ⟨_, rfl, rfl, rfl⟩) l1 rfl ?_
          refine g_k2 (v := 6) (pc' := 49) cd_Kn_learn rfl (by decide) rfl ?_
          refine g_pure (pc' := 50) (st' := [.int (t * 6), .ref kc]) cd_Kn_learn rfl rfl (fun _ _ => rfl) ?_
          refine g_k1 (v := 0) (pc' := 51) cd_Kn_learn rfl (by decide) rfl ?_
          refine g_pure (pc' := 52) (st' := [.int ((t * 6) + 0), .ref kc]) cd_Kn_learn rfl rfl (fun _ _ => rfl) ?_
          refine g_k1 (v := 1) (pc' := 53) cd_Kn_learn rfl (by decide) rfl ?_
          refine g_iast (pc' := 54) cd_Kn_learn rfl rfl hN.2.2.1.1.1 hN.2.2.1.1.2.1 (kn_ix0 hN hsz c1 c12).1 ?_
          rw [(kn_ix0 hN hsz c1 c12).2]
          refine g_ald (pc' := 55) cd_Kn_learn rfl (Or.inr ⟨_, rfl, rfl, rfl⟩) l0 rfl rfl ?_
          refine g_fR (c := 3) (k := 2) (x := kl) (pc' := 58) cd_Kn_learn rfl rfl rfl rfl rfl (by decide) hN.1.1 hN.1.2 hN.2.1.2.2 ?_
          refine g_ald (pc' := 59) cd_Kn_learn rfl (Or.inr ⟨_, rfl, rfl, rfl⟩) l0 rfl rfl ?_
          refine g_fI (c := 3) (k := 3) (x := (nI lc)) (pc' := 62) cd_Kn_learn rfl rfl rfl rfl rfl (by decide) hN.1.1 hN.1.2 hN.2.2.2.1.1 ?_
          refine g_ild (pc' := 63) cd_Kn_learn rfl (Or.inr ⟨_, rfl, rfl, rfl⟩) l1 rfl ?_
          refine g_iast (pc' := 64) cd_Kn_learn rfl rfl hN.2.2.1.2.1 hN.2.2.1.2.2.1 (by show vp_in _ (bm_AL B kl); rw [show bm_AL B kl = rk from hN.2.2.1.2.2.2]; exact vp_in_nI hlc (by omega)) ?_
          rw [nI_clamp (show lc < 2 ^ 31 by omega)]
          refine g_ald (pc' := 65) cd_Kn_learn rfl (Or.inr ⟨_, rfl, rfl, rfl⟩) l0 rfl rfl ?_
          refine g_pure (pc' := 66) (st' := [.ref k, .ref k]) cd_Kn_learn rfl rfl (fun _ _ => rfl) ?_
          refine g_fI (c := 3) (k := 3) (x := (nI lc)) (pc' := 69) cd_Kn_learn rfl rfl rfl rfl rfl (by decide) hN.1.1 hN.1.2 hN.2.2.2.1.1 ?_
          refine g_k1 (v := 1) (pc' := 70) cd_Kn_learn rfl (by decide) rfl ?_
          refine g_pure (pc' := 71) (st' := [.int ((nI lc) + 1), .ref k]) cd_Kn_learn rfl rfl (fun _ _ => rfl) ?_
          rw [nI_1 lc]
          refine g_putI (c := 3) (k := 3) (pc' := 74) cd_Kn_learn rfl rfl rfl rfl (by simp [tm_okV, narrow, fits]) (Or.inl rfl) rfl (by decide) hN.1.1 hN.1.2 ?_
          exact g_retv cd_Kn_learn rfl ⟨rfl, (by obtain ⟨u, u0, u1, rfl⟩ := i32_pos c1 c12 (by omega); rw [nI_clamp (show u < 2 ^ 31 by omega)] at c39 ⊢; exact kkA u rfl u0 u1 (Classical.not_not.mp c39))⟩
      · have c24 : ¬ (nI lc) < (nI rk) := c24
        exact absurd (nI_lt hlc (by omega)) c24
set_option maxRecDepth 100000 in
theorem k_Kn_canBeMade {sc : tm_X} {d : Nat} {B : bm_H} {a ca ba da rm sz dr k kc kl rk lc sp ln : Nat} {t : Int32} {Q : Int32 → bm_H → Prop} (hT : te_ok B a ca ba da rm sz dr) (hN : kn_ok B k a kc kl rk lc sp ln) (kk : Q (bz (kn_can B ca sz kc ln t)) B) : bm_Gi sc (d + 1) 24 [.ref k, .int t] B Q := by
  unfold kn_can at kk
  show bm_G sc (d + 1) 24 0 [(0, .ref k), (1, .int t)] [] B _
  generalize elv : ([(0, .ref k), (1, .int t)] : tm_L) = lv
  have l0 : lv.lookup 0 = some (.ref k) := by rw [← elv]; rfl
  have l1 : lv.lookup 1 = some (.int t) := by rw [← elv]; rfl
  clear elv
  refine g_ald (pc' := 1) cd_Kn_canBeMade rfl (Or.inr ⟨_, rfl, rfl, rfl⟩) l0 rfl rfl ?_
  refine g_ald (pc' := 2) cd_Kn_canBeMade rfl (Or.inr ⟨_, rfl, rfl, rfl⟩) l0 rfl rfl ?_
  refine g_fR (c := 3) (k := 0) (x := a) (pc' := 5) cd_Kn_canBeMade rfl rfl rfl rfl rfl (by decide) hN.1.1 hN.1.2 hN.2.1.1 ?_
  refine g_ild (pc' := 6) cd_Kn_canBeMade rfl (Or.inr ⟨_, rfl, rfl, rfl⟩) l1 rfl ?_
  refine g_k1 (v := 0) (pc' := 7) cd_Kn_canBeMade rfl (by decide) rfl ?_
  refine g_calli (pc' := 10) cd_Kn_canBeMade rfl rfl rfl rfl rfl (tm_invV rfl rfl cd_Te_partOf rfl (Nat.le_of_ble_eq_true rfl) (by decide) hT.1.1 hT.1.2) (k_Te_partOf hT ?_)
  show bm_G _ _ _ 10 _ [.int (te_gt2 B ca sz t 0 6), .ref k] B _
  refine g_calli (pc' := 13) cd_Kn_canBeMade rfl rfl rfl rfl rfl (tm_invV rfl rfl cd_Kn_isKnown rfl (Nat.le_of_ble_eq_true rfl) (by decide) hN.1.1 hN.1.2) (k_Kn_isKnown hN ?_)
  generalize hb0 : kn_is B kc ln (te_gt2 B ca sz t 0 6) = b0
  rw [hb0] at kk
  show bm_G _ _ _ 13 _ [.int (bz b0)] B _
  refine g_ist (pc' := 14) cd_Kn_canBeMade rfl (Or.inr ⟨_, rfl, rfl, rfl⟩) (by decide) rfl (fun lv el => ?_)
  have l0 := tm_lk el l0 rfl (by decide)
  have l1 := tm_lk el l1 rfl (by decide)
  have l2 : lv.lookup 2 = some (.int (bz b0)) := tm_lks el
  clear el
  refine g_ald (pc' := 15) cd_Kn_canBeMade rfl (Or.inr ⟨_, rfl, rfl, rfl⟩) l0 rfl rfl ?_
  refine g_ald (pc' := 16) cd_Kn_canBeMade rfl (Or.inr ⟨_, rfl, rfl, rfl⟩) l0 rfl rfl ?_
  refine g_fR (c := 3) (k := 0) (x := a) (pc' := 19) cd_Kn_canBeMade rfl rfl rfl rfl rfl (by decide) hN.1.1 hN.1.2 hN.2.1.1 ?_
  refine g_ild (pc' := 20) cd_Kn_canBeMade rfl (Or.inr ⟨_, rfl, rfl, rfl⟩) l1 rfl ?_
  refine g_k1 (v := 1) (pc' := 21) cd_Kn_canBeMade rfl (by decide) rfl ?_
  refine g_calli (pc' := 24) cd_Kn_canBeMade rfl rfl rfl rfl rfl (tm_invV rfl rfl cd_Te_partOf rfl (Nat.le_of_ble_eq_true rfl) (by decide) hT.1.1 hT.1.2) (k_Te_partOf hT ?_)
  show bm_G _ _ _ 24 _ [.int (te_gt2 B ca sz t 1 6), .ref k] B _
  refine g_calli (pc' := 27) cd_Kn_canBeMade rfl rfl rfl rfl rfl (tm_invV rfl rfl cd_Kn_isKnown rfl (Nat.le_of_ble_eq_true rfl) (by decide) hN.1.1 hN.1.2) (k_Kn_isKnown hN ?_)
  generalize hb1 : kn_is B kc ln (te_gt2 B ca sz t 1 6) = b1
  rw [hb1] at kk
  show bm_G _ _ _ 27 _ [.int (bz b1)] B _
  refine g_ist (pc' := 28) cd_Kn_canBeMade rfl (Or.inr ⟨_, rfl, rfl, rfl⟩) (by decide) rfl (fun lv el => ?_)
  have l0 := tm_lk el l0 rfl (by decide)
  have l1 := tm_lk el l1 rfl (by decide)
  have l2 := tm_lk el l2 rfl (by decide)
  have l3 : lv.lookup 3 = some (.int (bz b1)) := tm_lks el
  clear el
  refine g_ald (pc' := 29) cd_Kn_canBeMade rfl (Or.inr ⟨_, rfl, rfl, rfl⟩) l0 rfl rfl ?_
  refine g_ald (pc' := 30) cd_Kn_canBeMade rfl (Or.inr ⟨_, rfl, rfl, rfl⟩) l0 rfl rfl ?_
  refine g_fR (c := 3) (k := 0) (x := a) (pc' := 33) cd_Kn_canBeMade rfl rfl rfl rfl rfl (by decide) hN.1.1 hN.1.2 hN.2.1.1 ?_
  refine g_ild (pc' := 34) cd_Kn_canBeMade rfl (Or.inr ⟨_, rfl, rfl, rfl⟩) l1 rfl ?_
  refine g_k1 (v := 2) (pc' := 35) cd_Kn_canBeMade rfl (by decide) rfl ?_
  refine g_calli (pc' := 38) cd_Kn_canBeMade rfl rfl rfl rfl rfl (tm_invV rfl rfl cd_Te_partOf rfl (Nat.le_of_ble_eq_true rfl) (by decide) hT.1.1 hT.1.2) (k_Te_partOf hT ?_)
  show bm_G _ _ _ 38 _ [.int (te_gt2 B ca sz t 2 6), .ref k] B _
  refine g_calli (pc' := 41) cd_Kn_canBeMade rfl rfl rfl rfl rfl (tm_invV rfl rfl cd_Kn_isKnown rfl (Nat.le_of_ble_eq_true rfl) (by decide) hN.1.1 hN.1.2) (k_Kn_isKnown hN ?_)
  generalize hb2 : kn_is B kc ln (te_gt2 B ca sz t 2 6) = b2
  rw [hb2] at kk
  show bm_G _ _ _ 41 _ [.int (bz b2)] B _
  refine g_ist (pc' := 43) cd_Kn_canBeMade rfl (Or.inl ⟨rfl, rfl⟩) (by decide) rfl (fun lv el => ?_)
  have l0 := tm_lk el l0 rfl (by decide)
  have l1 := tm_lk el l1 rfl (by decide)
  have l2 := tm_lk el l2 rfl (by decide)
  have l3 := tm_lk el l3 rfl (by decide)
  have l4 : lv.lookup 4 = some (.int (bz b2)) := tm_lks el
  clear el
  refine g_ald (pc' := 44) cd_Kn_canBeMade rfl (Or.inr ⟨_, rfl, rfl, rfl⟩) l0 rfl rfl ?_
  refine g_ald (pc' := 45) cd_Kn_canBeMade rfl (Or.inr ⟨_, rfl, rfl, rfl⟩) l0 rfl rfl ?_
  refine g_fR (c := 3) (k := 0) (x := a) (pc' := 48) cd_Kn_canBeMade rfl rfl rfl rfl rfl (by decide) hN.1.1 hN.1.2 hN.2.1.1 ?_
  refine g_ild (pc' := 49) cd_Kn_canBeMade rfl (Or.inr ⟨_, rfl, rfl, rfl⟩) l1 rfl ?_
  refine g_k1 (v := 3) (pc' := 50) cd_Kn_canBeMade rfl (by decide) rfl ?_
  refine g_calli (pc' := 53) cd_Kn_canBeMade rfl rfl rfl rfl rfl (tm_invV rfl rfl cd_Te_partOf rfl (Nat.le_of_ble_eq_true rfl) (by decide) hT.1.1 hT.1.2) (k_Te_partOf hT ?_)
  show bm_G _ _ _ 53 _ [.int (te_gt2 B ca sz t 3 6), .ref k] B _
  refine g_calli (pc' := 56) cd_Kn_canBeMade rfl rfl rfl rfl rfl (tm_invV rfl rfl cd_Kn_isKnown rfl (Nat.le_of_ble_eq_true rfl) (by decide) hN.1.1 hN.1.2) (k_Kn_isKnown hN ?_)
  generalize hb3 : kn_is B kc ln (te_gt2 B ca sz t 3 6) = b3
  rw [hb3] at kk
  show bm_G _ _ _ 56 _ [.int (bz b3)] B _
  refine g_ist (pc' := 58) cd_Kn_canBeMade rfl (Or.inl ⟨rfl, rfl⟩) (by decide) rfl (fun lv el => ?_)
  have l0 := tm_lk el l0 rfl (by decide)
  have l1 := tm_lk el l1 rfl (by decide)
  have l2 := tm_lk el l2 rfl (by decide)
  have l3 := tm_lk el l3 rfl (by decide)
  have l4 := tm_lk el l4 rfl (by decide)
  have l5 : lv.lookup 5 = some (.int (bz b3)) := tm_lks el
  clear el
  refine g_ald (pc' := 59) cd_Kn_canBeMade rfl (Or.inr ⟨_, rfl, rfl, rfl⟩) l0 rfl rfl ?_
  refine g_fR (c := 3) (k := 0) (x := a) (pc' := 62) cd_Kn_canBeMade rfl rfl rfl rfl rfl (by decide) hN.1.1 hN.1.2 hN.2.1.1 ?_
  refine g_ild (pc' := 63) cd_Kn_canBeMade rfl (Or.inr ⟨_, rfl, rfl, rfl⟩) l1 rfl ?_
  refine g_calli (pc' := 66) cd_Kn_canBeMade rfl rfl rfl rfl rfl (tm_invV rfl rfl cd_Te_kindOf rfl (Nat.le_of_ble_eq_true rfl) (by decide) hT.1.1 hT.1.2) (k_Te_kindOf hT ?_)
  show bm_G _ _ _ 66 _ [.int (te_get B ca sz t 0)] B _
  refine g_ist (pc' := 68) cd_Kn_canBeMade rfl (Or.inl ⟨rfl, rfl⟩) (by decide) rfl (fun lv el => ?_)
  have l0 := tm_lk el l0 rfl (by decide)
  have l1 := tm_lk el l1 rfl (by decide)
  have l2 := tm_lk el l2 rfl (by decide)
  have l3 := tm_lk el l3 rfl (by decide)
  have l4 := tm_lk el l4 rfl (by decide)
  have l5 := tm_lk el l5 rfl (by decide)
  have l6 : lv.lookup 6 = some (.int (te_get B ca sz t 0)) := tm_lks el
  clear el
  refine g_ild (pc' := 70) cd_Kn_canBeMade rfl (Or.inl ⟨rfl, rfl⟩) l6 rfl ?_
  refine g_k1 (v := 3) (pc' := 71) cd_Kn_canBeMade rfl (by decide) rfl ?_
  refine g_if2 (t := 98) (pc' := 74) cd_Kn_canBeMade rfl rfl rfl (fun c71 => ?_) (fun c71 => ?_)
  · have c71 : ¬ (te_get B ca sz t 0) = 3 := c71
    refine g_ild (pc' := 100) cd_Kn_canBeMade rfl (Or.inl ⟨rfl, rfl⟩) l6 rfl ?_
    refine g_k1 (v := 1) (pc' := 101) cd_Kn_canBeMade rfl (by decide) rfl ?_
    refine g_if2 (t := 126) (pc' := 104) cd_Kn_canBeMade rfl rfl rfl (fun c101 => ?_) (fun c101 => ?_)
    · have c101 : (te_get B ca sz t 0) = 1 := c101
      refine g_k1 (v := 0) (pc' := 127) cd_Kn_canBeMade rfl (by decide) rfl ?_
      exact g_retz cd_Kn_canBeMade rfl (Or.inl rfl) ⟨_, rfl, bz_fin kk (by simp [bz, c71, c101])⟩
    · have c101 : ¬ (te_get B ca sz t 0) = 1 := c101
      refine g_ild (pc' := 105) cd_Kn_canBeMade rfl (Or.inr ⟨_, rfl, rfl, rfl⟩) l2 rfl ?_
      refine g_if1 (t := 126) (pc' := 108) cd_Kn_canBeMade rfl rfl rfl (fun c105 => ?_) (fun c105 => ?_)
      · have c105 : b0 = false := bz_f c105
        refine g_k1 (v := 0) (pc' := 127) cd_Kn_canBeMade rfl (by decide) rfl ?_
        exact g_retz cd_Kn_canBeMade rfl (Or.inl rfl) ⟨_, rfl, bz_fin kk (by simp [bz, c71, c101, c105])⟩
      · have c105 : b0 = true := bz_t c105
        refine g_ild (pc' := 109) cd_Kn_canBeMade rfl (Or.inr ⟨_, rfl, rfl, rfl⟩) l3 rfl ?_
        refine g_if1 (t := 126) (pc' := 112) cd_Kn_canBeMade rfl rfl rfl (fun c109 => ?_) (fun c109 => ?_)
        · have c109 : b1 = false := bz_f c109
          refine g_k1 (v := 0) (pc' := 127) cd_Kn_canBeMade rfl (by decide) rfl ?_
          exact g_retz cd_Kn_canBeMade rfl (Or.inl rfl) ⟨_, rfl, bz_fin kk (by simp [bz, c71, c101, c105, c109])⟩
        · have c109 : b1 = true := bz_t c109
          refine g_ild (pc' := 114) cd_Kn_canBeMade rfl (Or.inl ⟨rfl, rfl⟩) l4 rfl ?_
          refine g_if1 (t := 126) (pc' := 117) cd_Kn_canBeMade rfl rfl rfl (fun c114 => ?_) (fun c114 => ?_)
          · have c114 : b2 = false := bz_f c114
            refine g_k1 (v := 0) (pc' := 127) cd_Kn_canBeMade rfl (by decide) rfl ?_
            exact g_retz cd_Kn_canBeMade rfl (Or.inl rfl) ⟨_, rfl, bz_fin kk (by simp [bz, c71, c101, c105, c109, c114])⟩
          · have c114 : b2 = true := bz_t c114
            refine g_ild (pc' := 119) cd_Kn_canBeMade rfl (Or.inl ⟨rfl, rfl⟩) l5 rfl ?_
            refine g_if1 (t := 126) (pc' := 122) cd_Kn_canBeMade rfl rfl rfl (fun c119 => ?_) (fun c119 => ?_)
            · have c119 : b3 = false := bz_f c119
              refine g_k1 (v := 0) (pc' := 127) cd_Kn_canBeMade rfl (by decide) rfl ?_
              exact g_retz cd_Kn_canBeMade rfl (Or.inl rfl) ⟨_, rfl, bz_fin kk (by simp [bz, c71, c101, c105, c109, c114, c119])⟩
            · have c119 : b3 = true := bz_t c119
              refine g_k1 (v := 1) (pc' := 123) cd_Kn_canBeMade rfl (by decide) rfl ?_
              refine g_pure (pc' := 127) (st' := [.int 1]) cd_Kn_canBeMade rfl rfl (fun _ _ => rfl) ?_
              exact g_retz cd_Kn_canBeMade rfl (Or.inr rfl) ⟨_, rfl, bz_fin kk (by simp [bz, c71, c101, c105, c109, c114, c119])⟩
  · have c71 : ¬ (¬ (te_get B ca sz t 0) = 3) := c71
    refine g_ild (pc' := 75) cd_Kn_canBeMade rfl (Or.inr ⟨_, rfl, rfl, rfl⟩) l2 rfl ?_
    refine g_if1 (t := 83) (pc' := 78) cd_Kn_canBeMade rfl rfl rfl (fun c75 => ?_) (fun c75 => ?_)
    · have c75 : b0 = false := bz_f c75
      refine g_ild (pc' := 84) cd_Kn_canBeMade rfl (Or.inr ⟨_, rfl, rfl, rfl⟩) l3 rfl ?_
      refine g_if1 (t := 96) (pc' := 87) cd_Kn_canBeMade rfl rfl rfl (fun c84 => ?_) (fun c84 => ?_)
      · have c84 : b1 = false := bz_f c84
        refine g_k1 (v := 0) (pc' := 97) cd_Kn_canBeMade rfl (by decide) rfl ?_
        exact g_retz cd_Kn_canBeMade rfl (Or.inl rfl) ⟨_, rfl, bz_fin kk (by simp [bz, c71, c75, c84])⟩
      · have c84 : b1 = true := bz_t c84
        refine g_ild (pc' := 89) cd_Kn_canBeMade rfl (Or.inl ⟨rfl, rfl⟩) l4 rfl ?_
        refine g_if1 (t := 96) (pc' := 92) cd_Kn_canBeMade rfl rfl rfl (fun c89 => ?_) (fun c89 => ?_)
        · have c89 : b2 = false := bz_f c89
          refine g_k1 (v := 0) (pc' := 97) cd_Kn_canBeMade rfl (by decide) rfl ?_
          exact g_retz cd_Kn_canBeMade rfl (Or.inl rfl) ⟨_, rfl, bz_fin kk (by simp [bz, c71, c75, c84, c89])⟩
        · have c89 : b2 = true := bz_t c89
          refine g_k1 (v := 1) (pc' := 93) cd_Kn_canBeMade rfl (by decide) rfl ?_
          refine g_pure (pc' := 97) (st' := [.int 1]) cd_Kn_canBeMade rfl rfl (fun _ _ => rfl) ?_
          exact g_retz cd_Kn_canBeMade rfl (Or.inr rfl) ⟨_, rfl, bz_fin kk (by simp [bz, c71, c75, c84, c89])⟩
    · have c75 : b0 = true := bz_t c75
      refine g_ild (pc' := 80) cd_Kn_canBeMade rfl (Or.inl ⟨rfl, rfl⟩) l5 rfl ?_
      refine g_if1 (t := 92) (pc' := 83) cd_Kn_canBeMade rfl rfl rfl (fun c80 => ?_) (fun c80 => ?_)
      · have c80 : b3 = true := bz_t c80
        refine g_k1 (v := 1) (pc' := 93) cd_Kn_canBeMade rfl (by decide) rfl ?_
        refine g_pure (pc' := 97) (st' := [.int 1]) cd_Kn_canBeMade rfl rfl (fun _ _ => rfl) ?_
        exact g_retz cd_Kn_canBeMade rfl (Or.inr rfl) ⟨_, rfl, bz_fin kk (by simp [bz, c71, c75, c80])⟩
      · have c80 : b3 = false := bz_f (Classical.not_not.mp c80)
        refine g_ild (pc' := 84) cd_Kn_canBeMade rfl (Or.inr ⟨_, rfl, rfl, rfl⟩) l3 rfl ?_
        refine g_if1 (t := 96) (pc' := 87) cd_Kn_canBeMade rfl rfl rfl (fun c84 => ?_) (fun c84 => ?_)
        · have c84 : b1 = false := bz_f c84
          refine g_k1 (v := 0) (pc' := 97) cd_Kn_canBeMade rfl (by decide) rfl ?_
          exact g_retz cd_Kn_canBeMade rfl (Or.inl rfl) ⟨_, rfl, bz_fin kk (by simp [bz, c71, c75, c80, c84])⟩
        · have c84 : b1 = true := bz_t c84
          refine g_ild (pc' := 89) cd_Kn_canBeMade rfl (Or.inl ⟨rfl, rfl⟩) l4 rfl ?_
          refine g_if1 (t := 96) (pc' := 92) cd_Kn_canBeMade rfl rfl rfl (fun c89 => ?_) (fun c89 => ?_)
          · have c89 : b2 = false := bz_f c89
            refine g_k1 (v := 0) (pc' := 97) cd_Kn_canBeMade rfl (by decide) rfl ?_
            exact g_retz cd_Kn_canBeMade rfl (Or.inl rfl) ⟨_, rfl, bz_fin kk (by simp [bz, c71, c75, c80, c84, c89])⟩
          · have c89 : b2 = true := bz_t c89
            refine g_k1 (v := 1) (pc' := 93) cd_Kn_canBeMade rfl (by decide) rfl ?_
            refine g_pure (pc' := 97) (st' := [.int 1]) cd_Kn_canBeMade rfl rfl (fun _ _ => rfl) ?_
            exact g_retz cd_Kn_canBeMade rfl (Or.inr rfl) ⟨_, rfl, bz_fin kk (by simp [bz, c71, c75, c80, c84, c89])⟩
set_option maxRecDepth 100000 in
theorem k_Kn_link {sc : tm_X} {d : Nat} {B : bm_H} {a ca ba da rm sz dr k kc kl rk lc sp ln : Nat} {u i v : Nat} {Q : bm_H → Prop} (hT : te_ok B a ca ba da rm sz dr) (hN : kn_ok B k a kc kl rk lc sp ln) (hur : u < rk) (hi : i < 4) (hv : te_gt2 B ca sz (nI u) (nI i) 6 = nI v) (hvr : v < rk) (kk0 : v = 0 → Q B) (kk1 : 0 < v → Q (kn_lnk B kc u i v)) : bm_Gv sc (d + 1) 22 [.ref k, .int (nI u), .int (nI i)] B Q := by
  have hrk : rk ≤ 65536 := hN.2.2.2.2.1.2.2.1
  show bm_G sc (d + 1) 22 0 [(0, .ref k), (1, .int (nI u)), (2, .int (nI i))] [] B _
  generalize elv : ([(0, .ref k), (1, .int (nI u)), (2, .int (nI i))] : tm_L) = lv
  have l0 : lv.lookup 0 = some (.ref k) := by rw [← elv]; rfl
  have l1 : lv.lookup 1 = some (.int (nI u)) := by rw [← elv]; rfl
  have l2 : lv.lookup 2 = some (.int (nI i)) := by rw [← elv]; rfl
  clear elv
  refine g_ald (pc' := 1) cd_Kn_link rfl (Or.inr ⟨_, rfl, rfl, rfl⟩) l0 rfl rfl ?_
  refine g_fR (c := 3) (k := 0) (x := a) (pc' := 4) cd_Kn_link rfl rfl rfl rfl rfl (by decide) hN.1.1 hN.1.2 hN.2.1.1 ?_
  refine g_ild (pc' := 5) cd_Kn_link rfl (Or.inr ⟨_, rfl, rfl, rfl⟩) l1 rfl ?_
  refine g_ild (pc' := 6) cd_Kn_link rfl (Or.inr ⟨_, rfl, rfl, rfl⟩) l2 rfl ?_
  refine g_calli (pc' := 9) cd_Kn_link rfl rfl rfl rfl rfl (tm_invV rfl rfl cd_Te_partOf rfl (Nat.le_of_ble_eq_true rfl) (by decide) hT.1.1 hT.1.2) (k_Te_partOf hT ?_)
  rw [hv]
  show bm_G _ _ _ 9 _ [.int (nI v)] B _
  refine g_ist (pc' := 10) cd_Kn_link rfl (Or.inr ⟨_, rfl, rfl, rfl⟩) (by decide) rfl (fun lv el => ?_)
  have l0 := tm_lk el l0 rfl (by decide)
  have l1 := tm_lk el l1 rfl (by decide)
  have l2 := tm_lk el l2 rfl (by decide)
  have l3 : lv.lookup 3 = some (.int (nI v)) := tm_lks el
  clear el
  refine g_ild (pc' := 11) cd_Kn_link rfl (Or.inr ⟨_, rfl, rfl, rfl⟩) l3 rfl ?_
  refine g_if1 (t := 54) (pc' := 14) cd_Kn_link rfl rfl rfl (fun c11 => ?_) (fun c11 => ?_)
  · have c11 : (nI v) = 0 := c11
    exact g_retv cd_Kn_link rfl ⟨rfl, kk0 ((nI_eq (b := 0) (by omega) (by decide)).mp c11)⟩
  · have c11 : ¬ (nI v) = 0 := c11
    refine g_ald (pc' := 15) cd_Kn_link rfl (Or.inr ⟨_, rfl, rfl, rfl⟩) l0 rfl rfl ?_
    refine g_fR (c := 3) (k := 1) (x := kc) (pc' := 18) cd_Kn_link rfl rfl rfl rfl rfl (by decide) hN.1.1 hN.1.2 hN.2.1.2.1 ?_
    refine g_ild (pc' := 19) cd_Kn_link rfl (Or.inr ⟨_, rfl, rfl, rfl⟩) l1 rfl ?_
    refine g_k2 (v := 6) (pc' := 21) cd_Kn_link rfl (by decide) rfl ?_
    refine g_pure (pc' := 22) (st' := [.int ((nI u) * 6), .ref kc]) cd_Kn_link rfl rfl (fun _ _ => rfl) ?_
    refine g_k1 (v := 2) (pc' := 23) cd_Kn_link rfl (by decide) rfl ?_
    refine g_pure (pc' := 24) (st' := [.int (((nI u) * 6) + 2), .ref kc]) cd_Kn_link rfl rfl (fun _ _ => rfl) ?_
    refine g_ild (pc' := 25) cd_Kn_link rfl (Or.inr ⟨_, rfl, rfl, rfl⟩) l2 rfl ?_
    refine g_pure (pc' := 26) (st' := [.int ((((nI u) * 6) + 2) + (nI i)), .ref kc]) cd_Kn_link rfl rfl (fun _ _ => rfl) ?_
    refine g_ald (pc' := 27) cd_Kn_link rfl (Or.inr ⟨_, rfl, rfl, rfl⟩) l0 rfl rfl ?_
    refine g_fR (c := 3) (k := 1) (x := kc) (pc' := 30) cd_Kn_link rfl rfl rfl rfl rfl (by decide) hN.1.1 hN.1.2 hN.2.1.2.1 ?_
    refine g_ild (pc' := 31) cd_Kn_link rfl (Or.inr ⟨_, rfl, rfl, rfl⟩) l3 rfl ?_
    refine g_k2 (v := 6) (pc' := 33) cd_Kn_link rfl (by decide) rfl ?_
    refine g_pure (pc' := 34) (st' := [.int ((nI v) * 6), .ref kc, .int ((((nI u) * 6) + 2) + (nI i)), .ref kc]) cd_Kn_link rfl rfl (fun _ _ => rfl) ?_
    refine g_k1 (v := 1) (pc' := 35) cd_Kn_link rfl (by decide) rfl ?_
    refine g_pure (pc' := 36) (st' := [.int (((nI v) * 6) + 1), .ref kc, .int ((((nI u) * 6) + 2) + (nI i)), .ref kc]) cd_Kn_link rfl rfl (fun _ _ => rfl) ?_
    refine g_aI (x := (bm_AI B kc (v * 6 + 1))) (pc' := 37) cd_Kn_link rfl rfl hN.2.2.1.1.1 hN.2.2.1.1.2.1 (kn_ix hN hvr (i := 1) (by decide)).1 (congrArg (bm_AI B kc) (kn_ix hN hvr (i := 1) (by decide)).2) ?_
    refine g_iast (pc' := 38) cd_Kn_link rfl rfl hN.2.2.1.1.1 hN.2.2.1.1.2.1 (kn_ix2 hN hur (j := 2) (i := i) (by omega)).1 ?_
    rw [show (nI u * 6 + 2 + nI i).toNatClampNeg = u * 6 + (2 + i) from (kn_ix2 hN hur (j := 2) (i := i) (by omega)).2]
    refine g_ald (pc' := 39) cd_Kn_link rfl (Or.inr ⟨_, rfl, rfl, rfl⟩) l0 rfl rfl ?_
    refine g_fR (c := 3) (k := 1) (x := kc) (pc' := 42) cd_Kn_link rfl rfl rfl rfl rfl (by decide) hN.1.1 hN.1.2 hN.2.1.2.1 ?_
    refine g_ild (pc' := 43) cd_Kn_link rfl (Or.inr ⟨_, rfl, rfl, rfl⟩) l3 rfl ?_
    refine g_k2 (v := 6) (pc' := 45) cd_Kn_link rfl (by decide) rfl ?_
    refine g_pure (pc' := 46) (st' := [.int ((nI v) * 6), .ref kc]) cd_Kn_link rfl rfl (fun _ _ => rfl) ?_
    refine g_k1 (v := 1) (pc' := 47) cd_Kn_link rfl (by decide) rfl ?_
    refine g_pure (pc' := 48) (st' := [.int (((nI v) * 6) + 1), .ref kc]) cd_Kn_link rfl rfl (fun _ _ => rfl) ?_
    refine g_ild (pc' := 49) cd_Kn_link rfl (Or.inr ⟨_, rfl, rfl, rfl⟩) l1 rfl ?_
    refine g_k1 (v := 4) (pc' := 50) cd_Kn_link rfl (by decide) rfl ?_
    refine g_pure (pc' := 51) (st' := [.int ((nI u) * 4), .int (((nI v) * 6) + 1), .ref kc]) cd_Kn_link rfl rfl (fun _ _ => rfl) ?_
    refine g_ild (pc' := 52) cd_Kn_link rfl (Or.inr ⟨_, rfl, rfl, rfl⟩) l2 rfl ?_
    refine g_pure (pc' := 53) (st' := [.int (((nI u) * 4) + (nI i)), .int (((nI v) * 6) + 1), .ref kc]) cd_Kn_link rfl rfl (fun _ _ => rfl) ?_
    rw [show nI u * 4 + nI i = nI (u * 4 + i) by rw [show (4 : Int32) = nI 4 from rfl, pk_mul, nI_add]]
    refine g_iast (pc' := 54) cd_Kn_link rfl rfl hN.2.2.1.1.1 hN.2.2.1.1.2.1 (kn_ix hN hvr (i := 1) (by decide)).1 ?_
    rw [show (nI v * 6 + 1).toNatClampNeg = v * 6 + 1 from (kn_ix hN hvr (i := 1) (by decide)).2]
    exact g_retv cd_Kn_link rfl ⟨rfl, kk1 (Nat.pos_of_ne_zero (fun q => c11 (by rw [q]; rfl)))⟩
