/-! Terms: reads -/
theorem i32_pos {t : Int32} {n : Nat} (h0 : ¬ t ≤ 0) (h1 : ¬ nI n ≤ t) (hn : n < 2 ^ 31) : ∃ k : Nat, 0 < k ∧ k < n ∧ t = nI k := by
  have h2 : ¬ t < 0 := fun q => h0 (Int32.le_of_lt q)
  obtain ⟨k, hk, rfl⟩ := nI_of h2
  refine ⟨k, ?_, ?_, rfl⟩
  · rcases Nat.eq_zero_or_pos k with q | q
    · subst q; exact absurd (by decide : (nI 0 : Int32) ≤ 0) h0
    · exact q
  · rcases Nat.lt_or_ge k n with q | q
    · exact q
    · exact absurd (nI_le q hk) h1
/-- Terms at a: cells, buckets and draft lie at ca, ba, da; room, size, draws -/
def te_ok (B : bm_H) (a ca ba da rm sz dr : Nat) : Prop := (a < bm_n B ∧ bm_K B a = 9) ∧ (bm_FR B 9 0 a = some ca ∧ bm_FR B 9 1 a = some ba ∧ bm_FR B 9 2 a = some da) ∧ ((ca < bm_n B ∧ bm_K B ca = 13 ∧ bm_AL B ca = rm * 11) ∧ (ba < bm_n B ∧ bm_K B ba = 13 ∧ bm_AL B ba = 4096) ∧ (da < bm_n B ∧ bm_K B da = 13 ∧ bm_AL B da = 10)) ∧ (bm_FI B 9 3 a = nI rm ∧ bm_FI B 9 4 a = nI sz ∧ bm_FI B 9 5 a = nI dr) ∧ (1 ≤ sz ∧ sz ≤ rm ∧ rm ≤ 65536) ∧ (ca ≠ ba ∧ ca ≠ da ∧ ba ≠ da)
def te_get (B : bm_H) (ca sz : Nat) (t : Int32) (k : Nat) : Int32 := if t ≤ 0 ∨ nI sz ≤ t then 0 else bm_AI B ca (t.toNatClampNeg * 11 + k)
def te_gt2 (B : bm_H) (ca sz : Nat) (t i : Int32) (k : Nat) : Int32 := if (t ≤ 0 ∨ nI sz ≤ t) ∨ (i < 0 ∨ 4 ≤ i) then 0 else bm_AI B ca (t.toNatClampNeg * 11 + k + i.toNatClampNeg)
theorem te_ix {B : bm_H} {a ca ba da rm sz dr : Nat} (hT : te_ok B a ca ba da rm sz dr) {t : Int32} (h0 : ¬ t ≤ 0) (h1 : ¬ nI sz ≤ t) {k : Nat} (hk : k < 11) : vp_in (t * 11 + nI k) (bm_AL B ca) ∧ (t * 11 + nI k).toNatClampNeg = t.toNatClampNeg * 11 + k := by
  obtain ⟨-, -, ⟨⟨-, -, hL⟩, -⟩, -, ⟨-, hs, hr⟩, -⟩ := hT
  obtain ⟨u, u0, u1, rfl⟩ := i32_pos h0 h1 (by omega)
  have e : nI u * 11 + nI k = nI (u * 11 + k) := by rw [show (11 : Int32) = nI 11 from rfl, pk_mul, nI_add]
  rw [e, hL, nI_clamp (by omega), nI_clamp (by omega)]
  exact ⟨vp_in_nI (by omega) (by omega), rfl⟩
theorem te_ix2 {B : bm_H} {a ca ba da rm sz dr : Nat} (hT : te_ok B a ca ba da rm sz dr) {t i : Int32} (h0 : ¬ t ≤ 0) (h1 : ¬ nI sz ≤ t) (h2 : ¬ i < 0) (h3 : ¬ 4 ≤ i) {k : Nat} (hk : k < 7) : vp_in (t * 11 + nI k + i) (bm_AL B ca) ∧ (t * 11 + nI k + i).toNatClampNeg = t.toNatClampNeg * 11 + k + i.toNatClampNeg := by
  obtain ⟨v, hv, rfl⟩ := nI_of h2
  have hv4 : v < 4 := by
    rcases Nat.lt_or_ge v 4 with q | q
    · exact q
    · exact absurd (nI_le q hv : nI 4 ≤ nI v) h3
  obtain ⟨-, -, ⟨⟨-, -, hL⟩, -⟩, -, ⟨-, hs, hr⟩, -⟩ := hT
  obtain ⟨u, u0, u1, rfl⟩ := i32_pos h0 h1 (by omega)
  have e : nI u * 11 + nI k + nI v = nI (u * 11 + k + v) := by rw [show (11 : Int32) = nI 11 from rfl, pk_mul, nI_add, nI_add]
  rw [e, hL, nI_clamp (by omega), nI_clamp (by omega), nI_clamp (by omega)]
  exact ⟨vp_in_nI (by omega) (by omega), rfl⟩
theorem te_get_n {B : bm_H} {ca sz : Nat} {t : Int32} {k : Nat} (h0 : ¬ t ≤ 0) (h1 : ¬ nI sz ≤ t) : te_get B ca sz t k = bm_AI B ca (t.toNatClampNeg * 11 + k) := if_neg (fun q => q.elim h0 h1)
theorem te_get_0 {B : bm_H} {ca sz : Nat} {t : Int32} {k : Nat} (h : t ≤ 0 ∨ nI sz ≤ t) : te_get B ca sz t k = 0 := if_pos h
theorem te_gt2_n {B : bm_H} {ca sz : Nat} {t i : Int32} {k : Nat} (h0 : ¬ t ≤ 0) (h1 : ¬ nI sz ≤ t) (h2 : ¬ i < 0) (h3 : ¬ 4 ≤ i) : te_gt2 B ca sz t i k = bm_AI B ca (t.toNatClampNeg * 11 + k + i.toNatClampNeg) := if_neg (fun q => q.elim (fun q => q.elim h0 h1) (fun q => q.elim h2 h3))
theorem te_gt2_0 {B : bm_H} {ca sz : Nat} {t i : Int32} {k : Nat} (h : (t ≤ 0 ∨ nI sz ≤ t) ∨ (i < 0 ∨ 4 ≤ i)) : te_gt2 B ca sz t i k = 0 := if_pos h

set_option maxRecDepth 100000 in
theorem k_Te_kindOf {sc : tm_X} {d : Nat} {B : bm_H} {a ca ba da rm sz dr : Nat} {t : Int32} {Q : Int32 → bm_H → Prop} (hT : te_ok B a ca ba da rm sz dr) (kk : Q (te_get B ca sz t 0) B) : bm_Gi sc d 17 [.ref a, .int t] B Q := by
  show bm_G sc d 17 0 [(0, .ref a), (1, .int t)] [] B _
  refine g_step (pc' := 1) (lv' := [(0, .ref a), (1, .int t)]) (st' := [.int t]) cd_Te_kindOf rfl rfl rfl ?_
  refine g_if1 (t := 26) (pc' := 4) cd_Te_kindOf rfl rfl rfl (fun c1 => ?_) (fun c1 => ?_)
  · have c1 : t ≤ 0 := c1
    refine g_k1 (v := 0) (pc' := 27) cd_Te_kindOf rfl (by decide) rfl ?_
    exact g_reti cd_Te_kindOf rfl ⟨_, rfl, (te_get_0 (Or.inl c1) ▸ kk)⟩
  · have c1 : ¬ t ≤ 0 := c1
    refine g_step (pc' := 5) (lv' := [(0, .ref a), (1, .int t)]) (st' := [.int t]) cd_Te_kindOf rfl rfl rfl ?_
    refine g_step (pc' := 6) (lv' := [(0, .ref a), (1, .int t)]) (st' := [.ref a, .int t]) cd_Te_kindOf rfl rfl rfl ?_
    refine g_fI (c := 9) (k := 4) (x := (nI sz)) (pc' := 9) cd_Te_kindOf rfl rfl rfl rfl rfl (by decide) hT.1.1 hT.1.2 hT.2.2.2.1.2.1 ?_
    refine g_if2 (t := 26) (pc' := 12) cd_Te_kindOf rfl rfl rfl (fun c9 => ?_) (fun c9 => ?_)
    · have c9 : ((nI sz)) ≤ t := c9
      refine g_k1 (v := 0) (pc' := 27) cd_Te_kindOf rfl (by decide) rfl ?_
      exact g_reti cd_Te_kindOf rfl ⟨_, rfl, (te_get_0 (Or.inr c9) ▸ kk)⟩
    · have c9 : ¬ ((nI sz)) ≤ t := c9
      refine g_step (pc' := 13) (lv' := [(0, .ref a), (1, .int t)]) (st' := [.ref a]) cd_Te_kindOf rfl rfl rfl ?_
      refine g_fR (c := 9) (k := 0) (x := ca) (pc' := 16) cd_Te_kindOf rfl rfl rfl rfl rfl (by decide) hT.1.1 hT.1.2 hT.2.1.1 ?_
      refine g_step (pc' := 17) (lv' := [(0, .ref a), (1, .int t)]) (st' := [.int t, .ref ca]) cd_Te_kindOf rfl rfl rfl ?_
      refine g_k2 (v := 11) (pc' := 19) cd_Te_kindOf rfl (by decide) rfl ?_
      refine g_step (pc' := 20) (lv' := [(0, .ref a), (1, .int t)]) (st' := [.int (t * 11), .ref ca]) cd_Te_kindOf rfl rfl rfl ?_
      refine g_k1 (v := 0) (pc' := 21) cd_Te_kindOf rfl (by decide) rfl ?_
      refine g_step (pc' := 22) (lv' := [(0, .ref a), (1, .int t)]) (st' := [.int ((t * 11) + 0), .ref ca]) cd_Te_kindOf rfl rfl rfl ?_
      refine g_aI (x := (te_get B ca sz t 0)) (pc' := 23) cd_Te_kindOf rfl rfl hT.2.2.1.1.1 hT.2.2.1.1.2.1 (te_ix hT c1 c9 (k := 0) (by decide)).1 ((congrArg (bm_AI B ca) (te_ix hT c1 c9 (k := 0) (by decide)).2).trans (te_get_n c1 c9).symm) ?_
      refine g_step (pc' := 27) (lv' := [(0, .ref a), (1, .int t)]) (st' := [.int ((te_get B ca sz t 0))]) cd_Te_kindOf rfl rfl rfl ?_
      exact g_reti cd_Te_kindOf rfl ⟨_, rfl, kk⟩
set_option maxRecDepth 100000 in
theorem k_Te_markOf {sc : tm_X} {d : Nat} {B : bm_H} {a ca ba da rm sz dr : Nat} {t : Int32} {Q : Int32 → bm_H → Prop} (hT : te_ok B a ca ba da rm sz dr) (kk : Q (te_get B ca sz t 1) B) : bm_Gi sc d 69 [.ref a, .int t] B Q := by
  show bm_G sc d 69 0 [(0, .ref a), (1, .int t)] [] B _
  refine g_step (pc' := 1) (lv' := [(0, .ref a), (1, .int t)]) (st' := [.int t]) cd_Te_markOf rfl rfl rfl ?_
  refine g_if1 (t := 26) (pc' := 4) cd_Te_markOf rfl rfl rfl (fun c1 => ?_) (fun c1 => ?_)
  · have c1 : t ≤ 0 := c1
    refine g_k1 (v := 0) (pc' := 27) cd_Te_markOf rfl (by decide) rfl ?_
    exact g_reti cd_Te_markOf rfl ⟨_, rfl, (te_get_0 (Or.inl c1) ▸ kk)⟩
  · have c1 : ¬ t ≤ 0 := c1
    refine g_step (pc' := 5) (lv' := [(0, .ref a), (1, .int t)]) (st' := [.int t]) cd_Te_markOf rfl rfl rfl ?_
    refine g_step (pc' := 6) (lv' := [(0, .ref a), (1, .int t)]) (st' := [.ref a, .int t]) cd_Te_markOf rfl rfl rfl ?_
    refine g_fI (c := 9) (k := 4) (x := (nI sz)) (pc' := 9) cd_Te_markOf rfl rfl rfl rfl rfl (by decide) hT.1.1 hT.1.2 hT.2.2.2.1.2.1 ?_
    refine g_if2 (t := 26) (pc' := 12) cd_Te_markOf rfl rfl rfl (fun c9 => ?_) (fun c9 => ?_)
    · have c9 : ((nI sz)) ≤ t := c9
      refine g_k1 (v := 0) (pc' := 27) cd_Te_markOf rfl (by decide) rfl ?_
      exact g_reti cd_Te_markOf rfl ⟨_, rfl, (te_get_0 (Or.inr c9) ▸ kk)⟩
    · have c9 : ¬ ((nI sz)) ≤ t := c9
      refine g_step (pc' := 13) (lv' := [(0, .ref a), (1, .int t)]) (st' := [.ref a]) cd_Te_markOf rfl rfl rfl ?_
      refine g_fR (c := 9) (k := 0) (x := ca) (pc' := 16) cd_Te_markOf rfl rfl rfl rfl rfl (by decide) hT.1.1 hT.1.2 hT.2.1.1 ?_
      refine g_step (pc' := 17) (lv' := [(0, .ref a), (1, .int t)]) (st' := [.int t, .ref ca]) cd_Te_markOf rfl rfl rfl ?_
      refine g_k2 (v := 11) (pc' := 19) cd_Te_markOf rfl (by decide) rfl ?_
      refine g_step (pc' := 20) (lv' := [(0, .ref a), (1, .int t)]) (st' := [.int (t * 11), .ref ca]) cd_Te_markOf rfl rfl rfl ?_
      refine g_k1 (v := 1) (pc' := 21) cd_Te_markOf rfl (by decide) rfl ?_
      refine g_step (pc' := 22) (lv' := [(0, .ref a), (1, .int t)]) (st' := [.int ((t * 11) + 1), .ref ca]) cd_Te_markOf rfl rfl rfl ?_
      refine g_aI (x := (te_get B ca sz t 1)) (pc' := 23) cd_Te_markOf rfl rfl hT.2.2.1.1.1 hT.2.2.1.1.2.1 (te_ix hT c1 c9 (k := 1) (by decide)).1 ((congrArg (bm_AI B ca) (te_ix hT c1 c9 (k := 1) (by decide)).2).trans (te_get_n c1 c9).symm) ?_
      refine g_step (pc' := 27) (lv' := [(0, .ref a), (1, .int t)]) (st' := [.int ((te_get B ca sz t 1))]) cd_Te_markOf rfl rfl rfl ?_
      exact g_reti cd_Te_markOf rfl ⟨_, rfl, kk⟩
set_option maxRecDepth 100000 in
theorem k_Te_numberOf {sc : tm_X} {d : Nat} {B : bm_H} {a ca ba da rm sz dr : Nat} {t i : Int32} {Q : Int32 → bm_H → Prop} (hT : te_ok B a ca ba da rm sz dr) (kk : Q (te_gt2 B ca sz t i 2) B) : bm_Gi sc d 71 [.ref a, .int t, .int i] B Q := by
  show bm_G sc d 71 0 [(0, .ref a), (1, .int t), (2, .int i)] [] B _
  refine g_step (pc' := 1) (lv' := [(0, .ref a), (1, .int t), (2, .int i)]) (st' := [.int t]) cd_Te_numberOf rfl rfl rfl ?_
  refine g_if1 (t := 25) (pc' := 4) cd_Te_numberOf rfl rfl rfl (fun c1 => ?_) (fun c1 => ?_)
  · have c1 : t ≤ 0 := c1
    refine g_k1 (v := 0) (pc' := 26) cd_Te_numberOf rfl (by decide) rfl ?_
    refine g_step (pc' := 27) (lv' := [(3, .int 0), (0, .ref a), (1, .int t), (2, .int i)]) (st' := []) cd_Te_numberOf rfl rfl rfl ?_
    refine g_step (pc' := 28) (lv' := [(3, .int 0), (0, .ref a), (1, .int t), (2, .int i)]) (st' := [.int 0]) cd_Te_numberOf rfl rfl rfl ?_
    refine g_if1 (t := 47) (pc' := 31) cd_Te_numberOf rfl rfl rfl (fun c28 => ?_) (fun c28 => ?_)
    · have c28 : (0 : Int32) = 0 := c28
      refine g_k1 (v := 0) (pc' := 48) cd_Te_numberOf rfl (by decide) rfl ?_
      exact g_reti cd_Te_numberOf rfl ⟨_, rfl, (te_gt2_0 (Or.inl (Or.inl c1)) ▸ kk)⟩
    · exact absurd (show (¬ ((0 : Int32) = 0) : Prop) from c28) (by decide)
  · have c1 : ¬ t ≤ 0 := c1
    refine g_step (pc' := 5) (lv' := [(0, .ref a), (1, .int t), (2, .int i)]) (st' := [.int t]) cd_Te_numberOf rfl rfl rfl ?_
    refine g_step (pc' := 6) (lv' := [(0, .ref a), (1, .int t), (2, .int i)]) (st' := [.ref a, .int t]) cd_Te_numberOf rfl rfl rfl ?_
    refine g_fI (c := 9) (k := 4) (x := (nI sz)) (pc' := 9) cd_Te_numberOf rfl rfl rfl rfl rfl (by decide) hT.1.1 hT.1.2 hT.2.2.2.1.2.1 ?_
    refine g_if2 (t := 25) (pc' := 12) cd_Te_numberOf rfl rfl rfl (fun c9 => ?_) (fun c9 => ?_)
    · have c9 : ((nI sz)) ≤ t := c9
      refine g_k1 (v := 0) (pc' := 26) cd_Te_numberOf rfl (by decide) rfl ?_
      refine g_step (pc' := 27) (lv' := [(3, .int 0), (0, .ref a), (1, .int t), (2, .int i)]) (st' := []) cd_Te_numberOf rfl rfl rfl ?_
      refine g_step (pc' := 28) (lv' := [(3, .int 0), (0, .ref a), (1, .int t), (2, .int i)]) (st' := [.int 0]) cd_Te_numberOf rfl rfl rfl ?_
      refine g_if1 (t := 47) (pc' := 31) cd_Te_numberOf rfl rfl rfl (fun c28 => ?_) (fun c28 => ?_)
      · have c28 : (0 : Int32) = 0 := c28
        refine g_k1 (v := 0) (pc' := 48) cd_Te_numberOf rfl (by decide) rfl ?_
        exact g_reti cd_Te_numberOf rfl ⟨_, rfl, (te_gt2_0 (Or.inl (Or.inr c9)) ▸ kk)⟩
      · exact absurd (show (¬ ((0 : Int32) = 0) : Prop) from c28) (by decide)
    · have c9 : ¬ ((nI sz)) ≤ t := c9
      refine g_step (pc' := 13) (lv' := [(0, .ref a), (1, .int t), (2, .int i)]) (st' := [.int i]) cd_Te_numberOf rfl rfl rfl ?_
      refine g_if1 (t := 25) (pc' := 16) cd_Te_numberOf rfl rfl rfl (fun c13 => ?_) (fun c13 => ?_)
      · have c13 : i < 0 := c13
        refine g_k1 (v := 0) (pc' := 26) cd_Te_numberOf rfl (by decide) rfl ?_
        refine g_step (pc' := 27) (lv' := [(3, .int 0), (0, .ref a), (1, .int t), (2, .int i)]) (st' := []) cd_Te_numberOf rfl rfl rfl ?_
        refine g_step (pc' := 28) (lv' := [(3, .int 0), (0, .ref a), (1, .int t), (2, .int i)]) (st' := [.int 0]) cd_Te_numberOf rfl rfl rfl ?_
        refine g_if1 (t := 47) (pc' := 31) cd_Te_numberOf rfl rfl rfl (fun c28 => ?_) (fun c28 => ?_)
        · have c28 : (0 : Int32) = 0 := c28
          refine g_k1 (v := 0) (pc' := 48) cd_Te_numberOf rfl (by decide) rfl ?_
          exact g_reti cd_Te_numberOf rfl ⟨_, rfl, (te_gt2_0 (Or.inr (Or.inl c13)) ▸ kk)⟩
        · exact absurd (show (¬ ((0 : Int32) = 0) : Prop) from c28) (by decide)
      · have c13 : ¬ i < 0 := c13
        refine g_step (pc' := 17) (lv' := [(0, .ref a), (1, .int t), (2, .int i)]) (st' := [.int i]) cd_Te_numberOf rfl rfl rfl ?_
        refine g_k1 (v := 4) (pc' := 18) cd_Te_numberOf rfl (by decide) rfl ?_
        refine g_if2 (t := 25) (pc' := 21) cd_Te_numberOf rfl rfl rfl (fun c18 => ?_) (fun c18 => ?_)
        · have c18 : (4 : Int32) ≤ i := c18
          refine g_k1 (v := 0) (pc' := 26) cd_Te_numberOf rfl (by decide) rfl ?_
          refine g_step (pc' := 27) (lv' := [(3, .int 0), (0, .ref a), (1, .int t), (2, .int i)]) (st' := []) cd_Te_numberOf rfl rfl rfl ?_
          refine g_step (pc' := 28) (lv' := [(3, .int 0), (0, .ref a), (1, .int t), (2, .int i)]) (st' := [.int 0]) cd_Te_numberOf rfl rfl rfl ?_
          refine g_if1 (t := 47) (pc' := 31) cd_Te_numberOf rfl rfl rfl (fun c28 => ?_) (fun c28 => ?_)
          · have c28 : (0 : Int32) = 0 := c28
            refine g_k1 (v := 0) (pc' := 48) cd_Te_numberOf rfl (by decide) rfl ?_
            exact g_reti cd_Te_numberOf rfl ⟨_, rfl, (te_gt2_0 (Or.inr (Or.inr c18)) ▸ kk)⟩
          · exact absurd (show (¬ ((0 : Int32) = 0) : Prop) from c28) (by decide)
        · have c18 : ¬ (4 : Int32) ≤ i := c18
          refine g_k1 (v := 1) (pc' := 22) cd_Te_numberOf rfl (by decide) rfl ?_
          refine g_step (pc' := 26) (lv' := [(0, .ref a), (1, .int t), (2, .int i)]) (st' := [.int 1]) cd_Te_numberOf rfl rfl rfl ?_
          refine g_step (pc' := 27) (lv' := [(3, .int 1), (0, .ref a), (1, .int t), (2, .int i)]) (st' := []) cd_Te_numberOf rfl rfl rfl ?_
          refine g_step (pc' := 28) (lv' := [(3, .int 1), (0, .ref a), (1, .int t), (2, .int i)]) (st' := [.int 1]) cd_Te_numberOf rfl rfl rfl ?_
          refine g_if1 (t := 47) (pc' := 31) cd_Te_numberOf rfl rfl rfl (fun c28 => ?_) (fun c28 => ?_)
          · exact absurd (show ((1 : Int32) = 0 : Prop) from c28) (by decide)
          · have c28 : ¬ (1 : Int32) = 0 := c28
            refine g_step (pc' := 32) (lv' := [(3, .int 1), (0, .ref a), (1, .int t), (2, .int i)]) (st' := [.ref a]) cd_Te_numberOf rfl rfl rfl ?_
            refine g_fR (c := 9) (k := 0) (x := ca) (pc' := 35) cd_Te_numberOf rfl rfl rfl rfl rfl (by decide) hT.1.1 hT.1.2 hT.2.1.1 ?_
            refine g_step (pc' := 36) (lv' := [(3, .int 1), (0, .ref a), (1, .int t), (2, .int i)]) (st' := [.int t, .ref ca]) cd_Te_numberOf rfl rfl rfl ?_
            refine g_k2 (v := 11) (pc' := 38) cd_Te_numberOf rfl (by decide) rfl ?_
            refine g_step (pc' := 39) (lv' := [(3, .int 1), (0, .ref a), (1, .int t), (2, .int i)]) (st' := [.int (t * 11), .ref ca]) cd_Te_numberOf rfl rfl rfl ?_
            refine g_k1 (v := 2) (pc' := 40) cd_Te_numberOf rfl (by decide) rfl ?_
            refine g_step (pc' := 41) (lv' := [(3, .int 1), (0, .ref a), (1, .int t), (2, .int i)]) (st' := [.int ((t * 11) + 2), .ref ca]) cd_Te_numberOf rfl rfl rfl ?_
            refine g_step (pc' := 42) (lv' := [(3, .int 1), (0, .ref a), (1, .int t), (2, .int i)]) (st' := [.int i, .int ((t * 11) + 2), .ref ca]) cd_Te_numberOf rfl rfl rfl ?_
            refine g_step (pc' := 43) (lv' := [(3, .int 1), (0, .ref a), (1, .int t), (2, .int i)]) (st' := [.int (((t * 11) + 2) + i), .ref ca]) cd_Te_numberOf rfl rfl rfl ?_
            refine g_aI (x := (te_gt2 B ca sz t i 2)) (pc' := 44) cd_Te_numberOf rfl rfl hT.2.2.1.1.1 hT.2.2.1.1.2.1 (te_ix2 hT c1 c9 c13 c18 (k := 2) (by decide)).1 ((congrArg (bm_AI B ca) (te_ix2 hT c1 c9 c13 c18 (k := 2) (by decide)).2).trans (te_gt2_n c1 c9 c13 c18).symm) ?_
            refine g_step (pc' := 48) (lv' := [(3, .int 1), (0, .ref a), (1, .int t), (2, .int i)]) (st' := [.int ((te_gt2 B ca sz t i 2))]) cd_Te_numberOf rfl rfl rfl ?_
            exact g_reti cd_Te_numberOf rfl ⟨_, rfl, kk⟩
set_option maxRecDepth 100000 in
theorem k_Te_partOf {sc : tm_X} {d : Nat} {B : bm_H} {a ca ba da rm sz dr : Nat} {t i : Int32} {Q : Int32 → bm_H → Prop} (hT : te_ok B a ca ba da rm sz dr) (kk : Q (te_gt2 B ca sz t i 6) B) : bm_Gi sc d 23 [.ref a, .int t, .int i] B Q := by
  show bm_G sc d 23 0 [(0, .ref a), (1, .int t), (2, .int i)] [] B _
  refine g_step (pc' := 1) (lv' := [(0, .ref a), (1, .int t), (2, .int i)]) (st' := [.int t]) cd_Te_partOf rfl rfl rfl ?_
  refine g_if1 (t := 25) (pc' := 4) cd_Te_partOf rfl rfl rfl (fun c1 => ?_) (fun c1 => ?_)
  · have c1 : t ≤ 0 := c1
    refine g_k1 (v := 0) (pc' := 26) cd_Te_partOf rfl (by decide) rfl ?_
    refine g_step (pc' := 27) (lv' := [(3, .int 0), (0, .ref a), (1, .int t), (2, .int i)]) (st' := []) cd_Te_partOf rfl rfl rfl ?_
    refine g_step (pc' := 28) (lv' := [(3, .int 0), (0, .ref a), (1, .int t), (2, .int i)]) (st' := [.int 0]) cd_Te_partOf rfl rfl rfl ?_
    refine g_if1 (t := 48) (pc' := 31) cd_Te_partOf rfl rfl rfl (fun c28 => ?_) (fun c28 => ?_)
    · have c28 : (0 : Int32) = 0 := c28
      refine g_k1 (v := 0) (pc' := 49) cd_Te_partOf rfl (by decide) rfl ?_
      exact g_reti cd_Te_partOf rfl ⟨_, rfl, (te_gt2_0 (Or.inl (Or.inl c1)) ▸ kk)⟩
    · exact absurd (show (¬ ((0 : Int32) = 0) : Prop) from c28) (by decide)
  · have c1 : ¬ t ≤ 0 := c1
    refine g_step (pc' := 5) (lv' := [(0, .ref a), (1, .int t), (2, .int i)]) (st' := [.int t]) cd_Te_partOf rfl rfl rfl ?_
    refine g_step (pc' := 6) (lv' := [(0, .ref a), (1, .int t), (2, .int i)]) (st' := [.ref a, .int t]) cd_Te_partOf rfl rfl rfl ?_
    refine g_fI (c := 9) (k := 4) (x := (nI sz)) (pc' := 9) cd_Te_partOf rfl rfl rfl rfl rfl (by decide) hT.1.1 hT.1.2 hT.2.2.2.1.2.1 ?_
    refine g_if2 (t := 25) (pc' := 12) cd_Te_partOf rfl rfl rfl (fun c9 => ?_) (fun c9 => ?_)
    · have c9 : ((nI sz)) ≤ t := c9
      refine g_k1 (v := 0) (pc' := 26) cd_Te_partOf rfl (by decide) rfl ?_
      refine g_step (pc' := 27) (lv' := [(3, .int 0), (0, .ref a), (1, .int t), (2, .int i)]) (st' := []) cd_Te_partOf rfl rfl rfl ?_
      refine g_step (pc' := 28) (lv' := [(3, .int 0), (0, .ref a), (1, .int t), (2, .int i)]) (st' := [.int 0]) cd_Te_partOf rfl rfl rfl ?_
      refine g_if1 (t := 48) (pc' := 31) cd_Te_partOf rfl rfl rfl (fun c28 => ?_) (fun c28 => ?_)
      · have c28 : (0 : Int32) = 0 := c28
        refine g_k1 (v := 0) (pc' := 49) cd_Te_partOf rfl (by decide) rfl ?_
        exact g_reti cd_Te_partOf rfl ⟨_, rfl, (te_gt2_0 (Or.inl (Or.inr c9)) ▸ kk)⟩
      · exact absurd (show (¬ ((0 : Int32) = 0) : Prop) from c28) (by decide)
    · have c9 : ¬ ((nI sz)) ≤ t := c9
      refine g_step (pc' := 13) (lv' := [(0, .ref a), (1, .int t), (2, .int i)]) (st' := [.int i]) cd_Te_partOf rfl rfl rfl ?_
      refine g_if1 (t := 25) (pc' := 16) cd_Te_partOf rfl rfl rfl (fun c13 => ?_) (fun c13 => ?_)
      · have c13 : i < 0 := c13
        refine g_k1 (v := 0) (pc' := 26) cd_Te_partOf rfl (by decide) rfl ?_
        refine g_step (pc' := 27) (lv' := [(3, .int 0), (0, .ref a), (1, .int t), (2, .int i)]) (st' := []) cd_Te_partOf rfl rfl rfl ?_
        refine g_step (pc' := 28) (lv' := [(3, .int 0), (0, .ref a), (1, .int t), (2, .int i)]) (st' := [.int 0]) cd_Te_partOf rfl rfl rfl ?_
        refine g_if1 (t := 48) (pc' := 31) cd_Te_partOf rfl rfl rfl (fun c28 => ?_) (fun c28 => ?_)
        · have c28 : (0 : Int32) = 0 := c28
          refine g_k1 (v := 0) (pc' := 49) cd_Te_partOf rfl (by decide) rfl ?_
          exact g_reti cd_Te_partOf rfl ⟨_, rfl, (te_gt2_0 (Or.inr (Or.inl c13)) ▸ kk)⟩
        · exact absurd (show (¬ ((0 : Int32) = 0) : Prop) from c28) (by decide)
      · have c13 : ¬ i < 0 := c13
        refine g_step (pc' := 17) (lv' := [(0, .ref a), (1, .int t), (2, .int i)]) (st' := [.int i]) cd_Te_partOf rfl rfl rfl ?_
        refine g_k1 (v := 4) (pc' := 18) cd_Te_partOf rfl (by decide) rfl ?_
        refine g_if2 (t := 25) (pc' := 21) cd_Te_partOf rfl rfl rfl (fun c18 => ?_) (fun c18 => ?_)
        · have c18 : (4 : Int32) ≤ i := c18
          refine g_k1 (v := 0) (pc' := 26) cd_Te_partOf rfl (by decide) rfl ?_
          refine g_step (pc' := 27) (lv' := [(3, .int 0), (0, .ref a), (1, .int t), (2, .int i)]) (st' := []) cd_Te_partOf rfl rfl rfl ?_
          refine g_step (pc' := 28) (lv' := [(3, .int 0), (0, .ref a), (1, .int t), (2, .int i)]) (st' := [.int 0]) cd_Te_partOf rfl rfl rfl ?_
          refine g_if1 (t := 48) (pc' := 31) cd_Te_partOf rfl rfl rfl (fun c28 => ?_) (fun c28 => ?_)
          · have c28 : (0 : Int32) = 0 := c28
            refine g_k1 (v := 0) (pc' := 49) cd_Te_partOf rfl (by decide) rfl ?_
            exact g_reti cd_Te_partOf rfl ⟨_, rfl, (te_gt2_0 (Or.inr (Or.inr c18)) ▸ kk)⟩
          · exact absurd (show (¬ ((0 : Int32) = 0) : Prop) from c28) (by decide)
        · have c18 : ¬ (4 : Int32) ≤ i := c18
          refine g_k1 (v := 1) (pc' := 22) cd_Te_partOf rfl (by decide) rfl ?_
          refine g_step (pc' := 26) (lv' := [(0, .ref a), (1, .int t), (2, .int i)]) (st' := [.int 1]) cd_Te_partOf rfl rfl rfl ?_
          refine g_step (pc' := 27) (lv' := [(3, .int 1), (0, .ref a), (1, .int t), (2, .int i)]) (st' := []) cd_Te_partOf rfl rfl rfl ?_
          refine g_step (pc' := 28) (lv' := [(3, .int 1), (0, .ref a), (1, .int t), (2, .int i)]) (st' := [.int 1]) cd_Te_partOf rfl rfl rfl ?_
          refine g_if1 (t := 48) (pc' := 31) cd_Te_partOf rfl rfl rfl (fun c28 => ?_) (fun c28 => ?_)
          · exact absurd (show ((1 : Int32) = 0 : Prop) from c28) (by decide)
          · have c28 : ¬ (1 : Int32) = 0 := c28
            refine g_step (pc' := 32) (lv' := [(3, .int 1), (0, .ref a), (1, .int t), (2, .int i)]) (st' := [.ref a]) cd_Te_partOf rfl rfl rfl ?_
            refine g_fR (c := 9) (k := 0) (x := ca) (pc' := 35) cd_Te_partOf rfl rfl rfl rfl rfl (by decide) hT.1.1 hT.1.2 hT.2.1.1 ?_
            refine g_step (pc' := 36) (lv' := [(3, .int 1), (0, .ref a), (1, .int t), (2, .int i)]) (st' := [.int t, .ref ca]) cd_Te_partOf rfl rfl rfl ?_
            refine g_k2 (v := 11) (pc' := 38) cd_Te_partOf rfl (by decide) rfl ?_
            refine g_step (pc' := 39) (lv' := [(3, .int 1), (0, .ref a), (1, .int t), (2, .int i)]) (st' := [.int (t * 11), .ref ca]) cd_Te_partOf rfl rfl rfl ?_
            refine g_k2 (v := 6) (pc' := 41) cd_Te_partOf rfl (by decide) rfl ?_
            refine g_step (pc' := 42) (lv' := [(3, .int 1), (0, .ref a), (1, .int t), (2, .int i)]) (st' := [.int ((t * 11) + 6), .ref ca]) cd_Te_partOf rfl rfl rfl ?_
            refine g_step (pc' := 43) (lv' := [(3, .int 1), (0, .ref a), (1, .int t), (2, .int i)]) (st' := [.int i, .int ((t * 11) + 6), .ref ca]) cd_Te_partOf rfl rfl rfl ?_
            refine g_step (pc' := 44) (lv' := [(3, .int 1), (0, .ref a), (1, .int t), (2, .int i)]) (st' := [.int (((t * 11) + 6) + i), .ref ca]) cd_Te_partOf rfl rfl rfl ?_
            refine g_aI (x := (te_gt2 B ca sz t i 6)) (pc' := 45) cd_Te_partOf rfl rfl hT.2.2.1.1.1 hT.2.2.1.1.2.1 (te_ix2 hT c1 c9 c13 c18 (k := 6) (by decide)).1 ((congrArg (bm_AI B ca) (te_ix2 hT c1 c9 c13 c18 (k := 6) (by decide)).2).trans (te_gt2_n c1 c9 c13 c18).symm) ?_
            refine g_step (pc' := 49) (lv' := [(3, .int 1), (0, .ref a), (1, .int t), (2, .int i)]) (st' := [.int ((te_gt2 B ca sz t i 6))]) cd_Te_partOf rfl rfl rfl ?_
            exact g_reti cd_Te_partOf rfl ⟨_, rfl, kk⟩
