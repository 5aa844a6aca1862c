/-! Inbound -/
/-- Inbound at x: its left keys at la, c of them -/
def in_ok (B : bm_H) (x la c : Nat) : Prop := (x < bm_n B ∧ bm_K B x = 2) ∧ bm_FR B 2 0 x = some la ∧ (la < bm_n B ∧ bm_K B la = 13 ∧ bm_AL B la = 24) ∧ bm_FI B 2 1 x = nI c ∧ c ≤ 8
/-- place k of left key i; 0 without such a key -/
def in_get (B : bm_H) (la c : Nat) (i : Int32) (k : Nat) : Int32 := if i < 0 ∨ nI c ≤ i then 0 else bm_AI B la (i.toNatClampNeg * 3 + k)
theorem in_get_n {B : bm_H} {la c k : Nat} {i : Int32} (h0 : ¬ i < 0) (h1 : ¬ nI c ≤ i) : in_get B la c i k = bm_AI B la (i.toNatClampNeg * 3 + k) := if_neg (fun q => q.elim h0 h1)
theorem in_get_0 {B : bm_H} {la c k : Nat} {i : Int32} (h : i < 0 ∨ nI c ≤ i) : in_get B la c i k = 0 := if_pos h
theorem in_ix {B : bm_H} {x la c : Nat} (hI : in_ok B x la c) {i : Int32} (h0 : ¬ i < 0) (h1 : ¬ nI c ≤ i) {k : Nat} (hk : k < 3) : vp_in (i * 3 + nI k) (bm_AL B la) ∧ (i * 3 + nI k).toNatClampNeg = i.toNatClampNeg * 3 + k := by
  obtain ⟨-, -, ⟨-, -, hL⟩, -, hc⟩ := hI
  obtain ⟨u, hu, rfl⟩ := nI_of h0
  have huc : u < c := by
    rcases Nat.lt_or_ge u c with q | q
    · exact q
    · exact absurd (nI_le q hu) h1
  have e : nI u * 3 + nI k = nI (u * 3 + k) := by rw [show (3 : Int32) = nI 3 from rfl, pk_mul, nI_add]
  rw [e, hL, nI_clamp (by omega), nI_clamp (by omega)]
  exact ⟨vp_in_nI (by omega) (by omega), rfl⟩
theorem in_ixN {B : bm_H} {x la c : Nat} (hI : in_ok B x la c) {u k : Nat} (hu : u * 3 + k < 24) : vp_in (nI u * 3 + nI k) (bm_AL B la) ∧ (nI u * 3 + nI k).toNatClampNeg = u * 3 + k := by
  obtain ⟨-, -, ⟨-, -, hL⟩, -⟩ := hI
  have e : nI u * 3 + nI k = nI (u * 3 + k) := by rw [show (3 : Int32) = nI 3 from rfl, pk_mul, nI_add]
  rw [e, hL, nI_clamp (by omega)]
  exact ⟨vp_in_nI (by omega) (by omega), rfl⟩
/-- the left keys without key i -/
def in_cut (f : Nat → Int32) (c i : Nat) : Nat → Int32 := va_cpy f f ((i + 1) * 3) (i * 3) ((c - 1 - i) * 3)
/-- Inbound without its left key i -/
def in_rem (B : bm_H) (x la c i : Nat) : bm_H := bm_allI (bm_putI B 2 1 x (nI (c - 1))) la (in_cut (bm_AI B la) c i)
def in_st (B : bm_H) (x : Nat) (t h n : Int32) : bm_H := bm_putI (bm_putI (bm_putI (bm_putI B 2 2 x t) 2 3 x h) 2 4 x n) 2 1 x 0
/-- Inbound at x as the one at y (left keys lb, c of them) -/
def in_cp (B : bm_H) (x la y lb c : Nat) : bm_H := bm_allI (bm_putI (bm_putI (bm_putI (bm_putI B 2 2 x (bm_FI B 2 2 y)) 2 3 x (bm_FI B 2 3 y)) 2 4 x (bm_FI B 2 4 y)) 2 1 x (nI c)) la (va_cpy (bm_AI B lb) (bm_AI B la) 0 0 (c * 3))
set_option maxRecDepth 100000 in
theorem k_In_leftPublic {sc : tm_X} {d : Nat} {B : bm_H} {x la c : Nat} {i : Int32} {Q : Int32 → bm_H → Prop} (hI : in_ok B x la c) (kk : Q (in_get B la c i 0) B) : bm_Gi sc d 53 [.ref x, .int i] B Q := by
  show bm_G sc d 53 0 [(0, .ref x), (1, .int i)] [] B _
  generalize elv : ([(0, .ref x), (1, .int i)] : tm_L) = lv
  have l0 : lv.lookup 0 = some (.ref x) := by rw [← elv]; rfl
  have l1 : lv.lookup 1 = some (.int i) := by rw [← elv]; rfl
  clear elv
  refine g_ild (pc' := 1) cd_In_leftPublic rfl (Or.inr ⟨_, rfl, rfl, rfl⟩) l1 rfl ?_
  refine g_if1 (t := 25) (pc' := 4) cd_In_leftPublic rfl rfl rfl (fun c1 => ?_) (fun c1 => ?_)
  · have c1 : i < 0 := c1
    refine g_k1 (v := 0) (pc' := 26) cd_In_leftPublic rfl (by decide) rfl ?_
    exact g_reti cd_In_leftPublic rfl ⟨_, rfl, (in_get_0 (Or.inl c1) ▸ kk)⟩
  · have c1 : ¬ i < 0 := c1
    refine g_ild (pc' := 5) cd_In_leftPublic rfl (Or.inr ⟨_, rfl, rfl, rfl⟩) l1 rfl ?_
    refine g_ald (pc' := 6) cd_In_leftPublic rfl (Or.inr ⟨_, rfl, rfl, rfl⟩) l0 rfl rfl ?_
    refine g_fI (c := 2) (k := 1) (x := (nI c)) (pc' := 9) cd_In_leftPublic rfl rfl rfl rfl rfl (by decide) hI.1.1 hI.1.2 hI.2.2.2.1 ?_
    refine g_if2 (t := 25) (pc' := 12) cd_In_leftPublic rfl rfl rfl (fun c9 => ?_) (fun c9 => ?_)
    · have c9 : (nI c) ≤ i := c9
      refine g_k1 (v := 0) (pc' := 26) cd_In_leftPublic rfl (by decide) rfl ?_
      exact g_reti cd_In_leftPublic rfl ⟨_, rfl, (in_get_0 (Or.inr c9) ▸ kk)⟩
    · have c9 : ¬ (nI c) ≤ i := c9
      refine g_ald (pc' := 13) cd_In_leftPublic rfl (Or.inr ⟨_, rfl, rfl, rfl⟩) l0 rfl rfl ?_
      refine g_fR (c := 2) (k := 0) (x := la) (pc' := 16) cd_In_leftPublic rfl rfl rfl rfl rfl (by decide) hI.1.1 hI.1.2 hI.2.1 ?_
      refine g_ild (pc' := 17) cd_In_leftPublic rfl (Or.inr ⟨_, rfl, rfl, rfl⟩) l1 rfl ?_
      refine g_k1 (v := 3) (pc' := 18) cd_In_leftPublic rfl (by decide) rfl ?_
      refine g_pure (pc' := 19) (st' := [.int (i * 3), .ref la]) cd_In_leftPublic rfl rfl (fun _ _ => rfl) ?_
      refine g_k1 (v := 0) (pc' := 20) cd_In_leftPublic rfl (by decide) rfl ?_
      refine g_pure (pc' := 21) (st' := [.int ((i * 3) + 0), .ref la]) cd_In_leftPublic rfl rfl (fun _ _ => rfl) ?_
      refine g_aI (x := (in_get B la c i 0)) (pc' := 22) cd_In_leftPublic rfl rfl hI.2.2.1.1 hI.2.2.1.2.1 (in_ix hI c1 c9 (k := 0) (by decide)).1 ((congrArg (bm_AI B la) (in_ix hI c1 c9 (k := 0) (by decide)).2).trans (in_get_n c1 c9).symm) ?_
      refine g_pure (pc' := 26) (st' := [.int ((in_get B la c i 0))]) cd_In_leftPublic rfl rfl (fun _ _ => rfl) ?_
      exact g_reti cd_In_leftPublic rfl ⟨_, rfl, kk⟩
set_option maxRecDepth 100000 in
theorem k_In_leftKey {sc : tm_X} {d : Nat} {B : bm_H} {x la c : Nat} {i : Int32} {Q : Int32 → bm_H → Prop} (hI : in_ok B x la c) (kk : Q (in_get B la c i 2) B) : bm_Gi sc d 52 [.ref x, .int i] B Q := by
  show bm_G sc d 52 0 [(0, .ref x), (1, .int i)] [] B _
  generalize elv : ([(0, .ref x), (1, .int i)] : tm_L) = lv
  have l0 : lv.lookup 0 = some (.ref x) := by rw [← elv]; rfl
  have l1 : lv.lookup 1 = some (.int i) := by rw [← elv]; rfl
  clear elv
  refine g_ild (pc' := 1) cd_In_leftKey rfl (Or.inr ⟨_, rfl, rfl, rfl⟩) l1 rfl ?_
  refine g_if1 (t := 25) (pc' := 4) cd_In_leftKey rfl rfl rfl (fun c1 => ?_) (fun c1 => ?_)
  · have c1 : i < 0 := c1
    refine g_k1 (v := 0) (pc' := 26) cd_In_leftKey rfl (by decide) rfl ?_
    exact g_reti cd_In_leftKey rfl ⟨_, rfl, (in_get_0 (Or.inl c1) ▸ kk)⟩
  · have c1 : ¬ i < 0 := c1
    refine g_ild (pc' := 5) cd_In_leftKey rfl (Or.inr ⟨_, rfl, rfl, rfl⟩) l1 rfl ?_
    refine g_ald (pc' := 6) cd_In_leftKey rfl (Or.inr ⟨_, rfl, rfl, rfl⟩) l0 rfl rfl ?_
    refine g_fI (c := 2) (k := 1) (x := (nI c)) (pc' := 9) cd_In_leftKey rfl rfl rfl rfl rfl (by decide) hI.1.1 hI.1.2 hI.2.2.2.1 ?_
    refine g_if2 (t := 25) (pc' := 12) cd_In_leftKey rfl rfl rfl (fun c9 => ?_) (fun c9 => ?_)
    · have c9 : (nI c) ≤ i := c9
      refine g_k1 (v := 0) (pc' := 26) cd_In_leftKey rfl (by decide) rfl ?_
      exact g_reti cd_In_leftKey rfl ⟨_, rfl, (in_get_0 (Or.inr c9) ▸ kk)⟩
    · have c9 : ¬ (nI c) ≤ i := c9
      refine g_ald (pc' := 13) cd_In_leftKey rfl (Or.inr ⟨_, rfl, rfl, rfl⟩) l0 rfl rfl ?_
      refine g_fR (c := 2) (k := 0) (x := la) (pc' := 16) cd_In_leftKey rfl rfl rfl rfl rfl (by decide) hI.1.1 hI.1.2 hI.2.1 ?_
      refine g_ild (pc' := 17) cd_In_leftKey rfl (Or.inr ⟨_, rfl, rfl, rfl⟩) l1 rfl ?_
      refine g_k1 (v := 3) (pc' := 18) cd_In_leftKey rfl (by decide) rfl ?_
      refine g_pure (pc' := 19) (st' := [.int (i * 3), .ref la]) cd_In_leftKey rfl rfl (fun _ _ => rfl) ?_
      refine g_k1 (v := 2) (pc' := 20) cd_In_leftKey rfl (by decide) rfl ?_
      refine g_pure (pc' := 21) (st' := [.int ((i * 3) + 2), .ref la]) cd_In_leftKey rfl rfl (fun _ _ => rfl) ?_
      refine g_aI (x := (in_get B la c i 2)) (pc' := 22) cd_In_leftKey rfl rfl hI.2.2.1.1 hI.2.2.1.2.1 (in_ix hI c1 c9 (k := 2) (by decide)).1 ((congrArg (bm_AI B la) (in_ix hI c1 c9 (k := 2) (by decide)).2).trans (in_get_n c1 c9).symm) ?_
      refine g_pure (pc' := 26) (st' := [.int ((in_get B la c i 2))]) cd_In_leftKey rfl rfl (fun _ _ => rfl) ?_
      exact g_reti cd_In_leftKey rfl ⟨_, rfl, kk⟩
set_option maxRecDepth 100000 in
theorem k_In_start {sc : tm_X} {d : Nat} {B : bm_H} {x la c : Nat} {t h n : Int32} {Q : bm_H → Prop} (hI : in_ok B x la c) (kk : Q (in_st B x t h n)) : bm_Gv sc d 82 [.ref x, .int t, .int h, .int n] B Q := by
  show bm_G sc d 82 0 [(0, .ref x), (1, .int t), (2, .int h), (3, .int n)] [] B _
  generalize elv : ([(0, .ref x), (1, .int t), (2, .int h), (3, .int n)] : tm_L) = lv
  have l0 : lv.lookup 0 = some (.ref x) := by rw [← elv]; rfl
  have l1 : lv.lookup 1 = some (.int t) := by rw [← elv]; rfl
  have l2 : lv.lookup 2 = some (.int h) := by rw [← elv]; rfl
  have l3 : lv.lookup 3 = some (.int n) := by rw [← elv]; rfl
  clear elv
  refine g_ald (pc' := 1) cd_In_start rfl (Or.inr ⟨_, rfl, rfl, rfl⟩) l0 rfl rfl ?_
  refine g_ild (pc' := 2) cd_In_start rfl (Or.inr ⟨_, rfl, rfl, rfl⟩) l1 rfl ?_
  refine g_putI (c := 2) (k := 2) (pc' := 5) cd_In_start rfl rfl rfl rfl (by simp [tm_okV, narrow, fits]) (Or.inl rfl) rfl (by decide) hI.1.1 hI.1.2 ?_
  refine g_ald (pc' := 6) cd_In_start rfl (Or.inr ⟨_, rfl, rfl, rfl⟩) l0 rfl rfl ?_
  refine g_ild (pc' := 7) cd_In_start rfl (Or.inr ⟨_, rfl, rfl, rfl⟩) l2 rfl ?_
  refine g_putI (c := 2) (k := 3) (pc' := 10) cd_In_start rfl rfl rfl rfl (by simp [tm_okV, narrow, fits]) (Or.inl rfl) rfl (by decide) hI.1.1 hI.1.2 ?_
  refine g_ald (pc' := 11) cd_In_start rfl (Or.inr ⟨_, rfl, rfl, rfl⟩) l0 rfl rfl ?_
  refine g_ild (pc' := 12) cd_In_start rfl (Or.inr ⟨_, rfl, rfl, rfl⟩) l3 rfl ?_
  refine g_putI (c := 2) (k := 4) (pc' := 15) cd_In_start rfl rfl rfl rfl (by simp [tm_okV, narrow, fits]) (Or.inl rfl) rfl (by decide) hI.1.1 hI.1.2 ?_
  refine g_ald (pc' := 16) cd_In_start rfl (Or.inr ⟨_, rfl, rfl, rfl⟩) l0 rfl rfl ?_
  refine g_k1 (v := 0) (pc' := 17) cd_In_start rfl (by decide) rfl ?_
  refine g_putI (c := 2) (k := 1) (pc' := 20) cd_In_start rfl rfl rfl rfl (by simp [tm_okV, narrow, fits]) (Or.inl rfl) rfl (by decide) hI.1.1 hI.1.2 ?_
  exact g_retv cd_In_start rfl ⟨rfl, kk⟩
set_option maxRecDepth 100000 in
theorem k_In_removeLeft {sc : tm_X} {d : Nat} {B : bm_H} {x la c i : Nat} {Q : bm_H → Prop} (hI : in_ok B x la c) (hi : i < c) (kk : Q (in_rem B x la c i)) : bm_Gv sc (d + 1) 114 [.ref x, .int (nI i)] B Q := by
  have hc8 : c ≤ 8 := hI.2.2.2.2
  show bm_G sc (d + 1) 114 0 [(0, .ref x), (1, .int (nI i))] [] B _
  generalize elv : ([(0, .ref x), (1, .int (nI i))] : tm_L) = lv
  have l0 : lv.lookup 0 = some (.ref x) := by rw [← elv]; rfl
  have l1 : lv.lookup 1 = some (.int (nI i)) := by rw [← elv]; rfl
  clear elv
  refine g_ald (pc' := 1) cd_In_removeLeft rfl (Or.inr ⟨_, rfl, rfl, rfl⟩) l0 rfl rfl ?_
  refine g_pure (pc' := 2) (st' := [.ref x, .ref x]) cd_In_removeLeft rfl rfl (fun _ _ => rfl) ?_
  refine g_fI (c := 2) (k := 1) (x := (nI c)) (pc' := 5) cd_In_removeLeft rfl rfl rfl rfl rfl (by decide) hI.1.1 hI.1.2 hI.2.2.2.1 ?_
  refine g_k1 (v := 1) (pc' := 6) cd_In_removeLeft rfl (by decide) rfl ?_
  refine g_pure (pc' := 7) (st' := [.int ((nI c) - 1), .ref x]) cd_In_removeLeft rfl rfl (fun _ _ => rfl) ?_
  rw [show nI c - 1 = nI (c - 1) from pk_sub (b := 1) (by omega)]
  refine g_putI (c := 2) (k := 1) (pc' := 10) cd_In_removeLeft rfl rfl rfl rfl (by simp [tm_okV, narrow, fits]) (Or.inl rfl) rfl (by decide) hI.1.1 hI.1.2 ?_
  refine g_ald (pc' := 11) cd_In_removeLeft rfl (Or.inr ⟨_, rfl, rfl, rfl⟩) l0 rfl rfl ?_
  refine g_fR (c := 2) (k := 0) (x := la) (pc' := 14) cd_In_removeLeft rfl rfl rfl rfl rfl (by decide) hI.1.1 hI.1.2 hI.2.1 ?_
  refine g_ild (pc' := 15) cd_In_removeLeft rfl (Or.inr ⟨_, rfl, rfl, rfl⟩) l1 rfl ?_
  refine g_k1 (v := 1) (pc' := 16) cd_In_removeLeft rfl (by decide) rfl ?_
  refine g_pure (pc' := 17) (st' := [.int ((nI i) + 1), .ref la]) cd_In_removeLeft rfl rfl (fun _ _ => rfl) ?_
  rw [nI_1 i]
  refine g_k1 (v := 3) (pc' := 18) cd_In_removeLeft rfl (by decide) rfl ?_
  refine g_pure (pc' := 19) (st' := [.int ((nI (i + 1)) * 3), .ref la]) cd_In_removeLeft rfl rfl (fun _ _ => rfl) ?_
  rw [show nI (i + 1) * 3 = nI ((i + 1) * 3) from pk_mul (i + 1) 3]
  refine g_ald (pc' := 20) cd_In_removeLeft rfl (Or.inr ⟨_, rfl, rfl, rfl⟩) l0 rfl rfl ?_
  refine g_fR (c := 2) (k := 0) (x := la) (pc' := 23) cd_In_removeLeft rfl rfl rfl rfl rfl (by decide) hI.1.1 hI.1.2 hI.2.1 ?_
  refine g_ild (pc' := 24) cd_In_removeLeft rfl (Or.inr ⟨_, rfl, rfl, rfl⟩) l1 rfl ?_
  refine g_k1 (v := 3) (pc' := 25) cd_In_removeLeft rfl (by decide) rfl ?_
  refine g_pure (pc' := 26) (st' := [.int ((nI i) * 3), .ref la, .int (nI ((i + 1) * 3)), .ref la]) cd_In_removeLeft rfl rfl (fun _ _ => rfl) ?_
  rw [show nI i * 3 = nI (i * 3) from pk_mul i 3]
  refine g_ald (pc' := 27) cd_In_removeLeft rfl (Or.inr ⟨_, rfl, rfl, rfl⟩) l0 rfl rfl ?_
  refine g_fI (c := 2) (k := 1) (x := (nI (c - 1))) (pc' := 30) cd_In_removeLeft rfl rfl rfl rfl rfl (by decide) hI.1.1 hI.1.2 (by simp [bm_putI, bm_up3, bm_FI]) ?_
  refine g_ild (pc' := 31) cd_In_removeLeft rfl (Or.inr ⟨_, rfl, rfl, rfl⟩) l1 rfl ?_
  refine g_pure (pc' := 32) (st' := [.int ((nI (c - 1)) - (nI i)), .int (nI (i * 3)), .ref la, .int (nI ((i + 1) * 3)), .ref la]) cd_In_removeLeft rfl rfl (fun _ _ => rfl) ?_
  rw [pk_sub (a := c - 1) (b := i) (by omega)]
  refine g_k1 (v := 3) (pc' := 33) cd_In_removeLeft rfl (by decide) rfl ?_
  refine g_pure (pc' := 34) (st' := [.int ((nI (c - 1 - i)) * 3), .int (nI (i * 3)), .ref la, .int (nI ((i + 1) * 3)), .ref la]) cd_In_removeLeft rfl rfl (fun _ _ => rfl) ?_
  rw [show nI (c - 1 - i) * 3 = nI ((c - 1 - i) * 3) from pk_mul (c - 1 - i) 3]
  refine g_copy (pc' := 37) cd_In_removeLeft rfl rfl rfl hI.2.2.1.1 hI.2.2.1.2.1 hI.2.2.1.1 hI.2.2.1.2.1 (nI_pos (by omega)) (nI_pos (by omega)) (nI_pos (by omega)) (by rw [nI_clamp (by omega), nI_clamp (by omega)]; show _ ≤ bm_AL B la; rw [show bm_AL B la = 24 from hI.2.2.1.2.2]; omega) (by rw [nI_clamp (by omega), nI_clamp (by omega)]; show _ ≤ bm_AL B la; rw [show bm_AL B la = 24 from hI.2.2.1.2.2]; omega) rfl ?_
  rw [nI_clamp (show (i + 1) * 3 < 2 ^ 31 by omega), nI_clamp (show i * 3 < 2 ^ 31 by omega), nI_clamp (show (c - 1 - i) * 3 < 2 ^ 31 by omega)]
  exact g_retv cd_In_removeLeft rfl ⟨rfl, kk⟩
set_option maxRecDepth 100000 in
theorem l_In_takeLeft {sc : tm_X} {d : Nat} {B : bm_H} {x la c : Nat} {p n : Int32} {Q : Int32 → bm_H → Prop} (hI : in_ok B x la c) (kk0 : (∀ q, q < c → ¬ (bm_AI B la (q * 3) = p ∧ bm_AI B la (q * 3 + 1) = n)) → Q 0 B) (kk1 : ∀ i, i < c → bm_AI B la (i * 3) = p → bm_AI B la (i * 3 + 1) = n → (∀ q, q < i → ¬ (bm_AI B la (q * 3) = p ∧ bm_AI B la (q * 3 + 1) = n)) → Q (bm_AI B la (i * 3 + 2)) (in_rem B x la c i)) : ∀ (m i : Nat), i + m = c → (∀ q, q < i → ¬ (bm_AI B la (q * 3) = p ∧ bm_AI B la (q * 3 + 1) = n)) → ∀ lv : tm_L, lv.lookup 0 = some (.ref x) → lv.lookup 1 = some (.int p) → lv.lookup 2 = some (.int n) → lv.lookup 3 = some (.int (nI i)) → bm_G sc (d + 2) 113 2 lv [] B (fun r B' => ∃ y, r = some (.int y) ∧ Q y B') := by
  have hc8 : c ≤ 8 := hI.2.2.2.2
  intro m
  induction m with
  | zero =>
    intro i hi hno lv l0 l1 l2 l3
    refine g_ild (pc' := 3) cd_In_takeLeft rfl (Or.inr ⟨_, rfl, rfl, rfl⟩) l3 rfl ?_
    refine g_ald (pc' := 4) cd_In_takeLeft rfl (Or.inr ⟨_, rfl, rfl, rfl⟩) l0 rfl rfl ?_
    refine g_fI (c := 2) (k := 1) (x := (nI c)) (pc' := 7) cd_In_takeLeft rfl rfl rfl rfl rfl (by decide) hI.1.1 hI.1.2 hI.2.2.2.1 ?_
    refine g_if2 (t := 54) (pc' := 10) cd_In_takeLeft rfl rfl rfl (fun c7 => ?_) (fun c7 => ?_)
    · have c7 : (nI c) ≤ (nI i) := c7
      refine g_k1 (v := 0) (pc' := 55) cd_In_takeLeft rfl (by decide) rfl ?_
      exact g_reti cd_In_takeLeft rfl ⟨_, rfl, kk0 (fun q hq => hno q (by omega))⟩
    · have c7 : ¬ (nI c) ≤ (nI i) := c7
      exact absurd (by rw [show i = c by omega]; exact Int32.le_refl _) c7
  | succ m ih =>
    intro i hi hno lv l0 l1 l2 l3
    have hic : i < c := by omega
    refine g_ild (pc' := 3) cd_In_takeLeft rfl (Or.inr ⟨_, rfl, rfl, rfl⟩) l3 rfl ?_
    refine g_ald (pc' := 4) cd_In_takeLeft rfl (Or.inr ⟨_, rfl, rfl, rfl⟩) l0 rfl rfl ?_
    refine g_fI (c := 2) (k := 1) (x := (nI c)) (pc' := 7) cd_In_takeLeft rfl rfl rfl rfl rfl (by decide) hI.1.1 hI.1.2 hI.2.2.2.1 ?_
    refine g_if2 (t := 54) (pc' := 10) cd_In_takeLeft rfl rfl rfl (fun c7 => ?_) (fun c7 => ?_)
    · have c7 : (nI c) ≤ (nI i) := c7
      exact absurd c7 (nI_ge hic (by omega))
    · have c7 : ¬ (nI c) ≤ (nI i) := c7
      refine g_ald (pc' := 11) cd_In_takeLeft rfl (Or.inr ⟨_, rfl, rfl, rfl⟩) l0 rfl rfl ?_
      refine g_ild (pc' := 12) cd_In_takeLeft rfl (Or.inr ⟨_, rfl, rfl, rfl⟩) l3 rfl ?_
      refine g_calli (pc' := 15) cd_In_takeLeft rfl rfl rfl rfl rfl (tm_invV rfl rfl cd_In_leftPublic rfl (Nat.le_of_ble_eq_true rfl) (by decide) hI.1.1 hI.1.2) (k_In_leftPublic hI ?_)
      rw [in_get_n (nI_pos (by omega)) (nI_ge hic (by omega)), nI_clamp (by omega), Nat.add_zero]
      show bm_G _ _ _ 15 _ [.int (bm_AI B la (i * 3))] B _
      refine g_ild (pc' := 16) cd_In_takeLeft rfl (Or.inr ⟨_, rfl, rfl, rfl⟩) l1 rfl ?_
      refine g_if2 (t := 48) (pc' := 19) cd_In_takeLeft rfl rfl rfl (fun c16 => ?_) (fun c16 => ?_)
      · have c16 : ¬ (bm_AI B la (i * 3)) = p := c16
        refine g_inc (y := nI (i + 1)) (pc' := 51) cd_In_takeLeft rfl l3 (by decide) (nI_1 i) rfl (fun lv el => ?_)
        have l0 := tm_lk el l0 rfl (by decide)
        have l1 := tm_lk el l1 rfl (by decide)
        have l2 := tm_lk el l2 rfl (by decide)
        have l3 : lv.lookup 3 = some (.int (nI (i + 1))) := tm_lks el
        clear el
        refine g_pure (pc' := 2) (st' := []) cd_In_takeLeft rfl rfl (fun _ _ => rfl) ?_
        exact ih (i + 1) (by omega) (fun q hq => by
          by_cases e : q = i
          · subst e; exact fun h => c16 h.1
          · exact hno q (by omega)) lv l0 l1 l2 l3
      · have c16 : ¬ (¬ (bm_AI B la (i * 3)) = p) := c16
        refine g_ald (pc' := 20) cd_In_takeLeft rfl (Or.inr ⟨_, rfl, rfl, rfl⟩) l0 rfl rfl ?_
        refine g_fR (c := 2) (k := 0) (x := la) (pc' := 23) cd_In_takeLeft rfl rfl rfl rfl rfl (by decide) hI.1.1 hI.1.2 hI.2.1 ?_
        refine g_ild (pc' := 24) cd_In_takeLeft rfl (Or.inr ⟨_, rfl, rfl, rfl⟩) l3 rfl ?_
        refine g_k1 (v := 3) (pc' := 25) cd_In_takeLeft rfl (by decide) rfl ?_
        refine g_pure (pc' := 26) (st' := [.int ((nI i) * 3), .ref la]) cd_In_takeLeft rfl rfl (fun _ _ => rfl) ?_
        refine g_k1 (v := 1) (pc' := 27) cd_In_takeLeft rfl (by decide) rfl ?_
        refine g_pure (pc' := 28) (st' := [.int (((nI i) * 3) + 1), .ref la]) cd_In_takeLeft rfl rfl (fun _ _ => rfl) ?_
        refine g_aI (x := (bm_AI B la (i * 3 + 1))) (pc' := 29) cd_In_takeLeft rfl rfl hI.2.2.1.1 hI.2.2.1.2.1 (in_ixN hI (u := i) (k := 1) (by omega)).1 (congrArg (bm_AI B la) (in_ixN hI (u := i) (k := 1) (by omega)).2) ?_
        refine g_ild (pc' := 30) cd_In_takeLeft rfl (Or.inr ⟨_, rfl, rfl, rfl⟩) l2 rfl ?_
        refine g_if2 (t := 48) (pc' := 33) cd_In_takeLeft rfl rfl rfl (fun c30 => ?_) (fun c30 => ?_)
        · have c30 : ¬ (bm_AI B la (i * 3 + 1)) = n := c30
          refine g_inc (y := nI (i + 1)) (pc' := 51) cd_In_takeLeft rfl l3 (by decide) (nI_1 i) rfl (fun lv el => ?_)
          have l0 := tm_lk el l0 rfl (by decide)
          have l1 := tm_lk el l1 rfl (by decide)
          have l2 := tm_lk el l2 rfl (by decide)
          have l3 : lv.lookup 3 = some (.int (nI (i + 1))) := tm_lks el
          clear el
          refine g_pure (pc' := 2) (st' := []) cd_In_takeLeft rfl rfl (fun _ _ => rfl) ?_
          exact ih (i + 1) (by omega) (fun q hq => by
            by_cases e : q = i
            · subst e; exact fun h => c30 h.2
            · exact hno q (by omega)) lv l0 l1 l2 l3
        · have c30 : ¬ (¬ (bm_AI B la (i * 3 + 1)) = n) := c30
          refine g_ald (pc' := 34) cd_In_takeLeft rfl (Or.inr ⟨_, rfl, rfl, rfl⟩) l0 rfl rfl ?_
          refine g_ild (pc' := 35) cd_In_takeLeft rfl (Or.inr ⟨_, rfl, rfl, rfl⟩) l3 rfl ?_
          refine g_calli (pc' := 38) cd_In_takeLeft rfl rfl rfl rfl rfl (tm_invV rfl rfl cd_In_leftKey rfl (Nat.le_of_ble_eq_true rfl) (by decide) hI.1.1 hI.1.2) (k_In_leftKey hI ?_)
          rw [in_get_n (nI_pos (by omega)) (nI_ge hic (by omega)), nI_clamp (by omega)]
          show bm_G _ _ _ 38 _ [.int (bm_AI B la (i * 3 + 2))] B _
          refine g_ist (pc' := 40) cd_In_takeLeft rfl (Or.inl ⟨rfl, rfl⟩) (by decide) rfl (fun lv el => ?_)
          have l0 := tm_lk el l0 rfl (by decide)
          have l1 := tm_lk el l1 rfl (by decide)
          have l2 := tm_lk el l2 rfl (by decide)
          have l3 := tm_lk el l3 rfl (by decide)
          have l4 : lv.lookup 4 = some (.int (bm_AI B la (i * 3 + 2))) := tm_lks el
          clear el
          refine g_ald (pc' := 41) cd_In_takeLeft rfl (Or.inr ⟨_, rfl, rfl, rfl⟩) l0 rfl rfl ?_
          refine g_ild (pc' := 42) cd_In_takeLeft rfl (Or.inr ⟨_, rfl, rfl, rfl⟩) l3 rfl ?_
          refine g_callv (pc' := 45) cd_In_takeLeft rfl rfl rfl rfl rfl (tm_invV rfl rfl cd_In_removeLeft rfl (Nat.le_of_ble_eq_true rfl) (by decide) hI.1.1 hI.1.2) (k_In_removeLeft hI hic ?_)
          show bm_G _ _ _ 45 _ [] (in_rem B x la c i) _
          refine g_ild (pc' := 47) cd_In_takeLeft rfl (Or.inl ⟨rfl, rfl⟩) l4 rfl ?_
          exact g_reti cd_In_takeLeft rfl ⟨_, rfl, kk1 i hic (Classical.not_not.mp c16) (Classical.not_not.mp c30) hno⟩
set_option maxRecDepth 100000 in
theorem k_In_takeLeft {sc : tm_X} {d : Nat} {B : bm_H} {x la c : Nat} {p n : Int32} {Q : Int32 → bm_H → Prop} (hI : in_ok B x la c) (kk0 : (∀ q, q < c → ¬ (bm_AI B la (q * 3) = p ∧ bm_AI B la (q * 3 + 1) = n)) → Q 0 B) (kk1 : ∀ i, i < c → bm_AI B la (i * 3) = p → bm_AI B la (i * 3 + 1) = n → (∀ q, q < i → ¬ (bm_AI B la (q * 3) = p ∧ bm_AI B la (q * 3 + 1) = n)) → Q (bm_AI B la (i * 3 + 2)) (in_rem B x la c i)) : bm_Gi sc (d + 2) 113 [.ref x, .int p, .int n] B Q := by
  show bm_G sc (d + 2) 113 0 [(0, .ref x), (1, .int p), (2, .int n)] [] B _
  generalize elv : ([(0, .ref x), (1, .int p), (2, .int n)] : tm_L) = lv
  have l0 : lv.lookup 0 = some (.ref x) := by rw [← elv]; rfl
  have l1 : lv.lookup 1 = some (.int p) := by rw [← elv]; rfl
  have l2 : lv.lookup 2 = some (.int n) := by rw [← elv]; rfl
  clear elv
  refine g_k1 (v := 0) (pc' := 1) cd_In_takeLeft rfl (by decide) rfl ?_
  refine g_ist (pc' := 2) cd_In_takeLeft rfl (Or.inr ⟨_, rfl, rfl, rfl⟩) (by decide) rfl (fun lv el => ?_)
  have l0 := tm_lk el l0 rfl (by decide)
  have l1 := tm_lk el l1 rfl (by decide)
  have l2 := tm_lk el l2 rfl (by decide)
  have l3 : lv.lookup 3 = some (.int 0) := tm_lks el
  clear el
  exact l_In_takeLeft hI kk0 kk1 c 0 (by omega) (fun q hq => by omega) lv l0 l1 l2 l3
set_option maxRecDepth 100000 in
theorem k_In_copyFrom {sc : tm_X} {d : Nat} {B : bm_H} {x la c0 y lb c : Nat} {Q : bm_H → Prop} (hI : in_ok B x la c0) (hJ : in_ok B y lb c) (hne : x ≠ y) (kk : Q (in_cp B x la y lb c)) : bm_Gv sc (d + 1) 39 [.ref x, .ref y] B Q := by
  have hc8 : c ≤ 8 := hJ.2.2.2.2
  show bm_G sc (d + 1) 39 0 [(0, .ref x), (1, .ref y)] [] B _
  generalize elv : ([(0, .ref x), (1, .ref y)] : tm_L) = lv
  have l0 : lv.lookup 0 = some (.ref x) := by rw [← elv]; rfl
  have l1 : lv.lookup 1 = some (.ref y) := by rw [← elv]; rfl
  clear elv
  refine g_ald (pc' := 1) cd_In_copyFrom rfl (Or.inr ⟨_, rfl, rfl, rfl⟩) l0 rfl rfl ?_
  refine g_ald (pc' := 2) cd_In_copyFrom rfl (Or.inr ⟨_, rfl, rfl, rfl⟩) l1 rfl rfl ?_
  refine g_fI (c := 2) (k := 2) (x := (bm_FI B 2 2 y)) (pc' := 5) cd_In_copyFrom rfl rfl rfl rfl rfl (by decide) hJ.1.1 hJ.1.2 rfl ?_
  refine g_putI (c := 2) (k := 2) (pc' := 8) cd_In_copyFrom rfl rfl rfl rfl (by simp [tm_okV, narrow, fits]) (Or.inl rfl) rfl (by decide) hI.1.1 hI.1.2 ?_
  refine g_ald (pc' := 9) cd_In_copyFrom rfl (Or.inr ⟨_, rfl, rfl, rfl⟩) l0 rfl rfl ?_
  refine g_ald (pc' := 10) cd_In_copyFrom rfl (Or.inr ⟨_, rfl, rfl, rfl⟩) l1 rfl rfl ?_
  refine g_fI (c := 2) (k := 3) (x := (bm_FI B 2 3 y)) (pc' := 13) cd_In_copyFrom rfl rfl rfl rfl rfl (by decide) hJ.1.1 hJ.1.2 rfl ?_
  refine g_putI (c := 2) (k := 3) (pc' := 16) cd_In_copyFrom rfl rfl rfl rfl (by simp [tm_okV, narrow, fits]) (Or.inl rfl) rfl (by decide) hI.1.1 hI.1.2 ?_
  refine g_ald (pc' := 17) cd_In_copyFrom rfl (Or.inr ⟨_, rfl, rfl, rfl⟩) l0 rfl rfl ?_
  refine g_ald (pc' := 18) cd_In_copyFrom rfl (Or.inr ⟨_, rfl, rfl, rfl⟩) l1 rfl rfl ?_
  refine g_fI (c := 2) (k := 4) (x := (bm_FI B 2 4 y)) (pc' := 21) cd_In_copyFrom rfl rfl rfl rfl rfl (by decide) hJ.1.1 hJ.1.2 rfl ?_
  refine g_putI (c := 2) (k := 4) (pc' := 24) cd_In_copyFrom rfl rfl rfl rfl (by simp [tm_okV, narrow, fits]) (Or.inl rfl) rfl (by decide) hI.1.1 hI.1.2 ?_
  refine g_ald (pc' := 25) cd_In_copyFrom rfl (Or.inr ⟨_, rfl, rfl, rfl⟩) l0 rfl rfl ?_
  refine g_ald (pc' := 26) cd_In_copyFrom rfl (Or.inr ⟨_, rfl, rfl, rfl⟩) l1 rfl rfl ?_
  refine g_fI (c := 2) (k := 1) (x := (nI c)) (pc' := 29) cd_In_copyFrom rfl rfl rfl rfl rfl (by decide) hJ.1.1 hJ.1.2 hJ.2.2.2.1 ?_
  refine g_putI (c := 2) (k := 1) (pc' := 32) cd_In_copyFrom rfl rfl rfl rfl (by simp [tm_okV, narrow, fits]) (Or.inl rfl) rfl (by decide) hI.1.1 hI.1.2 ?_
  refine g_ald (pc' := 33) cd_In_copyFrom rfl (Or.inr ⟨_, rfl, rfl, rfl⟩) l1 rfl rfl ?_
  refine g_fR (c := 2) (k := 0) (x := lb) (pc' := 36) cd_In_copyFrom rfl rfl rfl rfl rfl (by decide) hJ.1.1 hJ.1.2 hJ.2.1 ?_
  refine g_k1 (v := 0) (pc' := 37) cd_In_copyFrom rfl (by decide) rfl ?_
  refine g_ald (pc' := 38) cd_In_copyFrom rfl (Or.inr ⟨_, rfl, rfl, rfl⟩) l0 rfl rfl ?_
  refine g_fR (c := 2) (k := 0) (x := la) (pc' := 41) cd_In_copyFrom rfl rfl rfl rfl rfl (by decide) hI.1.1 hI.1.2 hI.2.1 ?_
  refine g_k1 (v := 0) (pc' := 42) cd_In_copyFrom rfl (by decide) rfl ?_
  refine g_ald (pc' := 43) cd_In_copyFrom rfl (Or.inr ⟨_, rfl, rfl, rfl⟩) l0 rfl rfl ?_
  refine g_fI (c := 2) (k := 1) (x := (nI c)) (pc' := 46) cd_In_copyFrom rfl rfl rfl rfl rfl (by decide) hI.1.1 hI.1.2 (by simp [bm_putI, bm_up3, bm_FI]) ?_
  refine g_k1 (v := 3) (pc' := 47) cd_In_copyFrom rfl (by decide) rfl ?_
  refine g_pure (pc' := 48) (st' := [.int ((nI c) * 3), .int 0, .ref la, .int 0, .ref lb]) cd_In_copyFrom rfl rfl (fun _ _ => rfl) ?_
  rw [show nI c * 3 = nI (c * 3) from pk_mul c 3]
  refine g_copy (pc' := 51) cd_In_copyFrom rfl rfl rfl hJ.2.2.1.1 hJ.2.2.1.2.1 hI.2.2.1.1 hI.2.2.1.2.1 (by decide) (by decide) (nI_pos (by omega)) (by rw [nI_clamp (by omega), show (0 : Int32).toNatClampNeg = 0 from rfl]; show _ ≤ bm_AL B lb; rw [show bm_AL B lb = 24 from hJ.2.2.1.2.2]; omega) (by rw [nI_clamp (by omega), show (0 : Int32).toNatClampNeg = 0 from rfl]; show _ ≤ bm_AL B la; rw [show bm_AL B la = 24 from hI.2.2.1.2.2]; omega) rfl ?_
  rw [nI_clamp (show c * 3 < 2 ^ 31 by omega), show (0 : Int32).toNatClampNeg = 0 from rfl]
  exact g_retv cd_In_copyFrom rfl ⟨rfl, kk⟩
