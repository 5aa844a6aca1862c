/-! Arrays.copyOf to a longer array; Terms.hasRoom -/
/-- the array at c, longer, in a new cell -/
def bm_grow (B : bm_H) (c L N : Nat) : bm_H := bm_allI (bm_newA B 13 N) (bm_n B) (fun q => if q < L then bm_AI B c q else 0)
theorem bm_newA_K {B : bm_H} {t N x : Nat} (h : x < bm_n B) : bm_K (bm_newA B t N) x = bm_K B x := va_up_ne _ _ (Nat.ne_of_lt h)
theorem bm_newA_AL {B : bm_H} {t N x : Nat} (h : x < bm_n B) : bm_AL (bm_newA B t N) x = bm_AL B x := va_up_ne _ _ (Nat.ne_of_lt h)
theorem bm_newA_AI {B : bm_H} {t N x : Nat} (h : x < bm_n B) : bm_AI (bm_newA B t N) x = bm_AI B x := by
  funext q
  exact if_neg (Nat.ne_of_lt h)
theorem bm_newA_AI0 {B : bm_H} {t N : Nat} : bm_AI (bm_newA B t N) (bm_n B) = fun _ => 0 := by
  funext q
  exact if_pos rfl
theorem bm_allI_congr {B : bm_H} {a : Nat} {f g : Nat → Int32} (h : ∀ q, f q = g q) : bm_allI B a f = bm_allI B a g := by rw [show f = g from funext h]
set_option maxRecDepth 100000 in
theorem k_Ar_copyOf {sc : tm_X} {d : Nat} {B : bm_H} {c L N : Nat} {Q : Option Nat → bm_H → Prop} (hc : c < bm_n B) (hK : bm_K B c = 13) (hL : bm_AL B c = L) (hLN : L < N) (hN : N ≤ 100000000) (kk : Q (some (bm_n B)) (bm_grow B c L N)) : bm_Gr sc (d + 1) 20 [.ref c, .int (nI N)] B Q := by
  show bm_G sc (d + 1) 20 0 [(0, .ref c), (1, .int (nI N))] [] B _
  generalize elv : ([(0, .ref c), (1, .int (nI N))] : tm_L) = lv
  have l0 : lv.lookup 0 = some (.ref c) := by rw [← elv]; rfl
  have l1 : lv.lookup 1 = some (.int (nI N)) := by rw [← elv]; rfl
  clear elv
  refine g_ild (pc' := 1) cd_Ar_copyOf rfl (Or.inr ⟨_, rfl, rfl, rfl⟩) l1 rfl ?_
  refine g_ald (pc' := 2) cd_Ar_copyOf rfl (Or.inr ⟨_, rfl, rfl, rfl⟩) l0 rfl rfl ?_
  refine g_al (x := (nI L)) (pc' := 3) cd_Ar_copyOf rfl rfl hc (Nat.le_of_eq (Eq.symm hK)) (by rw [show bm_K B c = 13 from hK]; decide) (by rw [show bm_AL B c = L from hL]; rfl) ?_
  refine g_if2 (t := 14) (pc' := 6) cd_Ar_copyOf rfl rfl rfl (fun c3 => ?_) (fun c3 => ?_)
  · have c3 : ¬ (nI N) = (nI L) := c3
    refine g_ild (pc' := 15) cd_Ar_copyOf rfl (Or.inr ⟨_, rfl, rfl, rfl⟩) l1 rfl ?_
    refine g_newI (pc' := 17) cd_Ar_copyOf rfl rfl (nI_pos (by omega)) (by rw [nI_clamp (by omega)]; omega) ?_
    rw [nI_clamp (show N < 2 ^ 31 by omega)]
    refine g_ast (pc' := 18) cd_Ar_copyOf rfl (Or.inr ⟨_, rfl, rfl, rfl⟩) rfl (by decide) rfl (fun lv el => ?_)
    have l0 := tm_lk el l0 rfl (by decide)
    have l1 := tm_lk el l1 rfl (by decide)
    have l2 : lv.lookup 2 = some (.ref ((bm_n B))) := tm_lks el
    clear el
    refine g_ald (pc' := 19) cd_Ar_copyOf rfl (Or.inr ⟨_, rfl, rfl, rfl⟩) l0 rfl rfl ?_
    refine g_k1 (v := 0) (pc' := 20) cd_Ar_copyOf rfl (by decide) rfl ?_
    refine g_ald (pc' := 21) cd_Ar_copyOf rfl (Or.inr ⟨_, rfl, rfl, rfl⟩) l2 rfl rfl ?_
    refine g_k1 (v := 0) (pc' := 22) cd_Ar_copyOf rfl (by decide) rfl ?_
    refine g_ald (pc' := 23) cd_Ar_copyOf rfl (Or.inr ⟨_, rfl, rfl, rfl⟩) l0 rfl rfl ?_
    refine g_al (x := (nI L)) (pc' := 24) cd_Ar_copyOf rfl rfl (Nat.lt_succ_of_lt hc) (Nat.le_of_eq (Eq.symm ((bm_newA_K hc).trans hK))) (by rw [show bm_K (bm_newA B 13 N) c = 13 from ((bm_newA_K hc).trans hK)]; decide) (by rw [bm_newA_AL hc, show bm_AL B c = L from hL]; rfl) ?_
    refine g_ild (pc' := 25) cd_Ar_copyOf rfl (Or.inr ⟨_, rfl, rfl, rfl⟩) l1 rfl ?_
    refine g_min (pc' := 28) cd_Ar_copyOf rfl rfl rfl rfl ?_
    rw [if_neg (nI_nlt (Nat.le_of_lt hLN) (by omega))]
    refine g_copy (pc' := 31) cd_Ar_copyOf rfl rfl rfl (Nat.lt_succ_of_lt hc) ((bm_newA_K hc).trans hK) (Nat.lt_succ_self _) (va_up_self _ _ _) (by decide) (by decide) (nI_pos (by omega)) (by rw [nI_clamp (by omega), bm_newA_AL hc, hL, show (0 : Int32).toNatClampNeg = 0 from rfl]; omega) (by rw [nI_clamp (by omega), show bm_AL (bm_newA B 13 N) (bm_n B) = N from va_up_self _ _ _, show (0 : Int32).toNatClampNeg = 0 from rfl]; omega) rfl ?_
    rw [nI_clamp (show L < 2 ^ 31 by omega), show (0 : Int32).toNatClampNeg = 0 from rfl, bm_newA_AI hc, bm_newA_AI0, bm_allI_congr (g := fun q => if q < L then bm_AI B c q else 0) (fun q => by by_cases h : q < L <;> simp [va_cpy, h])]
    refine g_ald (pc' := 32) cd_Ar_copyOf rfl (Or.inr ⟨_, rfl, rfl, rfl⟩) l2 rfl rfl ?_
    exact g_reta cd_Ar_copyOf rfl ⟨some (bm_n B), rfl, kk⟩
  · have c3 : ¬ (¬ (nI N) = (nI L)) := c3
    exact absurd (Classical.not_not.mp c3) (fun q => Nat.ne_of_gt hLN ((nI_eq (by omega) (by omega)).mp q))
/-- Terms with twice the room -/
def te_grow (B : bm_H) (a ca rm : Nat) : bm_H := bm_putR (bm_grow (bm_putI B 9 3 a (nI (rm * 2))) ca (rm * 11) (rm * 2 * 11)) 9 0 a (some (bm_n B))
def te_room (sz rm : Nat) : Bool := decide (sz + 256 ≤ rm)
set_option maxRecDepth 100000 in
theorem k_Te_hasRoom {sc : tm_X} {d : Nat} {B : bm_H} {a ca ba da rm sz dr : Nat} {Q : Int32 → bm_H → Prop} (hT : te_ok B a ca ba da rm sz dr) (kk0 : sz + 256 ≤ rm → Q 1 B) (kk1 : rm < sz + 256 → rm < 65536 → Q 1 (te_grow B a ca rm)) (kk2 : rm < sz + 256 → 65536 ≤ rm → Q 0 B) : bm_Gi sc (d + 2) 34 [.ref a] B Q := by
  have hr1 : rm ≤ 65536 := hT.2.2.2.2.1.2.2
  have hr2 : sz ≤ rm := hT.2.2.2.2.1.2.1
  have hr3 : 1 ≤ sz := hT.2.2.2.2.1.1
  show bm_G sc (d + 2) 34 0 [(0, .ref a)] [] B _
  generalize elv : ([(0, .ref a)] : tm_L) = lv
  have l0 : lv.lookup 0 = some (.ref a) := by rw [← elv]; rfl
  clear elv
  refine g_ald (pc' := 1) cd_Te_hasRoom rfl (Or.inr ⟨_, rfl, rfl, rfl⟩) l0 rfl rfl ?_
  refine g_fI (c := 9) (k := 4) (x := (nI sz)) (pc' := 4) cd_Te_hasRoom rfl rfl rfl rfl rfl (by decide) hT.1.1 hT.1.2 hT.2.2.2.1.2.1 ?_
  refine g_k3 (v := 256) (pc' := 7) cd_Te_hasRoom rfl (by decide) rfl ?_
  refine g_pure (pc' := 8) (st' := [.int ((nI sz) + 256)]) cd_Te_hasRoom rfl rfl (fun _ _ => rfl) ?_
  rw [show nI sz + 256 = nI (sz + 256) from nI_add sz 256]
  refine g_ald (pc' := 9) cd_Te_hasRoom rfl (Or.inr ⟨_, rfl, rfl, rfl⟩) l0 rfl rfl ?_
  refine g_fI (c := 9) (k := 3) (x := (nI rm)) (pc' := 12) cd_Te_hasRoom rfl rfl rfl rfl rfl (by decide) hT.1.1 hT.1.2 hT.2.2.2.1.1 ?_
  refine g_if2 (t := 17) (pc' := 15) cd_Te_hasRoom rfl rfl rfl (fun c12 => ?_) (fun c12 => ?_)
  · have c12 : (nI rm) < (nI (sz + 256)) := c12
    refine g_ald (pc' := 18) cd_Te_hasRoom rfl (Or.inr ⟨_, rfl, rfl, rfl⟩) l0 rfl rfl ?_
    refine g_fI (c := 9) (k := 3) (x := (nI rm)) (pc' := 21) cd_Te_hasRoom rfl rfl rfl rfl rfl (by decide) hT.1.1 hT.1.2 hT.2.2.2.1.1 ?_
    refine g_ldc (pc' := 23) cd_Te_hasRoom rfl rfl rfl ?_
    refine g_if2 (t := 28) (pc' := 26) cd_Te_hasRoom rfl rfl rfl (fun c23 => ?_) (fun c23 => ?_)
    · have c23 : (nI rm) < 65536 := c23
      refine g_ald (pc' := 29) cd_Te_hasRoom rfl (Or.inr ⟨_, rfl, rfl, rfl⟩) l0 rfl rfl ?_
      refine g_pure (pc' := 30) (st' := [.ref a, .ref a]) cd_Te_hasRoom rfl rfl (fun _ _ => rfl) ?_
      refine g_fI (c := 9) (k := 3) (x := (nI rm)) (pc' := 33) cd_Te_hasRoom rfl rfl rfl rfl rfl (by decide) hT.1.1 hT.1.2 hT.2.2.2.1.1 ?_
      refine g_k1 (v := 2) (pc' := 34) cd_Te_hasRoom rfl (by decide) rfl ?_
      refine g_pure (pc' := 35) (st' := [.int ((nI rm) * 2), .ref a]) cd_Te_hasRoom rfl rfl (fun _ _ => rfl) ?_
      rw [show nI rm * 2 = nI (rm * 2) from pk_mul rm 2]
      refine g_putI (c := 9) (k := 3) (pc' := 38) cd_Te_hasRoom rfl rfl rfl rfl (by simp [tm_okV, narrow, fits]) (Or.inl rfl) rfl (by decide) hT.1.1 hT.1.2 ?_
      refine g_ald (pc' := 39) cd_Te_hasRoom rfl (Or.inr ⟨_, rfl, rfl, rfl⟩) l0 rfl rfl ?_
      refine g_ald (pc' := 40) cd_Te_hasRoom rfl (Or.inr ⟨_, rfl, rfl, rfl⟩) l0 rfl rfl ?_
      refine g_fR (c := 9) (k := 0) (x := ca) (pc' := 43) cd_Te_hasRoom rfl rfl rfl rfl rfl (by decide) hT.1.1 hT.1.2 hT.2.1.1 ?_
      refine g_ald (pc' := 44) cd_Te_hasRoom rfl (Or.inr ⟨_, rfl, rfl, rfl⟩) l0 rfl rfl ?_
      refine g_fI (c := 9) (k := 3) (x := (nI (rm * 2))) (pc' := 47) cd_Te_hasRoom rfl rfl rfl rfl rfl (by decide) hT.1.1 hT.1.2 (by simp [bm_putI, bm_up3, bm_FI]) ?_
      refine g_k2 (v := 11) (pc' := 49) cd_Te_hasRoom rfl (by decide) rfl ?_
      refine g_pure (pc' := 50) (st' := [.int ((nI (rm * 2)) * 11), .ref ca, .ref a]) cd_Te_hasRoom rfl rfl (fun _ _ => rfl) ?_
      rw [show nI (rm * 2) * 11 = nI (rm * 2 * 11) from pk_mul (rm * 2) 11]
      refine g_callr (pc' := 53) cd_Te_hasRoom rfl rfl rfl rfl rfl (tm_invS rfl rfl cd_Ar_copyOf rfl (Nat.le_of_ble_eq_true rfl)) (k_Ar_copyOf (L := rm * 11) (N := rm * 2 * 11) hT.2.2.1.1.1 hT.2.2.1.1.2.1 hT.2.2.1.1.2.2 (by omega) (by omega) ?_)
      show bm_G _ _ _ 53 _ [.ref ((bm_n B)), .ref a] (bm_grow (bm_putI B 9 3 a (nI (rm * 2))) ca (rm * 11) (rm * 2 * 11)) _
      refine g_putR (v := some (bm_n B)) (c := 9) (k := 0) (pc' := 56) rfl cd_Te_hasRoom rfl rfl rfl rfl (by simp [tm_okV, narrow, fits]) (Or.inl rfl) rfl (by decide) (Nat.lt_succ_of_lt hT.1.1) ((bm_newA_K (B := bm_putI B 9 3 a (nI (rm * 2))) (t := 13) (N := rm * 2 * 11) hT.1.1).trans hT.1.2) ?_
      refine g_k1 (v := 1) (pc' := 57) cd_Te_hasRoom rfl (by decide) rfl ?_
      exact g_retz cd_Te_hasRoom rfl (Or.inr rfl) ⟨_, rfl, kk1 (by have := (nI_ltI (a := rm) (b := sz + 256) (by omega) (by omega)).mp c12; omega) (by have h9 : nI rm < nI 65536 := c23; exact (nI_ltI (by omega) (by omega)).mp h9)⟩
    · have c23 : ¬ (nI rm) < 65536 := c23
      refine g_k1 (v := 0) (pc' := 27) cd_Te_hasRoom rfl (by decide) rfl ?_
      exact g_retz cd_Te_hasRoom rfl (Or.inl rfl) ⟨_, rfl, kk2 (by have := (nI_ltI (a := rm) (b := sz + 256) (by omega) (by omega)).mp c12; omega) (by have h9 : ¬ nI rm < nI 65536 := c23; have := mt (nI_ltI (a := rm) (b := 65536) (by omega) (by omega)).mpr h9; omega)⟩
  · have c12 : ¬ (nI rm) < (nI (sz + 256)) := c12
    refine g_k1 (v := 1) (pc' := 16) cd_Te_hasRoom rfl (by decide) rfl ?_
    exact g_retz cd_Te_hasRoom rfl (Or.inr rfl) ⟨_, rfl, kk0 ((nI_leI (by omega) (by omega)).mp (Int32.not_lt.mp c12))⟩
