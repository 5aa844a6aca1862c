/-! Terms.intern -/
section BD
variable {sc : tm_X} {d j pc pc' o nL : Nat} {ini : Bool} {ret : Option FieldType} {code : List (Nat × Instr × Nat)} {lv lv' : tm_L} {st st' rest : List Value} {B B' : bm_H} {Q Q' : Option Value → bm_H → Prop} {i : Instr} {len : Nat}
theorem g_al {a : Nat} {x : Int32} (hc : tm_cd j o nL ini ret code) (hl : code.lookup pc = some (.arraylength, 1)) (hp : pc + 1 = pc') (ha : a < bm_n B) (hK : 13 ≤ bm_K B a) (hK2 : bm_K B a < 22) (hx : Int32.ofNat (bm_AL B a) = x) (kk : bm_G sc d j pc' lv (.int x :: st) B Q) : bm_G sc d j pc lv (.ref a :: st) B Q := by
  subst hx
  exact g_alen hc hl hp ha hK hK2 kk
theorem bm_cell_allI {B : bm_H} {a : Nat} {f : Nat → Int32} (hK : bm_K B a = 13) : tm_put (bm_enc B) a (.inl (0, bm_AL B a, f)) = bm_enc (bm_allI B a f) := by
  refine bm_enc_put rfl rfl ?_ (fun a' ha' => bm_cell_eq rfl (fun _ _ => rfl) (fun _ _ => rfl) rfl (fun i' => if_neg ha') (fun _ => rfl))
  unfold bm_cell
  have hK' : bm_K (bm_allI B a f) a = 13 := hK
  rw [hK', if_neg (by decide), if_pos (by decide)]
  congr 3
  funext q
  exact if_pos rfl
theorem g_copy {ix x1 x2 x3 x4 x5 x6 a0 a1 : Nat} {sp dp n : Int32} (hc : tm_cd j o nL ini ret code) (hl : code.lookup pc = some (.invokestatic ix, 3)) (hcall : tm_callR o ix = some (o, ix, 4, x1, 5, x2, x3, x4, x5, x6)) (hp : pc + 3 = pc') (h0 : a0 < bm_n B) (hK0 : bm_K B a0 = 13) (h1 : a1 < bm_n B) (hK1 : bm_K B a1 = 13) (c1 : ¬ sp < 0) (c2 : ¬ dp < 0) (c3 : ¬ n < 0) (c4 : sp.toNatClampNeg + n.toNatClampNeg ≤ bm_AL B a0) (c5 : dp.toNatClampNeg + n.toNatClampNeg ≤ bm_AL B a1) (hr : tm_rest rest = true) (kk : bm_G sc (d + 1) j pc' lv rest (bm_allI B a1 (va_cpy (bm_AI B a0) (bm_AI B a1) sp.toNatClampNeg dp.toNatClampNeg n.toNatClampNeg)) Q) : bm_G sc (d + 1) j pc lv (.int n :: .int dp :: .ref a1 :: .int sp :: .ref a0 :: rest) B Q := by
  subst hp
  refine g_nat hc hl rfl rfl ?_ kk
  simp only [tm_nat, hcall, tm_copy, bm_getI (t := 0) h0 hK0 (by decide), bm_getI (t := 0) h1 hK1 (by decide)]
  rw [if_pos ⟨c1, c2, c3, c4, c5, hr⟩, bm_cell_allI hK1]
end BD
/-- the hash of a row's first n numbers -/
def te_hash (f : Nat → Int32) : Nat → Int32
  | 0 => 0
  | n + 1 => te_hash f n * 31 + f n
def te_slot (f : Nat → Int32) : Int32 := ((te_hash f 10 ^^^ ((te_hash f 10).toUInt32 >>> ((12 : Int32).toUInt32 &&& Int32.toUInt32 31)).toInt32) ^^^ ((te_hash f 10).toUInt32 >>> ((24 : Int32).toUInt32 &&& Int32.toUInt32 31)).toInt32) &&& 4095
def te_sn (f : Nat → Int32) : Nat := (te_slot f).toNatClampNeg
def te_row (fc : Nat → Int32) (t : Nat) : Nat → Int32 := fun k => fc (t * 11 + k)
/-- the last term below n in a bucket; 0: none -/
def te_last (fc : Nat → Int32) (s : Nat) : Nat → Nat
  | 0 => 0
  | n + 1 => if n ≠ 0 ∧ te_sn (te_row fc n) = s then n else te_last fc s n
/-- buckets and chains tell the last terms; rows are apart -/
def te_tab (fc fb : Nat → Int32) (sz : Nat) : Prop := (∀ s, s < 4096 → fb s = nI (te_last fc s sz)) ∧ (∀ t, 0 < t → t < sz → fc (t * 11 + 10) = nI (te_last fc (te_sn (te_row fc t)) t)) ∧ ∀ t u, 0 < t → t < sz → 0 < u → u < sz → (∀ k, k < 10 → te_row fc t k = te_row fc u k) → t = u
theorem te_slot_in (f : Nat → Int32) : vp_in (te_slot f) 4096 := pk_andIn _ 12 rfl (by decide)
theorem te_slot_nI (f : Nat → Int32) : te_slot f = nI (te_sn f) ∧ te_sn f < 4096 := by
  obtain ⟨j, hj, e⟩ := vp_in_of (te_slot_in f) (by decide)
  have : te_sn f = j := by unfold te_sn; rw [e]; exact nI_clamp (by omega)
  rw [this]
  exact ⟨e, hj⟩
theorem te_hash_congr {f g : Nat → Int32} : ∀ {n : Nat}, (∀ k, k < n → f k = g k) → te_hash f n = te_hash g n
  | 0, _ => rfl
  | n + 1, h => by
    unfold te_hash
    rw [te_hash_congr (fun k hk => h k (by omega)), h n (by omega)]
theorem te_sn_congr {f g : Nat → Int32} (h : ∀ k, k < 10 → f k = g k) : te_sn f = te_sn g := by
  unfold te_sn te_slot
  rw [te_hash_congr h]
theorem te_last_lt (fc : Nat → Int32) (s : Nat) : ∀ n, te_last fc s n < n ∨ te_last fc s n = 0
  | 0 => Or.inr rfl
  | n + 1 => by
    unfold te_last
    by_cases h : n ≠ 0 ∧ te_sn (te_row fc n) = s
    · rw [if_pos h]; exact Or.inl (by omega)
    · rw [if_neg h]
      rcases te_last_lt fc s n with q | q
      · exact Or.inl (by omega)
      · exact Or.inr q
theorem te_last_sn (fc : Nat → Int32) (s : Nat) : ∀ n, te_last fc s n ≠ 0 → te_sn (te_row fc (te_last fc s n)) = s
  | 0, h => absurd rfl h
  | n + 1, h => by
    unfold te_last at h ⊢
    by_cases h1 : n ≠ 0 ∧ te_sn (te_row fc n) = s
    · rw [if_pos h1]; exact h1.2
    · rw [if_neg h1] at h ⊢; exact te_last_sn fc s n h
theorem te_last_no (fc : Nat → Int32) (s : Nat) : ∀ n t, te_last fc s n < t → t < n → te_sn (te_row fc t) ≠ s
  | 0, t, _, h => by omega
  | n + 1, t, h1, h2 => by
    unfold te_last at h1
    by_cases h : n ≠ 0 ∧ te_sn (te_row fc n) = s
    · rw [if_pos h] at h1; omega
    · rw [if_neg h] at h1
      by_cases e : t = n
      · subst e
        intro q
        exact h ⟨by omega, q⟩
      · exact te_last_no fc s n t h1 (by omega)

set_option maxRecDepth 100000 in
theorem l_Te_intern_h {sc : tm_X} {d : Nat} {B : bm_H} {a ca ba da rm sz dr : Nat} {Q : Option Value → bm_H → Prop} (hT : te_ok B a ca ba da rm sz dr) (kk : ∀ lv : tm_L, lv.lookup 0 = some (.ref a) → lv.lookup 1 = some (.int (te_hash (bm_AI B da) 10)) → bm_G sc d 15 31 lv [] B Q) : ∀ (m k : Nat), k + m = 10 → ∀ lv : tm_L, lv.lookup 0 = some (.ref a) → lv.lookup 1 = some (.int (te_hash (bm_AI B da) k)) → lv.lookup 2 = some (.int (nI k)) → bm_G sc d 15 4 lv [] B Q := by
  intro m
  induction m with
  | zero =>
    intro k hk lv l0 l1 l2
    have hk : k = 10 := by omega
    refine g_ild (pc' := 5) cd_Te_intern rfl (Or.inr ⟨_, rfl, rfl, rfl⟩) l2 rfl ?_
    refine g_ald (pc' := 6) cd_Te_intern rfl (Or.inr ⟨_, rfl, rfl, rfl⟩) l0 rfl rfl ?_
    refine g_fR (c := 9) (k := 2) (x := da) (pc' := 9) cd_Te_intern rfl rfl rfl rfl rfl (by decide) hT.1.1 hT.1.2 hT.2.1.2.2 ?_
    refine g_al (x := 10) (pc' := 10) cd_Te_intern rfl rfl hT.2.2.1.2.2.1 (Nat.le_of_eq (Eq.symm hT.2.2.1.2.2.2.1)) (by rw [show bm_K B da = 13 from hT.2.2.1.2.2.2.1]; decide) (by rw [show bm_AL B da = 10 from hT.2.2.1.2.2.2.2]; rfl) ?_
    refine g_if2 (t := 31) (pc' := 13) cd_Te_intern rfl rfl rfl (fun c10 => ?_) (fun c10 => ?_)
    · have c10 : (10 : Int32) ≤ (nI k) := c10
      exact kk lv l0 (by rw [l1, hk])
    · have c10 : ¬ (10 : Int32) ≤ (nI k) := c10
      exact absurd (by rw [hk]; decide) c10
  | succ m ih =>
    intro k hk lv l0 l1 l2
    refine g_ild (pc' := 5) cd_Te_intern rfl (Or.inr ⟨_, rfl, rfl, rfl⟩) l2 rfl ?_
    refine g_ald (pc' := 6) cd_Te_intern rfl (Or.inr ⟨_, rfl, rfl, rfl⟩) l0 rfl rfl ?_
    refine g_fR (c := 9) (k := 2) (x := da) (pc' := 9) cd_Te_intern rfl rfl rfl rfl rfl (by decide) hT.1.1 hT.1.2 hT.2.1.2.2 ?_
    refine g_al (x := 10) (pc' := 10) cd_Te_intern rfl rfl hT.2.2.1.2.2.1 (Nat.le_of_eq (Eq.symm hT.2.2.1.2.2.2.1)) (by rw [show bm_K B da = 13 from hT.2.2.1.2.2.2.1]; decide) (by rw [show bm_AL B da = 10 from hT.2.2.1.2.2.2.2]; rfl) ?_
    refine g_if2 (t := 31) (pc' := 13) cd_Te_intern rfl rfl rfl (fun c10 => ?_) (fun c10 => ?_)
    · have c10 : (10 : Int32) ≤ (nI k) := c10
      exact absurd (show nI 10 ≤ nI k from c10) (nI_ge (by omega) (by decide))
    · have c10 : ¬ (10 : Int32) ≤ (nI k) := c10
      refine g_ild (pc' := 14) cd_Te_intern rfl (Or.inr ⟨_, rfl, rfl, rfl⟩) l1 rfl ?_
      refine g_k2 (v := 31) (pc' := 16) cd_Te_intern rfl (by decide) rfl ?_
      refine g_pure (pc' := 17) (st' := [.int ((te_hash (bm_AI B da) k) * 31)]) cd_Te_intern rfl rfl (fun _ _ => rfl) ?_
      refine g_ald (pc' := 18) cd_Te_intern rfl (Or.inr ⟨_, rfl, rfl, rfl⟩) l0 rfl rfl ?_
      refine g_fR (c := 9) (k := 2) (x := da) (pc' := 21) cd_Te_intern rfl rfl rfl rfl rfl (by decide) hT.1.1 hT.1.2 hT.2.1.2.2 ?_
      refine g_ild (pc' := 22) cd_Te_intern rfl (Or.inr ⟨_, rfl, rfl, rfl⟩) l2 rfl ?_
      refine g_aI (x := (bm_AI B da k)) (pc' := 23) cd_Te_intern rfl rfl hT.2.2.1.2.2.1 hT.2.2.1.2.2.2.1 (by rw [show bm_AL B da = 10 from hT.2.2.1.2.2.2.2]; exact vp_in_nI (by omega) (by decide)) (by rw [nI_clamp (by omega)]) ?_
      refine g_pure (pc' := 24) (st' := [.int (((te_hash (bm_AI B da) k) * 31) + (bm_AI B da k))]) cd_Te_intern rfl rfl (fun _ _ => rfl) ?_
      refine g_ist (pc' := 25) cd_Te_intern rfl (Or.inr ⟨_, rfl, rfl, rfl⟩) (by decide) rfl (fun lv el => ?_)
      have l0 := tm_lk el l0 rfl (by decide)
      have l2 := tm_lk el l2 rfl (by decide)
      have l1 : lv.lookup 1 = some (.int (((te_hash (bm_AI B da) k) * 31) + (bm_AI B da k))) := tm_lks el
      clear el
      refine g_inc (y := nI (k + 1)) (pc' := 28) cd_Te_intern rfl l2 (by decide) (nI_1 k) rfl (fun lv el => ?_)
      have l0 := tm_lk el l0 rfl (by decide)
      have l1 := tm_lk el l1 rfl (by decide)
      have l2 : lv.lookup 2 = some (.int (nI (k + 1))) := tm_lks el
      clear el
      refine g_pure (pc' := 4) (st' := []) cd_Te_intern rfl rfl (fun _ _ => rfl) ?_
      exact ih (k + 1) (by omega) lv l0 (by rw [l1]; rfl) l2
theorem te_at_in {B : bm_H} {a ca ba da rm sz dr : Nat} (hT : te_ok B a ca ba da rm sz dr) {u k : Nat} (hu : u < sz) (hk : k < 11) : vp_in (nI u * 11 + nI k) (bm_AL B ca) ∧ (nI u * 11 + nI k).toNatClampNeg = u * 11 + k := by
  obtain ⟨-, -, ⟨⟨-, -, hL⟩, -⟩, -, ⟨-, hs, hr⟩, -⟩ := hT
  have e : nI u * 11 + nI k = nI (u * 11 + k) := by rw [show (11 : Int32) = nI 11 from rfl, pk_mul, nI_add]
  rw [e, hL, nI_clamp (by omega)]
  exact ⟨vp_in_nI (by omega) (by omega), rfl⟩
set_option maxRecDepth 100000 in
theorem l_Te_intern_i {sc : tm_X} {d : Nat} {B : bm_H} {a ca ba da rm sz dr : Nat} {Q : Option Value → bm_H → Prop} (hT : te_ok B a ca ba da rm sz dr) {u : Nat} {s2 s4 : Int32} (hu : u < sz) (kk : ∀ (k : Nat) (lv : tm_L), k ≤ 10 → (∀ i, i < k → bm_AI B ca (u * 11 + i) = bm_AI B da i) → (k < 10 → bm_AI B ca (u * 11 + k) ≠ bm_AI B da k) → lv.lookup 0 = some (.ref a) → lv.lookup 2 = some (.int s2) → lv.lookup 3 = some (.int (nI u)) → lv.lookup 4 = some (.int s4) → lv.lookup 5 = some (.int (nI k)) → bm_G sc d 15 111 lv [] B Q) : ∀ (m k : Nat), k + m = 10 → (∀ i, i < k → bm_AI B ca (u * 11 + i) = bm_AI B da i) → ∀ lv : tm_L, lv.lookup 0 = some (.ref a) → lv.lookup 2 = some (.int s2) → lv.lookup 3 = some (.int (nI u)) → lv.lookup 4 = some (.int s4) → lv.lookup 5 = some (.int (nI k)) → bm_G sc d 15 73 lv [] B Q := by
  intro m
  induction m with
  | zero =>
    intro k hk heq lv l0 l2 l3 l4 l5
    have hk : k = 10 := by omega
    refine g_ild (pc' := 75) cd_Te_intern rfl (Or.inl ⟨rfl, rfl⟩) l5 rfl ?_
    refine g_ald (pc' := 76) cd_Te_intern rfl (Or.inr ⟨_, rfl, rfl, rfl⟩) l0 rfl rfl ?_
    refine g_fR (c := 9) (k := 2) (x := da) (pc' := 79) cd_Te_intern rfl rfl rfl rfl rfl (by decide) hT.1.1 hT.1.2 hT.2.1.2.2 ?_
    refine g_al (x := 10) (pc' := 80) cd_Te_intern rfl rfl hT.2.2.1.2.2.1 (Nat.le_of_eq (Eq.symm hT.2.2.1.2.2.2.1)) (by rw [show bm_K B da = 13 from hT.2.2.1.2.2.2.1]; decide) (by rw [show bm_AL B da = 10 from hT.2.2.1.2.2.2.2]; rfl) ?_
    refine g_if2 (t := 111) (pc' := 83) cd_Te_intern rfl rfl rfl (fun c80 => ?_) (fun c80 => ?_)
    · have c80 : (10 : Int32) ≤ (nI k) := c80
      exact kk k lv (by omega) heq (fun q => by omega) l0 l2 l3 l4 l5
    · have c80 : ¬ (10 : Int32) ≤ (nI k) := c80
      exact absurd (by rw [hk]; decide) c80
  | succ m ih =>
    intro k hk heq lv l0 l2 l3 l4 l5
    refine g_ild (pc' := 75) cd_Te_intern rfl (Or.inl ⟨rfl, rfl⟩) l5 rfl ?_
    refine g_ald (pc' := 76) cd_Te_intern rfl (Or.inr ⟨_, rfl, rfl, rfl⟩) l0 rfl rfl ?_
    refine g_fR (c := 9) (k := 2) (x := da) (pc' := 79) cd_Te_intern rfl rfl rfl rfl rfl (by decide) hT.1.1 hT.1.2 hT.2.1.2.2 ?_
    refine g_al (x := 10) (pc' := 80) cd_Te_intern rfl rfl hT.2.2.1.2.2.1 (Nat.le_of_eq (Eq.symm hT.2.2.1.2.2.2.1)) (by rw [show bm_K B da = 13 from hT.2.2.1.2.2.2.1]; decide) (by rw [show bm_AL B da = 10 from hT.2.2.1.2.2.2.2]; rfl) ?_
    refine g_if2 (t := 111) (pc' := 83) cd_Te_intern rfl rfl rfl (fun c80 => ?_) (fun c80 => ?_)
    · have c80 : (10 : Int32) ≤ (nI k) := c80
      exact absurd (show nI 10 ≤ nI k from c80) (nI_ge (by omega) (by decide))
    · have c80 : ¬ (10 : Int32) ≤ (nI k) := c80
      refine g_ald (pc' := 84) cd_Te_intern rfl (Or.inr ⟨_, rfl, rfl, rfl⟩) l0 rfl rfl ?_
      refine g_fR (c := 9) (k := 0) (x := ca) (pc' := 87) cd_Te_intern rfl rfl rfl rfl rfl (by decide) hT.1.1 hT.1.2 hT.2.1.1 ?_
      refine g_ild (pc' := 88) cd_Te_intern rfl (Or.inr ⟨_, rfl, rfl, rfl⟩) l3 rfl ?_
      refine g_k2 (v := 11) (pc' := 90) cd_Te_intern rfl (by decide) rfl ?_
      refine g_pure (pc' := 91) (st' := [.int ((nI u) * 11), .ref ca]) cd_Te_intern rfl rfl (fun _ _ => rfl) ?_
      refine g_ild (pc' := 93) cd_Te_intern rfl (Or.inl ⟨rfl, rfl⟩) l5 rfl ?_
      refine g_pure (pc' := 94) (st' := [.int (((nI u) * 11) + (nI k)), .ref ca]) cd_Te_intern rfl rfl (fun _ _ => rfl) ?_
      refine g_aI (x := (bm_AI B ca (u * 11 + k))) (pc' := 95) cd_Te_intern rfl rfl hT.2.2.1.1.1 hT.2.2.1.1.2.1 (te_at_in hT hu (by omega)).1 (congrArg (bm_AI B ca) (te_at_in hT hu (by omega)).2) ?_
      refine g_ald (pc' := 96) cd_Te_intern rfl (Or.inr ⟨_, rfl, rfl, rfl⟩) l0 rfl rfl ?_
      refine g_fR (c := 9) (k := 2) (x := da) (pc' := 99) cd_Te_intern rfl rfl rfl rfl rfl (by decide) hT.1.1 hT.1.2 hT.2.1.2.2 ?_
      refine g_ild (pc' := 101) cd_Te_intern rfl (Or.inl ⟨rfl, rfl⟩) l5 rfl ?_
      refine g_aI (x := (bm_AI B da k)) (pc' := 102) cd_Te_intern rfl rfl hT.2.2.1.2.2.1 hT.2.2.1.2.2.2.1 (by rw [show bm_AL B da = 10 from hT.2.2.1.2.2.2.2]; exact vp_in_nI (by omega) (by decide)) (by rw [nI_clamp (by omega)]) ?_
      refine g_if2 (t := 111) (pc' := 105) cd_Te_intern rfl rfl rfl (fun c102 => ?_) (fun c102 => ?_)
      · have c102 : ¬ (bm_AI B ca (u * 11 + k)) = (bm_AI B da k) := c102
        exact kk k lv (by omega) heq (fun _ => c102) l0 l2 l3 l4 l5
      · have c102 : ¬ (¬ (bm_AI B ca (u * 11 + k)) = (bm_AI B da k)) := c102
        refine g_inc (y := nI (k + 1)) (pc' := 108) cd_Te_intern rfl l5 (by decide) (nI_1 k) rfl (fun lv el => ?_)
        have l0 := tm_lk el l0 rfl (by decide)
        have l2 := tm_lk el l2 rfl (by decide)
        have l3 := tm_lk el l3 rfl (by decide)
        have l4 := tm_lk el l4 rfl (by decide)
        have l5 : lv.lookup 5 = some (.int (nI (k + 1))) := tm_lks el
        clear el
        refine g_pure (pc' := 73) (st' := []) cd_Te_intern rfl rfl (fun _ _ => rfl) ?_
        exact ih (k + 1) (by omega) (fun i hi => by
          by_cases e : i = k
          · subst e; exact Classical.not_not.mp c102
          · exact heq i (by omega)) lv l0 l2 l3 l4 l5
