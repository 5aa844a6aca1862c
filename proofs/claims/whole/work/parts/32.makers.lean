/-! Terms: makers -/
/-- a row by its ten numbers -/
def te_rw (l : List Int32) : Nat → Int32 := fun k => l.getD k 0
theorem te_made_f {B B' : bm_H} {a ca ba da rm sz dr r sz' : Nat} {f g : Nat → Int32} (h : ∀ k, k < 10 → f k = g k) (hm : te_made B B' a ca ba da rm sz dr f r sz') : te_made B B' a ca ba da rm sz dr g r sz' := by
  obtain ⟨h1, h2, h3, h4, h5, h6, h7⟩ := hm
  exact ⟨h1, h2, h3, fun k hk => (h4 k hk).trans (h k hk), h5, h6, h7⟩
section BE
variable {sc : tm_X} {d j pc pc' o nL : Nat} {ini : Bool} {ret : Option FieldType} {code : List (Nat × Instr × Nat)} {lv lv' : tm_L} {st st' rest : List Value} {B B' : bm_H} {Q Q' : Option Value → bm_H → Prop}
theorem g_min {ix x1 x2 x3 x4 x5 x6 x7 : Nat} {x y : Int32} (hc : tm_cd j o nL ini ret code) (hl : code.lookup pc = some (.invokestatic ix, 3)) (hcall : tm_callR o ix = some (o, ix, 5, x1, x2, x3, x4, x5, x6, x7)) (hp : pc + 3 = pc') (hr : tm_rest rest = true) (kk : bm_G sc (d + 1) j pc' lv (.int (if y < x then y else x) :: rest) B Q) : bm_G sc (d + 1) j pc lv (.int y :: .int x :: rest) B Q := by
  subst hp
  refine g_nat hc hl rfl rfl ?_ kk
  simp only [tm_nat, hcall, tm_mm, hr, if_true]
theorem g_max {ix x1 x2 x3 x4 x5 x6 x7 : Nat} {x y : Int32} (hc : tm_cd j o nL ini ret code) (hl : code.lookup pc = some (.invokestatic ix, 3)) (hcall : tm_callR o ix = some (o, ix, 6, x1, x2, x3, x4, x5, x6, x7)) (hp : pc + 3 = pc') (hr : tm_rest rest = true) (kk : bm_G sc (d + 1) j pc' lv (.int (if x < y then y else x) :: rest) B Q) : bm_G sc (d + 1) j pc lv (.int y :: .int x :: rest) B Q := by
  subst hp
  refine g_nat hc hl rfl rfl ?_ kk
  simp only [tm_nat, hcall, tm_mm, hr, if_true]
end BE
/-- a row of the cells as the draft -/
theorem te_cpy_dset {B : bm_H} {ca da t : Nat} (hL : bm_AL B da = 10) : bm_allI B da (va_cpy (bm_AI B ca) (bm_AI B da) (t * 11) 0 10) = te_dset B da (te_row (bm_AI B ca) t) := by
  unfold te_dset
  congr 1
  funext q
  by_cases h : q < 10
  · rw [pk_cpy_in (by omega) (by omega), if_pos h]
    unfold te_row
    congr 1
  · rw [pk_cpy_out (by omega), if_neg h]
set_option maxRecDepth 100000 in
theorem k_Te_mix {sc : tm_X} {d : Nat} {B : bm_H} {a ca ba da rm sz dr : Nat} {n p q : Int32} {Q : Int32 → bm_H → Prop} (hT : te_ok B a ca ba da rm sz dr) (hB : te_tab (bm_AI B ca) (bm_AI B ba) sz) (hrm : sz < rm) (kk : ∀ B' r sz', te_made B B' a ca ba da rm sz dr (te_rw [4, n, 0, 0, 0, 0, p, q, 0, 0]) r sz' → Q (nI r) B') : bm_Gi sc (d + 2) 78 [.ref a, .int n, .int p, .int q] B Q := by
  show bm_G sc (d + 2) 78 0 [(0, .ref a), (1, .int n), (2, .int p), (3, .int q)] [] B _
  generalize elv : ([(0, .ref a), (1, .int n), (2, .int p), (3, .int q)] : tm_L) = lv
  have l0 : lv.lookup 0 = some (.ref a) := by rw [← elv]; rfl
  have l1 : lv.lookup 1 = some (.int n) := by rw [← elv]; rfl
  have l2 : lv.lookup 2 = some (.int p) := by rw [← elv]; rfl
  have l3 : lv.lookup 3 = some (.int q) := by rw [← elv]; rfl
  clear elv
  refine g_ald (pc' := 1) cd_Te_mix rfl (Or.inr ⟨_, rfl, rfl, rfl⟩) l0 rfl rfl ?_
  refine g_k1 (v := 4) (pc' := 2) cd_Te_mix rfl (by decide) rfl ?_
  refine g_ild (pc' := 3) cd_Te_mix rfl (Or.inr ⟨_, rfl, rfl, rfl⟩) l1 rfl ?_
  refine g_callv (pc' := 6) cd_Te_mix rfl rfl rfl rfl rfl (tm_invV rfl rfl cd_Te_startDraft rfl (Nat.le_of_ble_eq_true rfl) (by decide) hT.1.1 hT.1.2) (k_Te_startDraft hT ?_)
  show bm_G _ _ _ 6 _ [] (te_dset B da (te_dr 4 n)) _
  refine g_ald (pc' := 7) cd_Te_mix rfl (Or.inr ⟨_, rfl, rfl, rfl⟩) l0 rfl rfl ?_
  refine g_fR (c := 9) (k := 2) (x := da) (pc' := 10) cd_Te_mix rfl rfl rfl rfl rfl (by decide) hT.1.1 hT.1.2 hT.2.1.2.2 ?_
  refine g_k2 (v := 6) (pc' := 12) cd_Te_mix rfl (by decide) rfl ?_
  refine g_ild (pc' := 13) cd_Te_mix rfl (Or.inr ⟨_, rfl, rfl, rfl⟩) l2 rfl ?_
  refine g_iast (pc' := 14) cd_Te_mix rfl rfl hT.2.2.1.2.2.1 hT.2.2.1.2.2.2.1 (by show vp_in (nI 6) (bm_AL B da); rw [show bm_AL B da = 10 from hT.2.2.1.2.2.2.2]; exact vp_in_nI (by decide) (by decide)) ?_
  rw [show (6 : Int32).toNatClampNeg = 6 from rfl, show ∀ x, bm_setI ((te_dset B da (te_dr 4 n))) da 6 x = te_dset B da (upd (te_dr 4 n) 6 x) from fun x => te_dset_set (by decide)]
  refine g_ald (pc' := 15) cd_Te_mix rfl (Or.inr ⟨_, rfl, rfl, rfl⟩) l0 rfl rfl ?_
  refine g_fR (c := 9) (k := 2) (x := da) (pc' := 18) cd_Te_mix rfl rfl rfl rfl rfl (by decide) hT.1.1 hT.1.2 hT.2.1.2.2 ?_
  refine g_k2 (v := 7) (pc' := 20) cd_Te_mix rfl (by decide) rfl ?_
  refine g_ild (pc' := 21) cd_Te_mix rfl (Or.inr ⟨_, rfl, rfl, rfl⟩) l3 rfl ?_
  refine g_iast (pc' := 22) cd_Te_mix rfl rfl hT.2.2.1.2.2.1 hT.2.2.1.2.2.2.1 (by show vp_in (nI 7) (bm_AL B da); rw [show bm_AL B da = 10 from hT.2.2.1.2.2.2.2]; exact vp_in_nI (by decide) (by decide)) ?_
  rw [show (7 : Int32).toNatClampNeg = 7 from rfl, show ∀ x, bm_setI ((te_dset B da (upd (te_dr 4 n) 6 p))) da 7 x = te_dset B da (upd (upd (te_dr 4 n) 6 p) 7 x) from fun x => te_dset_set (by decide)]
  refine g_ald (pc' := 23) cd_Te_mix rfl (Or.inr ⟨_, rfl, rfl, rfl⟩) l0 rfl rfl ?_
  refine g_calli (pc' := 26) cd_Te_mix rfl rfl rfl rfl rfl (tm_invV rfl rfl cd_Te_intern rfl (Nat.le_of_ble_eq_true rfl) (by decide) hT.1.1 hT.1.2) (te_mk hT hB hrm (fun B' r sz' hm => ?_))
  show bm_G _ _ _ 26 _ [.int (nI r)] B' _
  exact g_reti cd_Te_mix rfl ⟨_, rfl, kk B' r sz' (te_made_f (fun k hk => by rcases (show k = 0 ∨ k = 1 ∨ k = 2 ∨ k = 3 ∨ k = 4 ∨ k = 5 ∨ k = 6 ∨ k = 7 ∨ k = 8 ∨ k = 9 by omega) with rfl | rfl | rfl | rfl | rfl | rfl | rfl | rfl | rfl | rfl <;> rfl) hm)⟩
set_option maxRecDepth 100000 in
theorem k_Te_sealed {sc : tm_X} {d : Nat} {B : bm_H} {a ca ba da rm sz dr : Nat} {p q t : Int32} {Q : Int32 → bm_H → Prop} (hT : te_ok B a ca ba da rm sz dr) (hB : te_tab (bm_AI B ca) (bm_AI B ba) sz) (hrm : sz < rm) (kk : ∀ B' r sz', te_made B B' a ca ba da rm sz dr (te_rw [5, 0, 0, 0, 0, 0, p, q, t, 0]) r sz' → Q (nI r) B') : bm_Gi sc (d + 2) 89 [.ref a, .int p, .int q, .int t] B Q := by
  show bm_G sc (d + 2) 89 0 [(0, .ref a), (1, .int p), (2, .int q), (3, .int t)] [] B _
  generalize elv : ([(0, .ref a), (1, .int p), (2, .int q), (3, .int t)] : tm_L) = lv
  have l0 : lv.lookup 0 = some (.ref a) := by rw [← elv]; rfl
  have l1 : lv.lookup 1 = some (.int p) := by rw [← elv]; rfl
  have l2 : lv.lookup 2 = some (.int q) := by rw [← elv]; rfl
  have l3 : lv.lookup 3 = some (.int t) := by rw [← elv]; rfl
  clear elv
  refine g_ald (pc' := 1) cd_Te_sealed rfl (Or.inr ⟨_, rfl, rfl, rfl⟩) l0 rfl rfl ?_
  refine g_k1 (v := 5) (pc' := 2) cd_Te_sealed rfl (by decide) rfl ?_
  refine g_k1 (v := 0) (pc' := 3) cd_Te_sealed rfl (by decide) rfl ?_
  refine g_callv (pc' := 6) cd_Te_sealed rfl rfl rfl rfl rfl (tm_invV rfl rfl cd_Te_startDraft rfl (Nat.le_of_ble_eq_true rfl) (by decide) hT.1.1 hT.1.2) (k_Te_startDraft hT ?_)
  show bm_G _ _ _ 6 _ [] (te_dset B da (te_dr 5 0)) _
  refine g_ald (pc' := 7) cd_Te_sealed rfl (Or.inr ⟨_, rfl, rfl, rfl⟩) l0 rfl rfl ?_
  refine g_fR (c := 9) (k := 2) (x := da) (pc' := 10) cd_Te_sealed rfl rfl rfl rfl rfl (by decide) hT.1.1 hT.1.2 hT.2.1.2.2 ?_
  refine g_k2 (v := 6) (pc' := 12) cd_Te_sealed rfl (by decide) rfl ?_
  refine g_ild (pc' := 13) cd_Te_sealed rfl (Or.inr ⟨_, rfl, rfl, rfl⟩) l1 rfl ?_
  refine g_iast (pc' := 14) cd_Te_sealed rfl rfl hT.2.2.1.2.2.1 hT.2.2.1.2.2.2.1 (by show vp_in (nI 6) (bm_AL B da); rw [show bm_AL B da = 10 from hT.2.2.1.2.2.2.2]; exact vp_in_nI (by decide) (by decide)) ?_
  rw [show (6 : Int32).toNatClampNeg = 6 from rfl, show ∀ x, bm_setI ((te_dset B da (te_dr 5 0))) da 6 x = te_dset B da (upd (te_dr 5 0) 6 x) from fun x => te_dset_set (by decide)]
  refine g_ald (pc' := 15) cd_Te_sealed rfl (Or.inr ⟨_, rfl, rfl, rfl⟩) l0 rfl rfl ?_
  refine g_fR (c := 9) (k := 2) (x := da) (pc' := 18) cd_Te_sealed rfl rfl rfl rfl rfl (by decide) hT.1.1 hT.1.2 hT.2.1.2.2 ?_
  refine g_k2 (v := 7) (pc' := 20) cd_Te_sealed rfl (by decide) rfl ?_
  refine g_ild (pc' := 21) cd_Te_sealed rfl (Or.inr ⟨_, rfl, rfl, rfl⟩) l2 rfl ?_
  refine g_iast (pc' := 22) cd_Te_sealed rfl rfl hT.2.2.1.2.2.1 hT.2.2.1.2.2.2.1 (by show vp_in (nI 7) (bm_AL B da); rw [show bm_AL B da = 10 from hT.2.2.1.2.2.2.2]; exact vp_in_nI (by decide) (by decide)) ?_
  rw [show (7 : Int32).toNatClampNeg = 7 from rfl, show ∀ x, bm_setI ((te_dset B da (upd (te_dr 5 0) 6 p))) da 7 x = te_dset B da (upd (upd (te_dr 5 0) 6 p) 7 x) from fun x => te_dset_set (by decide)]
  refine g_ald (pc' := 23) cd_Te_sealed rfl (Or.inr ⟨_, rfl, rfl, rfl⟩) l0 rfl rfl ?_
  refine g_fR (c := 9) (k := 2) (x := da) (pc' := 26) cd_Te_sealed rfl rfl rfl rfl rfl (by decide) hT.1.1 hT.1.2 hT.2.1.2.2 ?_
  refine g_k2 (v := 8) (pc' := 28) cd_Te_sealed rfl (by decide) rfl ?_
  refine g_ild (pc' := 29) cd_Te_sealed rfl (Or.inr ⟨_, rfl, rfl, rfl⟩) l3 rfl ?_
  refine g_iast (pc' := 30) cd_Te_sealed rfl rfl hT.2.2.1.2.2.1 hT.2.2.1.2.2.2.1 (by show vp_in (nI 8) (bm_AL B da); rw [show bm_AL B da = 10 from hT.2.2.1.2.2.2.2]; exact vp_in_nI (by decide) (by decide)) ?_
  rw [show (8 : Int32).toNatClampNeg = 8 from rfl, show ∀ x, bm_setI ((te_dset B da (upd (upd (te_dr 5 0) 6 p) 7 q))) da 8 x = te_dset B da (upd (upd (upd (te_dr 5 0) 6 p) 7 q) 8 x) from fun x => te_dset_set (by decide)]
  refine g_ald (pc' := 31) cd_Te_sealed rfl (Or.inr ⟨_, rfl, rfl, rfl⟩) l0 rfl rfl ?_
  refine g_calli (pc' := 34) cd_Te_sealed rfl rfl rfl rfl rfl (tm_invV rfl rfl cd_Te_intern rfl (Nat.le_of_ble_eq_true rfl) (by decide) hT.1.1 hT.1.2) (te_mk hT hB hrm (fun B' r sz' hm => ?_))
  show bm_G _ _ _ 34 _ [.int (nI r)] B' _
  exact g_reti cd_Te_sealed rfl ⟨_, rfl, kk B' r sz' (te_made_f (fun k hk => by rcases (show k = 0 ∨ k = 1 ∨ k = 2 ∨ k = 3 ∨ k = 4 ∨ k = 5 ∨ k = 6 ∨ k = 7 ∨ k = 8 ∨ k = 9 by omega) with rfl | rfl | rfl | rfl | rfl | rfl | rfl | rfl | rfl | rfl <;> rfl) hm)⟩
set_option maxRecDepth 100000 in
theorem k_Te_signed {sc : tm_X} {d : Nat} {B : bm_H} {a ca ba da rm sz dr : Nat} {p q : Int32} {Q : Int32 → bm_H → Prop} (hT : te_ok B a ca ba da rm sz dr) (hB : te_tab (bm_AI B ca) (bm_AI B ba) sz) (hrm : sz < rm) (kk : ∀ B' r sz', te_made B B' a ca ba da rm sz dr (te_rw [6, 0, 0, 0, 0, 0, p, q, 0, 0]) r sz' → Q (nI r) B') : bm_Gi sc (d + 2) 62 [.ref a, .int p, .int q] B Q := by
  show bm_G sc (d + 2) 62 0 [(0, .ref a), (1, .int p), (2, .int q)] [] B _
  generalize elv : ([(0, .ref a), (1, .int p), (2, .int q)] : tm_L) = lv
  have l0 : lv.lookup 0 = some (.ref a) := by rw [← elv]; rfl
  have l1 : lv.lookup 1 = some (.int p) := by rw [← elv]; rfl
  have l2 : lv.lookup 2 = some (.int q) := by rw [← elv]; rfl
  clear elv
  refine g_ald (pc' := 1) cd_Te_signed rfl (Or.inr ⟨_, rfl, rfl, rfl⟩) l0 rfl rfl ?_
  refine g_k2 (v := 6) (pc' := 3) cd_Te_signed rfl (by decide) rfl ?_
  refine g_k1 (v := 0) (pc' := 4) cd_Te_signed rfl (by decide) rfl ?_
  refine g_callv (pc' := 7) cd_Te_signed rfl rfl rfl rfl rfl (tm_invV rfl rfl cd_Te_startDraft rfl (Nat.le_of_ble_eq_true rfl) (by decide) hT.1.1 hT.1.2) (k_Te_startDraft hT ?_)
  show bm_G _ _ _ 7 _ [] (te_dset B da (te_dr 6 0)) _
  refine g_ald (pc' := 8) cd_Te_signed rfl (Or.inr ⟨_, rfl, rfl, rfl⟩) l0 rfl rfl ?_
  refine g_fR (c := 9) (k := 2) (x := da) (pc' := 11) cd_Te_signed rfl rfl rfl rfl rfl (by decide) hT.1.1 hT.1.2 hT.2.1.2.2 ?_
  refine g_k2 (v := 6) (pc' := 13) cd_Te_signed rfl (by decide) rfl ?_
  refine g_ild (pc' := 14) cd_Te_signed rfl (Or.inr ⟨_, rfl, rfl, rfl⟩) l1 rfl ?_
  refine g_iast (pc' := 15) cd_Te_signed rfl rfl hT.2.2.1.2.2.1 hT.2.2.1.2.2.2.1 (by show vp_in (nI 6) (bm_AL B da); rw [show bm_AL B da = 10 from hT.2.2.1.2.2.2.2]; exact vp_in_nI (by decide) (by decide)) ?_
  rw [show (6 : Int32).toNatClampNeg = 6 from rfl, show ∀ x, bm_setI ((te_dset B da (te_dr 6 0))) da 6 x = te_dset B da (upd (te_dr 6 0) 6 x) from fun x => te_dset_set (by decide)]
  refine g_ald (pc' := 16) cd_Te_signed rfl (Or.inr ⟨_, rfl, rfl, rfl⟩) l0 rfl rfl ?_
  refine g_fR (c := 9) (k := 2) (x := da) (pc' := 19) cd_Te_signed rfl rfl rfl rfl rfl (by decide) hT.1.1 hT.1.2 hT.2.1.2.2 ?_
  refine g_k2 (v := 7) (pc' := 21) cd_Te_signed rfl (by decide) rfl ?_
  refine g_ild (pc' := 22) cd_Te_signed rfl (Or.inr ⟨_, rfl, rfl, rfl⟩) l2 rfl ?_
  refine g_iast (pc' := 23) cd_Te_signed rfl rfl hT.2.2.1.2.2.1 hT.2.2.1.2.2.2.1 (by show vp_in (nI 7) (bm_AL B da); rw [show bm_AL B da = 10 from hT.2.2.1.2.2.2.2]; exact vp_in_nI (by decide) (by decide)) ?_
  rw [show (7 : Int32).toNatClampNeg = 7 from rfl, show ∀ x, bm_setI ((te_dset B da (upd (te_dr 6 0) 6 p))) da 7 x = te_dset B da (upd (upd (te_dr 6 0) 6 p) 7 x) from fun x => te_dset_set (by decide)]
  refine g_ald (pc' := 24) cd_Te_signed rfl (Or.inr ⟨_, rfl, rfl, rfl⟩) l0 rfl rfl ?_
  refine g_calli (pc' := 27) cd_Te_signed rfl rfl rfl rfl rfl (tm_invV rfl rfl cd_Te_intern rfl (Nat.le_of_ble_eq_true rfl) (by decide) hT.1.1 hT.1.2) (te_mk hT hB hrm (fun B' r sz' hm => ?_))
  show bm_G _ _ _ 27 _ [.int (nI r)] B' _
  exact g_reti cd_Te_signed rfl ⟨_, rfl, kk B' r sz' (te_made_f (fun k hk => by rcases (show k = 0 ∨ k = 1 ∨ k = 2 ∨ k = 3 ∨ k = 4 ∨ k = 5 ∨ k = 6 ∨ k = 7 ∨ k = 8 ∨ k = 9 by omega) with rfl | rfl | rfl | rfl | rfl | rfl | rfl | rfl | rfl | rfl <;> rfl) hm)⟩
set_option maxRecDepth 100000 in
theorem k_Te_startRow {sc : tm_X} {d : Nat} {B : bm_H} {a ca ba da rm sz dr : Nat} {k0 n0 n1 n2 n3 : Int32} {Q : bm_H → Prop} (hT : te_ok B a ca ba da rm sz dr) (kk : Q (te_dset B da (te_rw [7, k0, n0, n1, n2, n3, 0, 0, 0, 0]))) : bm_Gv sc (d + 2) 60 [.ref a, .int k0, .int n0, .int n1, .int n2, .int n3] B Q := by
  show bm_G sc (d + 2) 60 0 [(0, .ref a), (1, .int k0), (2, .int n0), (3, .int n1), (4, .int n2), (5, .int n3)] [] B _
  generalize elv : ([(0, .ref a), (1, .int k0), (2, .int n0), (3, .int n1), (4, .int n2), (5, .int n3)] : tm_L) = lv
  have l0 : lv.lookup 0 = some (.ref a) := by rw [← elv]; rfl
  have l1 : lv.lookup 1 = some (.int k0) := by rw [← elv]; rfl
  have l2 : lv.lookup 2 = some (.int n0) := by rw [← elv]; rfl
  have l3 : lv.lookup 3 = some (.int n1) := by rw [← elv]; rfl
  have l4 : lv.lookup 4 = some (.int n2) := by rw [← elv]; rfl
  have l5 : lv.lookup 5 = some (.int n3) := by rw [← elv]; rfl
  clear elv
  refine g_ald (pc' := 1) cd_Te_startRow rfl (Or.inr ⟨_, rfl, rfl, rfl⟩) l0 rfl rfl ?_
  refine g_k2 (v := 7) (pc' := 3) cd_Te_startRow rfl (by decide) rfl ?_
  refine g_ild (pc' := 4) cd_Te_startRow rfl (Or.inr ⟨_, rfl, rfl, rfl⟩) l1 rfl ?_
  refine g_callv (pc' := 7) cd_Te_startRow rfl rfl rfl rfl rfl (tm_invV rfl rfl cd_Te_startDraft rfl (Nat.le_of_ble_eq_true rfl) (by decide) hT.1.1 hT.1.2) (k_Te_startDraft hT ?_)
  show bm_G _ _ _ 7 _ [] (te_dset B da (te_dr 7 k0)) _
  refine g_ald (pc' := 8) cd_Te_startRow rfl (Or.inr ⟨_, rfl, rfl, rfl⟩) l0 rfl rfl ?_
  refine g_fR (c := 9) (k := 2) (x := da) (pc' := 11) cd_Te_startRow rfl rfl rfl rfl rfl (by decide) hT.1.1 hT.1.2 hT.2.1.2.2 ?_
  refine g_k1 (v := 2) (pc' := 12) cd_Te_startRow rfl (by decide) rfl ?_
  refine g_ild (pc' := 13) cd_Te_startRow rfl (Or.inr ⟨_, rfl, rfl, rfl⟩) l2 rfl ?_
  refine g_iast (pc' := 14) cd_Te_startRow rfl rfl hT.2.2.1.2.2.1 hT.2.2.1.2.2.2.1 (by show vp_in (nI 2) (bm_AL B da); rw [show bm_AL B da = 10 from hT.2.2.1.2.2.2.2]; exact vp_in_nI (by decide) (by decide)) ?_
  rw [show (2 : Int32).toNatClampNeg = 2 from rfl, show ∀ x, bm_setI ((te_dset B da (te_dr 7 k0))) da 2 x = te_dset B da (upd (te_dr 7 k0) 2 x) from fun x => te_dset_set (by decide)]
  refine g_ald (pc' := 15) cd_Te_startRow rfl (Or.inr ⟨_, rfl, rfl, rfl⟩) l0 rfl rfl ?_
  refine g_fR (c := 9) (k := 2) (x := da) (pc' := 18) cd_Te_startRow rfl rfl rfl rfl rfl (by decide) hT.1.1 hT.1.2 hT.2.1.2.2 ?_
  refine g_k1 (v := 3) (pc' := 19) cd_Te_startRow rfl (by decide) rfl ?_
  refine g_ild (pc' := 20) cd_Te_startRow rfl (Or.inr ⟨_, rfl, rfl, rfl⟩) l3 rfl ?_
  refine g_iast (pc' := 21) cd_Te_startRow rfl rfl hT.2.2.1.2.2.1 hT.2.2.1.2.2.2.1 (by show vp_in (nI 3) (bm_AL B da); rw [show bm_AL B da = 10 from hT.2.2.1.2.2.2.2]; exact vp_in_nI (by decide) (by decide)) ?_
  rw [show (3 : Int32).toNatClampNeg = 3 from rfl, show ∀ x, bm_setI ((te_dset B da (upd (te_dr 7 k0) 2 n0))) da 3 x = te_dset B da (upd (upd (te_dr 7 k0) 2 n0) 3 x) from fun x => te_dset_set (by decide)]
  refine g_ald (pc' := 22) cd_Te_startRow rfl (Or.inr ⟨_, rfl, rfl, rfl⟩) l0 rfl rfl ?_
  refine g_fR (c := 9) (k := 2) (x := da) (pc' := 25) cd_Te_startRow rfl rfl rfl rfl rfl (by decide) hT.1.1 hT.1.2 hT.2.1.2.2 ?_
  refine g_k1 (v := 4) (pc' := 26) cd_Te_startRow rfl (by decide) rfl ?_
  refine g_ild (pc' := 28) cd_Te_startRow rfl (Or.inl ⟨rfl, rfl⟩) l4 rfl ?_
  refine g_iast (pc' := 29) cd_Te_startRow rfl rfl hT.2.2.1.2.2.1 hT.2.2.1.2.2.2.1 (by show vp_in (nI 4) (bm_AL B da); rw [show bm_AL B da = 10 from hT.2.2.1.2.2.2.2]; exact vp_in_nI (by decide) (by decide)) ?_
  rw [show (4 : Int32).toNatClampNeg = 4 from rfl, show ∀ x, bm_setI ((te_dset B da (upd (upd (te_dr 7 k0) 2 n0) 3 n1))) da 4 x = te_dset B da (upd (upd (upd (te_dr 7 k0) 2 n0) 3 n1) 4 x) from fun x => te_dset_set (by decide)]
  refine g_ald (pc' := 30) cd_Te_startRow rfl (Or.inr ⟨_, rfl, rfl, rfl⟩) l0 rfl rfl ?_
  refine g_fR (c := 9) (k := 2) (x := da) (pc' := 33) cd_Te_startRow rfl rfl rfl rfl rfl (by decide) hT.1.1 hT.1.2 hT.2.1.2.2 ?_
  refine g_k1 (v := 5) (pc' := 34) cd_Te_startRow rfl (by decide) rfl ?_
  refine g_ild (pc' := 36) cd_Te_startRow rfl (Or.inl ⟨rfl, rfl⟩) l5 rfl ?_
  refine g_iast (pc' := 37) cd_Te_startRow rfl rfl hT.2.2.1.2.2.1 hT.2.2.1.2.2.2.1 (by show vp_in (nI 5) (bm_AL B da); rw [show bm_AL B da = 10 from hT.2.2.1.2.2.2.2]; exact vp_in_nI (by decide) (by decide)) ?_
  rw [show (5 : Int32).toNatClampNeg = 5 from rfl, show ∀ x, bm_setI ((te_dset B da (upd (upd (upd (te_dr 7 k0) 2 n0) 3 n1) 4 n2))) da 5 x = te_dset B da (upd (upd (upd (upd (te_dr 7 k0) 2 n0) 3 n1) 4 n2) 5 x) from fun x => te_dset_set (by decide)]
  exact g_retv cd_Te_startRow rfl ⟨rfl, (by rw [te_dset_congr (g := te_rw [7, k0, n0, n1, n2, n3, 0, 0, 0, 0]) (fun k hk => by rcases (show k = 0 ∨ k = 1 ∨ k = 2 ∨ k = 3 ∨ k = 4 ∨ k = 5 ∨ k = 6 ∨ k = 7 ∨ k = 8 ∨ k = 9 by omega) with rfl | rfl | rfl | rfl | rfl | rfl | rfl | rfl | rfl | rfl <;> rfl)]; exact kk)⟩
set_option maxRecDepth 100000 in
theorem k_Te_endRow {sc : tm_X} {d : Nat} {B : bm_H} {a ca ba da rm sz dr : Nat} {f : Nat → Int32} {p0 p1 p2 p3 : Int32} {Q : Int32 → bm_H → Prop} (hT : te_ok B a ca ba da rm sz dr) (hB : te_tab (bm_AI B ca) (bm_AI B ba) sz) (hrm : sz < rm) (kk : ∀ B' r sz', te_made B B' a ca ba da rm sz dr (fun k => if k < 6 then f k else te_rw [0, 0, 0, 0, 0, 0, p0, p1, p2, p3] k) r sz' → Q (nI r) B') : bm_Gi sc (d + 2) 61 [.ref a, .int p0, .int p1, .int p2, .int p3] (te_dset B da f) Q := by
  show bm_G sc (d + 2) 61 0 [(0, .ref a), (1, .int p0), (2, .int p1), (3, .int p2), (4, .int p3)] [] (te_dset B da f) _
  generalize elv : ([(0, .ref a), (1, .int p0), (2, .int p1), (3, .int p2), (4, .int p3)] : tm_L) = lv
  have l0 : lv.lookup 0 = some (.ref a) := by rw [← elv]; rfl
  have l1 : lv.lookup 1 = some (.int p0) := by rw [← elv]; rfl
  have l2 : lv.lookup 2 = some (.int p1) := by rw [← elv]; rfl
  have l3 : lv.lookup 3 = some (.int p2) := by rw [← elv]; rfl
  have l4 : lv.lookup 4 = some (.int p3) := by rw [← elv]; rfl
  clear elv
  refine g_ald (pc' := 1) cd_Te_endRow rfl (Or.inr ⟨_, rfl, rfl, rfl⟩) l0 rfl rfl ?_
  refine g_fR (c := 9) (k := 2) (x := da) (pc' := 4) cd_Te_endRow rfl rfl rfl rfl rfl (by decide) hT.1.1 hT.1.2 hT.2.1.2.2 ?_
  refine g_k2 (v := 6) (pc' := 6) cd_Te_endRow rfl (by decide) rfl ?_
  refine g_ild (pc' := 7) cd_Te_endRow rfl (Or.inr ⟨_, rfl, rfl, rfl⟩) l1 rfl ?_
  refine g_iast (pc' := 8) cd_Te_endRow rfl rfl hT.2.2.1.2.2.1 hT.2.2.1.2.2.2.1 (by show vp_in (nI 6) (bm_AL B da); rw [show bm_AL B da = 10 from hT.2.2.1.2.2.2.2]; exact vp_in_nI (by decide) (by decide)) ?_
  rw [show (6 : Int32).toNatClampNeg = 6 from rfl, show ∀ x, bm_setI ((te_dset B da f)) da 6 x = te_dset B da (upd f 6 x) from fun x => te_dset_set (by decide)]
  refine g_ald (pc' := 9) cd_Te_endRow rfl (Or.inr ⟨_, rfl, rfl, rfl⟩) l0 rfl rfl ?_
  refine g_fR (c := 9) (k := 2) (x := da) (pc' := 12) cd_Te_endRow rfl rfl rfl rfl rfl (by decide) hT.1.1 hT.1.2 hT.2.1.2.2 ?_
  refine g_k2 (v := 7) (pc' := 14) cd_Te_endRow rfl (by decide) rfl ?_
  refine g_ild (pc' := 15) cd_Te_endRow rfl (Or.inr ⟨_, rfl, rfl, rfl⟩) l2 rfl ?_
  refine g_iast (pc' := 16) cd_Te_endRow rfl rfl hT.2.2.1.2.2.1 hT.2.2.1.2.2.2.1 (by show vp_in (nI 7) (bm_AL B da); rw [show bm_AL B da = 10 from hT.2.2.1.2.2.2.2]; exact vp_in_nI (by decide) (by decide)) ?_
  rw [show (7 : Int32).toNatClampNeg = 7 from rfl, show ∀ x, bm_setI ((te_dset B da (upd f 6 p0))) da 7 x = te_dset B da (upd (upd f 6 p0) 7 x) from fun x => te_dset_set (by decide)]
  refine g_ald (pc' := 17) cd_Te_endRow rfl (Or.inr ⟨_, rfl, rfl, rfl⟩) l0 rfl rfl ?_
  refine g_fR (c := 9) (k := 2) (x := da) (pc' := 20) cd_Te_endRow rfl rfl rfl rfl rfl (by decide) hT.1.1 hT.1.2 hT.2.1.2.2 ?_
  refine g_k2 (v := 8) (pc' := 22) cd_Te_endRow rfl (by decide) rfl ?_
  refine g_ild (pc' := 23) cd_Te_endRow rfl (Or.inr ⟨_, rfl, rfl, rfl⟩) l3 rfl ?_
  refine g_iast (pc' := 24) cd_Te_endRow rfl rfl hT.2.2.1.2.2.1 hT.2.2.1.2.2.2.1 (by show vp_in (nI 8) (bm_AL B da); rw [show bm_AL B da = 10 from hT.2.2.1.2.2.2.2]; exact vp_in_nI (by decide) (by decide)) ?_
  rw [show (8 : Int32).toNatClampNeg = 8 from rfl, show ∀ x, bm_setI ((te_dset B da (upd (upd f 6 p0) 7 p1))) da 8 x = te_dset B da (upd (upd (upd f 6 p0) 7 p1) 8 x) from fun x => te_dset_set (by decide)]
  refine g_ald (pc' := 25) cd_Te_endRow rfl (Or.inr ⟨_, rfl, rfl, rfl⟩) l0 rfl rfl ?_
  refine g_fR (c := 9) (k := 2) (x := da) (pc' := 28) cd_Te_endRow rfl rfl rfl rfl rfl (by decide) hT.1.1 hT.1.2 hT.2.1.2.2 ?_
  refine g_k2 (v := 9) (pc' := 30) cd_Te_endRow rfl (by decide) rfl ?_
  refine g_ild (pc' := 32) cd_Te_endRow rfl (Or.inl ⟨rfl, rfl⟩) l4 rfl ?_
  refine g_iast (pc' := 33) cd_Te_endRow rfl rfl hT.2.2.1.2.2.1 hT.2.2.1.2.2.2.1 (by show vp_in (nI 9) (bm_AL B da); rw [show bm_AL B da = 10 from hT.2.2.1.2.2.2.2]; exact vp_in_nI (by decide) (by decide)) ?_
  rw [show (9 : Int32).toNatClampNeg = 9 from rfl, show ∀ x, bm_setI ((te_dset B da (upd (upd (upd f 6 p0) 7 p1) 8 p2))) da 9 x = te_dset B da (upd (upd (upd (upd f 6 p0) 7 p1) 8 p2) 9 x) from fun x => te_dset_set (by decide)]
  refine g_ald (pc' := 34) cd_Te_endRow rfl (Or.inr ⟨_, rfl, rfl, rfl⟩) l0 rfl rfl ?_
  refine g_calli (pc' := 37) cd_Te_endRow rfl rfl rfl rfl rfl (tm_invV rfl rfl cd_Te_intern rfl (Nat.le_of_ble_eq_true rfl) (by decide) hT.1.1 hT.1.2) (te_mk hT hB hrm (fun B' r sz' hm => ?_))
  show bm_G _ _ _ 37 _ [.int (nI r)] B' _
  exact g_reti cd_Te_endRow rfl ⟨_, rfl, kk B' r sz' (te_made_f (fun k hk => by rcases (show k < 6 ∨ k = 6 ∨ k = 7 ∨ k = 8 ∨ k = 9 by omega) with h | rfl | rfl | rfl | rfl <;> first | rfl | (simp [upd, show ¬ k = 6 by omega, show ¬ k = 7 by omega, show ¬ k = 8 by omega, show ¬ k = 9 by omega, h])) hm)⟩
def te_pub (B : bm_H) (ca sz : Nat) (t : Int32) : Int32 := if te_get B ca sz t 0 = 1 then t + 1 else 0
set_option maxRecDepth 100000 in
theorem k_Te_publicOf {sc : tm_X} {d : Nat} {B : bm_H} {a ca ba da rm sz dr : Nat} {t : Int32} {Q : Int32 → bm_H → Prop} (hT : te_ok B a ca ba da rm sz dr) (kk : Q (te_pub B ca sz t) B) : bm_Gi sc (d + 1) 16 [.ref a, .int t] B Q := by
  show bm_G sc (d + 1) 16 0 [(0, .ref a), (1, .int t)] [] B _
  generalize elv : ([(0, .ref a), (1, .int t)] : tm_L) = lv
  have l0 : lv.lookup 0 = some (.ref a) := by rw [← elv]; rfl
  have l1 : lv.lookup 1 = some (.int t) := by rw [← elv]; rfl
  clear elv
  refine g_ald (pc' := 1) cd_Te_publicOf rfl (Or.inr ⟨_, rfl, rfl, rfl⟩) l0 rfl rfl ?_
  refine g_ild (pc' := 2) cd_Te_publicOf rfl (Or.inr ⟨_, rfl, rfl, rfl⟩) l1 rfl ?_
  refine g_calli (pc' := 5) cd_Te_publicOf rfl rfl rfl rfl rfl (tm_invV rfl rfl cd_Te_kindOf rfl (Nat.le_of_ble_eq_true rfl) (by decide) hT.1.1 hT.1.2) (k_Te_kindOf hT ?_)
  show bm_G _ _ _ 5 _ [.int (te_get B ca sz t 0)] B _
  refine g_k1 (v := 1) (pc' := 6) cd_Te_publicOf rfl (by decide) rfl ?_
  refine g_if2 (t := 15) (pc' := 9) cd_Te_publicOf rfl rfl rfl (fun c6 => ?_) (fun c6 => ?_)
  · have c6 : ¬ (te_get B ca sz t 0) = 1 := c6
    refine g_k1 (v := 0) (pc' := 16) cd_Te_publicOf rfl (by decide) rfl ?_
    exact g_reti cd_Te_publicOf rfl ⟨_, rfl, (by unfold te_pub at kk; rw [if_neg c6] at kk; exact kk)⟩
  · have c6 : ¬ (¬ (te_get B ca sz t 0) = 1) := c6
    refine g_ild (pc' := 10) cd_Te_publicOf rfl (Or.inr ⟨_, rfl, rfl, rfl⟩) l1 rfl ?_
    refine g_k1 (v := 1) (pc' := 11) cd_Te_publicOf rfl (by decide) rfl ?_
    refine g_pure (pc' := 12) (st' := [.int (t + 1)]) cd_Te_publicOf rfl rfl (fun _ _ => rfl) ?_
    refine g_pure (pc' := 16) (st' := [.int (t + 1)]) cd_Te_publicOf rfl rfl (fun _ _ => rfl) ?_
    exact g_reti cd_Te_publicOf rfl ⟨_, rfl, (by unfold te_pub at kk; rw [if_pos (Classical.not_not.mp c6)] at kk; exact kk)⟩
