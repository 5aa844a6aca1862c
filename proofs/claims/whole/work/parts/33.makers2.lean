/-! Terms: shared, secret, changed -/
theorem te_draws_ok {B : bm_H} {a ca ba da rm sz dr dr' : Nat} (hT : te_ok B a ca ba da rm sz dr) : te_ok (bm_putI B 9 5 a (nI dr')) a ca ba da rm sz dr' := by
  refine te_ok_of hT ⟨rfl, rfl, rfl, fun c k x h => ?_, rfl, rfl, fun _ _ _ _ => rfl, rfl⟩ hT.2.2.2.1.2.1 ?_ ⟨hT.2.2.2.2.1.1, hT.2.2.2.2.1.2.1⟩
  · show (if c = 9 ∧ k = 5 ∧ x = a then _ else _) = _
    rw [if_neg (fun q => h ⟨q.1, Or.inr q.2.1, q.2.2⟩)]
  · show (if 9 = 9 ∧ 5 = 5 ∧ a = a then _ else _) = _
    rw [if_pos ⟨rfl, rfl, rfl⟩]
/-- the other secret of a PUBLIC -/
def te_oth (B : bm_H) (ca sz : Nat) (p : Int32) : Int32 := te_gt2 B ca sz p 0 6
def te_mn (x y : Int32) : Int32 := if y < x then y else x
def te_mx (x y : Int32) : Int32 := if x < y then y else x
set_option maxRecDepth 100000 in
theorem k_Te_shared {sc : tm_X} {d : Nat} {B : bm_H} {a ca ba da rm sz dr : Nat} {s p : Int32} {Q : Int32 → bm_H → Prop} (hT : te_ok B a ca ba da rm sz dr) (hB : te_tab (bm_AI B ca) (bm_AI B ba) sz) (hrm : sz < rm) (kk0 : s = 0 ∨ te_oth B ca sz p = 0 → Q 0 B) (kk1 : ¬ s = 0 → ¬ te_oth B ca sz p = 0 → ∀ B' r sz', te_made B B' a ca ba da rm sz dr (te_rw [3, 0, 0, 0, 0, 0, te_mn s (te_oth B ca sz p), te_mx s (te_oth B ca sz p), te_mn s (te_oth B ca sz p) + 1, te_mx s (te_oth B ca sz p) + 1]) r sz' → Q (nI r) B') : bm_Gi sc (d + 2) 76 [.ref a, .int s, .int p] B Q := by
  show bm_G sc (d + 2) 76 0 [(0, .ref a), (1, .int s), (2, .int p)] [] B _
  generalize elv : ([(0, .ref a), (1, .int s), (2, .int p)] : tm_L) = lv
  have l0 : lv.lookup 0 = some (.ref a) := by rw [← elv]; rfl
  have l1 : lv.lookup 1 = some (.int s) := by rw [← elv]; rfl
  have l2 : lv.lookup 2 = some (.int p) := by rw [← elv]; rfl
  clear elv
  refine g_ald (pc' := 1) cd_Te_shared rfl (Or.inr ⟨_, rfl, rfl, rfl⟩) l0 rfl rfl ?_
  refine g_ild (pc' := 2) cd_Te_shared rfl (Or.inr ⟨_, rfl, rfl, rfl⟩) l2 rfl ?_
  refine g_k1 (v := 0) (pc' := 3) cd_Te_shared rfl (by decide) rfl ?_
  refine g_calli (pc' := 6) cd_Te_shared rfl rfl rfl rfl rfl (tm_invV rfl rfl cd_Te_partOf rfl (Nat.le_of_ble_eq_true rfl) (by decide) hT.1.1 hT.1.2) (k_Te_partOf hT ?_)
  show bm_G _ _ _ 6 _ [.int (te_oth B ca sz p)] B _
  refine g_ist (pc' := 7) cd_Te_shared rfl (Or.inr ⟨_, rfl, rfl, rfl⟩) (by decide) rfl (fun lv el => ?_)
  have l0 := tm_lk el l0 rfl (by decide)
  have l1 := tm_lk el l1 rfl (by decide)
  have l2 := tm_lk el l2 rfl (by decide)
  have l3 : lv.lookup 3 = some (.int (te_oth B ca sz p)) := tm_lks el
  clear el
  refine g_ild (pc' := 8) cd_Te_shared rfl (Or.inr ⟨_, rfl, rfl, rfl⟩) l1 rfl ?_
  refine g_if1 (t := 15) (pc' := 11) cd_Te_shared rfl rfl rfl (fun c8 => ?_) (fun c8 => ?_)
  · have c8 : s = 0 := c8
    refine g_k1 (v := 0) (pc' := 16) cd_Te_shared rfl (by decide) rfl ?_
    exact g_reti cd_Te_shared rfl ⟨_, rfl, kk0 (Or.inl c8)⟩
  · have c8 : ¬ s = 0 := c8
    refine g_ild (pc' := 12) cd_Te_shared rfl (Or.inr ⟨_, rfl, rfl, rfl⟩) l3 rfl ?_
    refine g_if1 (t := 17) (pc' := 15) cd_Te_shared rfl rfl rfl (fun c12 => ?_) (fun c12 => ?_)
    · have c12 : ¬ (te_oth B ca sz p) = 0 := c12
      refine g_ild (pc' := 18) cd_Te_shared rfl (Or.inr ⟨_, rfl, rfl, rfl⟩) l1 rfl ?_
      refine g_ild (pc' := 19) cd_Te_shared rfl (Or.inr ⟨_, rfl, rfl, rfl⟩) l3 rfl ?_
      refine g_min (pc' := 22) cd_Te_shared rfl rfl rfl rfl ?_
      show bm_G _ _ _ 22 _ [.int (te_mn s (te_oth B ca sz p))] B _
      refine g_ist (pc' := 24) cd_Te_shared rfl (Or.inl ⟨rfl, rfl⟩) (by decide) rfl (fun lv el => ?_)
      have l0 := tm_lk el l0 rfl (by decide)
      have l1 := tm_lk el l1 rfl (by decide)
      have l2 := tm_lk el l2 rfl (by decide)
      have l3 := tm_lk el l3 rfl (by decide)
      have l4 : lv.lookup 4 = some (.int (te_mn s (te_oth B ca sz p))) := tm_lks el
      clear el
      refine g_ild (pc' := 25) cd_Te_shared rfl (Or.inr ⟨_, rfl, rfl, rfl⟩) l1 rfl ?_
      refine g_ild (pc' := 26) cd_Te_shared rfl (Or.inr ⟨_, rfl, rfl, rfl⟩) l3 rfl ?_
      refine g_max (pc' := 29) cd_Te_shared rfl rfl rfl rfl ?_
      show bm_G _ _ _ 29 _ [.int (te_mx s (te_oth B ca sz p))] B _
      refine g_ist (pc' := 31) cd_Te_shared rfl (Or.inl ⟨rfl, rfl⟩) (by decide) rfl (fun lv el => ?_)
      have l0 := tm_lk el l0 rfl (by decide)
      have l1 := tm_lk el l1 rfl (by decide)
      have l2 := tm_lk el l2 rfl (by decide)
      have l3 := tm_lk el l3 rfl (by decide)
      have l4 := tm_lk el l4 rfl (by decide)
      have l5 : lv.lookup 5 = some (.int (te_mx s (te_oth B ca sz p))) := tm_lks el
      clear el
      refine g_ald (pc' := 32) cd_Te_shared rfl (Or.inr ⟨_, rfl, rfl, rfl⟩) l0 rfl rfl ?_
      refine g_k1 (v := 3) (pc' := 33) cd_Te_shared rfl (by decide) rfl ?_
      refine g_k1 (v := 0) (pc' := 34) cd_Te_shared rfl (by decide) rfl ?_
      refine g_callv (pc' := 37) cd_Te_shared rfl rfl rfl rfl rfl (tm_invV rfl rfl cd_Te_startDraft rfl (Nat.le_of_ble_eq_true rfl) (by decide) hT.1.1 hT.1.2) (k_Te_startDraft hT ?_)
      show bm_G _ _ _ 37 _ [] (te_dset B da (te_dr 3 0)) _
      refine g_ald (pc' := 38) cd_Te_shared rfl (Or.inr ⟨_, rfl, rfl, rfl⟩) l0 rfl rfl ?_
      refine g_fR (c := 9) (k := 2) (x := da) (pc' := 41) cd_Te_shared rfl rfl rfl rfl rfl (by decide) hT.1.1 hT.1.2 hT.2.1.2.2 ?_
      refine g_k2 (v := 6) (pc' := 43) cd_Te_shared rfl (by decide) rfl ?_
      refine g_ild (pc' := 45) cd_Te_shared rfl (Or.inl ⟨rfl, rfl⟩) l4 rfl ?_
      refine g_iast (pc' := 46) cd_Te_shared rfl rfl hT.2.2.1.2.2.1 hT.2.2.1.2.2.2.1 (by show vp_in (nI 6) (bm_AL B da); rw [show bm_AL B da = 10 from hT.2.2.1.2.2.2.2]; exact vp_in_nI (by decide) (by decide)) ?_
      rw [show (6 : Int32).toNatClampNeg = 6 from rfl, show ∀ x, bm_setI ((te_dset B da (te_dr 3 0))) da 6 x = te_dset B da (upd (te_dr 3 0) 6 x) from fun x => te_dset_set (by decide)]
      refine g_ald (pc' := 47) cd_Te_shared rfl (Or.inr ⟨_, rfl, rfl, rfl⟩) l0 rfl rfl ?_
      refine g_fR (c := 9) (k := 2) (x := da) (pc' := 50) cd_Te_shared rfl rfl rfl rfl rfl (by decide) hT.1.1 hT.1.2 hT.2.1.2.2 ?_
      refine g_k2 (v := 7) (pc' := 52) cd_Te_shared rfl (by decide) rfl ?_
      refine g_ild (pc' := 54) cd_Te_shared rfl (Or.inl ⟨rfl, rfl⟩) l5 rfl ?_
      refine g_iast (pc' := 55) cd_Te_shared rfl rfl hT.2.2.1.2.2.1 hT.2.2.1.2.2.2.1 (by show vp_in (nI 7) (bm_AL B da); rw [show bm_AL B da = 10 from hT.2.2.1.2.2.2.2]; exact vp_in_nI (by decide) (by decide)) ?_
      rw [show (7 : Int32).toNatClampNeg = 7 from rfl, show ∀ x, bm_setI ((te_dset B da (upd (te_dr 3 0) 6 (te_mn s (te_oth B ca sz p))))) da 7 x = te_dset B da (upd (upd (te_dr 3 0) 6 (te_mn s (te_oth B ca sz p))) 7 x) from fun x => te_dset_set (by decide)]
      refine g_ald (pc' := 56) cd_Te_shared rfl (Or.inr ⟨_, rfl, rfl, rfl⟩) l0 rfl rfl ?_
      refine g_fR (c := 9) (k := 2) (x := da) (pc' := 59) cd_Te_shared rfl rfl rfl rfl rfl (by decide) hT.1.1 hT.1.2 hT.2.1.2.2 ?_
      refine g_k2 (v := 8) (pc' := 61) cd_Te_shared rfl (by decide) rfl ?_
      refine g_ild (pc' := 63) cd_Te_shared rfl (Or.inl ⟨rfl, rfl⟩) l4 rfl ?_
      refine g_k1 (v := 1) (pc' := 64) cd_Te_shared rfl (by decide) rfl ?_
      refine g_pure (pc' := 65) (st' := [.int ((te_mn s (te_oth B ca sz p)) + 1), .int 8, .ref da]) cd_Te_shared rfl rfl (fun _ _ => rfl) ?_
      refine g_iast (pc' := 66) cd_Te_shared rfl rfl hT.2.2.1.2.2.1 hT.2.2.1.2.2.2.1 (by show vp_in (nI 8) (bm_AL B da); rw [show bm_AL B da = 10 from hT.2.2.1.2.2.2.2]; exact vp_in_nI (by decide) (by decide)) ?_
      rw [show (8 : Int32).toNatClampNeg = 8 from rfl, show ∀ x, bm_setI ((te_dset B da (upd (upd (te_dr 3 0) 6 (te_mn s (te_oth B ca sz p))) 7 (te_mx s (te_oth B ca sz p))))) da 8 x = te_dset B da (upd (upd (upd (te_dr 3 0) 6 (te_mn s (te_oth B ca sz p))) 7 (te_mx s (te_oth B ca sz p))) 8 x) from fun x => te_dset_set (by decide)]
      refine g_ald (pc' := 67) cd_Te_shared rfl (Or.inr ⟨_, rfl, rfl, rfl⟩) l0 rfl rfl ?_
      refine g_fR (c := 9) (k := 2) (x := da) (pc' := 70) cd_Te_shared rfl rfl rfl rfl rfl (by decide) hT.1.1 hT.1.2 hT.2.1.2.2 ?_
      refine g_k2 (v := 9) (pc' := 72) cd_Te_shared rfl (by decide) rfl ?_
      refine g_ild (pc' := 74) cd_Te_shared rfl (Or.inl ⟨rfl, rfl⟩) l5 rfl ?_
      refine g_k1 (v := 1) (pc' := 75) cd_Te_shared rfl (by decide) rfl ?_
      refine g_pure (pc' := 76) (st' := [.int ((te_mx s (te_oth B ca sz p)) + 1), .int 9, .ref da]) cd_Te_shared rfl rfl (fun _ _ => rfl) ?_
      refine g_iast (pc' := 77) cd_Te_shared rfl rfl hT.2.2.1.2.2.1 hT.2.2.1.2.2.2.1 (by show vp_in (nI 9) (bm_AL B da); rw [show bm_AL B da = 10 from hT.2.2.1.2.2.2.2]; exact vp_in_nI (by decide) (by decide)) ?_
      rw [show (9 : Int32).toNatClampNeg = 9 from rfl, show ∀ x, bm_setI ((te_dset B da (upd (upd (upd (te_dr 3 0) 6 (te_mn s (te_oth B ca sz p))) 7 (te_mx s (te_oth B ca sz p))) 8 ((te_mn s (te_oth B ca sz p)) + 1)))) da 9 x = te_dset B da (upd (upd (upd (upd (te_dr 3 0) 6 (te_mn s (te_oth B ca sz p))) 7 (te_mx s (te_oth B ca sz p))) 8 ((te_mn s (te_oth B ca sz p)) + 1)) 9 x) from fun x => te_dset_set (by decide)]
      refine g_ald (pc' := 78) cd_Te_shared rfl (Or.inr ⟨_, rfl, rfl, rfl⟩) l0 rfl rfl ?_
      refine g_calli (pc' := 81) cd_Te_shared rfl rfl rfl rfl rfl (tm_invV rfl rfl cd_Te_intern rfl (Nat.le_of_ble_eq_true rfl) (by decide) hT.1.1 hT.1.2) (te_mk hT hB hrm (fun B' r sz' hm => ?_))
      show bm_G _ _ _ 81 _ [.int (nI r)] B' _
      exact g_reti cd_Te_shared rfl ⟨_, rfl, kk1 c8 c12 B' r sz' (te_made_f (fun k hk => by rcases (show k = 0 ∨ k = 1 ∨ k = 2 ∨ k = 3 ∨ k = 4 ∨ k = 5 ∨ k = 6 ∨ k = 7 ∨ k = 8 ∨ k = 9 by omega) with rfl | rfl | rfl | rfl | rfl | rfl | rfl | rfl | rfl | rfl <;> rfl) hm)⟩
    · have c12 : ¬ (¬ (te_oth B ca sz p) = 0) := c12
      refine g_k1 (v := 0) (pc' := 16) cd_Te_shared rfl (by decide) rfl ?_
      exact g_reti cd_Te_shared rfl ⟨_, rfl, kk0 (Or.inr (Classical.not_not.mp c12))⟩
set_option maxRecDepth 100000 in
theorem k_Te_secret {sc : tm_X} {d : Nat} {B : bm_H} {a ca ba da rm sz dr : Nat} {xd xp : Int32} {Q : Int32 → bm_H → Prop} (hT : te_ok B a ca ba da rm sz dr) (hB : te_tab (bm_AI B ca) (bm_AI B ba) sz) (hrm : sz + 1 < rm) (kk : ∀ B1 r1 sz1 B2 r2 sz2, te_made (bm_putI B 9 5 a (nI (dr + 1))) B1 a ca ba da rm sz (dr + 1) (te_rw [1, nI dr, xd, xp, 0, 0, 0, 0, 0, 0]) r1 sz1 → te_made B1 B2 a ca ba da rm sz1 (dr + 1) (te_rw [2, 0, 0, 0, 0, 0, nI r1, 0, 0, 0]) r2 sz2 → Q (nI r1) B2) : bm_Gi sc (d + 2) 13 [.ref a, .int xd, .int xp] B Q := by
  show bm_G sc (d + 2) 13 0 [(0, .ref a), (1, .int xd), (2, .int xp)] [] B _
  generalize elv : ([(0, .ref a), (1, .int xd), (2, .int xp)] : tm_L) = lv
  have l0 : lv.lookup 0 = some (.ref a) := by rw [← elv]; rfl
  have l1 : lv.lookup 1 = some (.int xd) := by rw [← elv]; rfl
  have l2 : lv.lookup 2 = some (.int xp) := by rw [← elv]; rfl
  clear elv
  refine g_ald (pc' := 1) cd_Te_secret rfl (Or.inr ⟨_, rfl, rfl, rfl⟩) l0 rfl rfl ?_
  refine g_k1 (v := 1) (pc' := 2) cd_Te_secret rfl (by decide) rfl ?_
  refine g_ald (pc' := 3) cd_Te_secret rfl (Or.inr ⟨_, rfl, rfl, rfl⟩) l0 rfl rfl ?_
  refine g_fI (c := 9) (k := 5) (x := (nI dr)) (pc' := 6) cd_Te_secret rfl rfl rfl rfl rfl (by decide) hT.1.1 hT.1.2 hT.2.2.2.1.2.2 ?_
  refine g_callv (pc' := 9) cd_Te_secret rfl rfl rfl rfl rfl (tm_invV rfl rfl cd_Te_startDraft rfl (Nat.le_of_ble_eq_true rfl) (by decide) hT.1.1 hT.1.2) (k_Te_startDraft hT ?_)
  show bm_G _ _ _ 9 _ [] (te_dset B da (te_dr 1 (nI dr))) _
  refine g_ald (pc' := 10) cd_Te_secret rfl (Or.inr ⟨_, rfl, rfl, rfl⟩) l0 rfl rfl ?_
  refine g_pure (pc' := 11) (st' := [.ref a, .ref a]) cd_Te_secret rfl rfl (fun _ _ => rfl) ?_
  refine g_fI (c := 9) (k := 5) (x := (nI dr)) (pc' := 14) cd_Te_secret rfl rfl rfl rfl rfl (by decide) hT.1.1 hT.1.2 hT.2.2.2.1.2.2 ?_
  refine g_k1 (v := 1) (pc' := 15) cd_Te_secret rfl (by decide) rfl ?_
  refine g_pure (pc' := 16) (st' := [.int ((nI dr) + 1), .ref a]) cd_Te_secret rfl rfl (fun _ _ => rfl) ?_
  rw [nI_1 dr]
  refine g_putI (c := 9) (k := 5) (pc' := 19) cd_Te_secret rfl rfl rfl rfl (by simp [tm_okV, narrow, fits]) (Or.inl rfl) rfl (by decide) hT.1.1 hT.1.2 ?_
  show bm_G _ _ _ 19 _ [] (te_dset (bm_putI B 9 5 a (nI (dr + 1))) da (te_dr 1 (nI dr))) _
  refine g_ald (pc' := 20) cd_Te_secret rfl (Or.inr ⟨_, rfl, rfl, rfl⟩) l0 rfl rfl ?_
  refine g_fR (c := 9) (k := 2) (x := da) (pc' := 23) cd_Te_secret rfl rfl rfl rfl rfl (by decide) hT.1.1 hT.1.2 hT.2.1.2.2 ?_
  refine g_k1 (v := 2) (pc' := 24) cd_Te_secret rfl (by decide) rfl ?_
  refine g_ild (pc' := 25) cd_Te_secret rfl (Or.inr ⟨_, rfl, rfl, rfl⟩) l1 rfl ?_
  refine g_iast (pc' := 26) cd_Te_secret rfl rfl hT.2.2.1.2.2.1 hT.2.2.1.2.2.2.1 (by show vp_in (nI 2) (bm_AL B da); rw [show bm_AL B da = 10 from hT.2.2.1.2.2.2.2]; exact vp_in_nI (by decide) (by decide)) ?_
  rw [show (2 : Int32).toNatClampNeg = 2 from rfl, show ∀ x, bm_setI ((te_dset (bm_putI B 9 5 a (nI (dr + 1))) da (te_dr 1 (nI dr)))) da 2 x = te_dset (bm_putI B 9 5 a (nI (dr + 1))) da (upd (te_dr 1 (nI dr)) 2 x) from fun x => te_dset_set (by decide)]
  refine g_ald (pc' := 27) cd_Te_secret rfl (Or.inr ⟨_, rfl, rfl, rfl⟩) l0 rfl rfl ?_
  refine g_fR (c := 9) (k := 2) (x := da) (pc' := 30) cd_Te_secret rfl rfl rfl rfl rfl (by decide) hT.1.1 hT.1.2 hT.2.1.2.2 ?_
  refine g_k1 (v := 3) (pc' := 31) cd_Te_secret rfl (by decide) rfl ?_
  refine g_ild (pc' := 32) cd_Te_secret rfl (Or.inr ⟨_, rfl, rfl, rfl⟩) l2 rfl ?_
  refine g_iast (pc' := 33) cd_Te_secret rfl rfl hT.2.2.1.2.2.1 hT.2.2.1.2.2.2.1 (by show vp_in (nI 3) (bm_AL B da); rw [show bm_AL B da = 10 from hT.2.2.1.2.2.2.2]; exact vp_in_nI (by decide) (by decide)) ?_
  rw [show (3 : Int32).toNatClampNeg = 3 from rfl, show ∀ x, bm_setI ((te_dset (bm_putI B 9 5 a (nI (dr + 1))) da (upd (te_dr 1 (nI dr)) 2 xd))) da 3 x = te_dset (bm_putI B 9 5 a (nI (dr + 1))) da (upd (upd (te_dr 1 (nI dr)) 2 xd) 3 x) from fun x => te_dset_set (by decide)]
  refine g_ald (pc' := 34) cd_Te_secret rfl (Or.inr ⟨_, rfl, rfl, rfl⟩) l0 rfl rfl ?_
  refine g_calli (pc' := 37) cd_Te_secret rfl rfl rfl rfl rfl (tm_invV rfl rfl cd_Te_intern rfl (Nat.le_of_ble_eq_true rfl) (by decide) hT.1.1 hT.1.2) (te_mk (te_draws_ok hT) hB (by omega) (fun B1 r1 sz1 hm1 => ?_))
  have hr1 : sz1 < rm := by rcases hm1.2.2.2.2.2.1 with h | h <;> omega
  show bm_G _ _ _ 37 _ [.int (nI r1)] B1 _
  refine g_ist (pc' := 38) cd_Te_secret rfl (Or.inr ⟨_, rfl, rfl, rfl⟩) (by decide) rfl (fun lv el => ?_)
  have l0 := tm_lk el l0 rfl (by decide)
  have l1 := tm_lk el l1 rfl (by decide)
  have l2 := tm_lk el l2 rfl (by decide)
  have l3 : lv.lookup 3 = some (.int (nI r1)) := tm_lks el
  clear el
  refine g_ald (pc' := 39) cd_Te_secret rfl (Or.inr ⟨_, rfl, rfl, rfl⟩) l0 rfl rfl ?_
  refine g_k1 (v := 2) (pc' := 40) cd_Te_secret rfl (by decide) rfl ?_
  refine g_k1 (v := 0) (pc' := 41) cd_Te_secret rfl (by decide) rfl ?_
  refine g_callv (pc' := 44) cd_Te_secret rfl rfl rfl rfl rfl (tm_invV rfl rfl cd_Te_startDraft rfl (Nat.le_of_ble_eq_true rfl) (by decide) hm1.1.1.1 hm1.1.1.2) (k_Te_startDraft hm1.1 ?_)
  show bm_G _ _ _ 44 _ [] (te_dset B1 da (te_dr 2 0)) _
  refine g_ald (pc' := 45) cd_Te_secret rfl (Or.inr ⟨_, rfl, rfl, rfl⟩) l0 rfl rfl ?_
  refine g_fR (c := 9) (k := 2) (x := da) (pc' := 48) cd_Te_secret rfl rfl rfl rfl rfl (by decide) hm1.1.1.1 hm1.1.1.2 hm1.1.2.1.2.2 ?_
  refine g_k2 (v := 6) (pc' := 50) cd_Te_secret rfl (by decide) rfl ?_
  refine g_ild (pc' := 51) cd_Te_secret rfl (Or.inr ⟨_, rfl, rfl, rfl⟩) l3 rfl ?_
  refine g_iast (pc' := 52) cd_Te_secret rfl rfl hm1.1.2.2.1.2.2.1 hm1.1.2.2.1.2.2.2.1 (by show vp_in (nI 6) (bm_AL B1 da); rw [show bm_AL B1 da = 10 from hm1.1.2.2.1.2.2.2.2]; exact vp_in_nI (by decide) (by decide)) ?_
  rw [show (6 : Int32).toNatClampNeg = 6 from rfl, show ∀ x, bm_setI ((te_dset B1 da (te_dr 2 0))) da 6 x = te_dset B1 da (upd (te_dr 2 0) 6 x) from fun x => te_dset_set (by decide)]
  refine g_ald (pc' := 53) cd_Te_secret rfl (Or.inr ⟨_, rfl, rfl, rfl⟩) l0 rfl rfl ?_
  refine g_calli (pc' := 56) cd_Te_secret rfl rfl rfl rfl rfl (tm_invV rfl rfl cd_Te_intern rfl (Nat.le_of_ble_eq_true rfl) (by decide) hm1.1.1.1 hm1.1.1.2) (te_mk hm1.1 hm1.2.1 hr1 (fun B2 r2 sz2 hm2 => ?_))
  show bm_G _ _ _ 56 _ [.int (nI r2)] B2 _
  refine g_pure (pc' := 57) (st' := []) cd_Te_secret rfl rfl (fun _ _ => rfl) ?_
  refine g_ild (pc' := 58) cd_Te_secret rfl (Or.inr ⟨_, rfl, rfl, rfl⟩) l3 rfl ?_
  exact g_reti cd_Te_secret rfl ⟨_, rfl, kk B1 r1 sz1 B2 r2 sz2 (te_made_f (fun k hk => by rcases (show k = 0 ∨ k = 1 ∨ k = 2 ∨ k = 3 ∨ k = 4 ∨ k = 5 ∨ k = 6 ∨ k = 7 ∨ k = 8 ∨ k = 9 by omega) with rfl | rfl | rfl | rfl | rfl | rfl | rfl | rfl | rfl | rfl <;> rfl) hm1) (te_made_f (fun k hk => by rcases (show k = 0 ∨ k = 1 ∨ k = 2 ∨ k = 3 ∨ k = 4 ∨ k = 5 ∨ k = 6 ∨ k = 7 ∨ k = 8 ∨ k = 9 by omega) with rfl | rfl | rfl | rfl | rfl | rfl | rfl | rfl | rfl | rfl <;> rfl) hm2)⟩
set_option maxRecDepth 100000 in
theorem k_Te_changed {sc : tm_X} {d : Nat} {B : bm_H} {a ca ba da rm sz dr : Nat} {u k : Nat} {v : Int32} {Q : Int32 → bm_H → Prop} (hT : te_ok B a ca ba da rm sz dr) (hB : te_tab (bm_AI B ca) (bm_AI B ba) sz) (hrm : sz < rm) (u0 : 0 < u) (hu : u < sz) (hk : k < 10) (kk : ∀ B' r sz', te_made B B' a ca ba da rm sz dr (upd (te_row (bm_AI B ca) u) k v) r sz' → Q (nI r) B') : bm_Gi sc (d + 2) 147 [.ref a, .int (nI u), .int (nI k), .int v] B Q := by
  have hsz : sz ≤ 65536 := Nat.le_trans hT.2.2.2.2.1.2.1 hT.2.2.2.2.1.2.2
  show bm_G sc (d + 2) 147 0 [(0, .ref a), (1, .int (nI u)), (2, .int (nI k)), (3, .int v)] [] B _
  generalize elv : ([(0, .ref a), (1, .int (nI u)), (2, .int (nI k)), (3, .int v)] : tm_L) = lv
  have l0 : lv.lookup 0 = some (.ref a) := by rw [← elv]; rfl
  have l1 : lv.lookup 1 = some (.int (nI u)) := by rw [← elv]; rfl
  have l2 : lv.lookup 2 = some (.int (nI k)) := by rw [← elv]; rfl
  have l3 : lv.lookup 3 = some (.int v) := by rw [← elv]; rfl
  clear elv
  refine g_ild (pc' := 1) cd_Te_changed rfl (Or.inr ⟨_, rfl, rfl, rfl⟩) l1 rfl ?_
  refine g_if1 (t := 25) (pc' := 4) cd_Te_changed rfl rfl rfl (fun c1 => ?_) (fun c1 => ?_)
  · have c1 : (nI u) ≤ 0 := c1
    exact absurd c1 (nI_nle u0 (by omega))
  · have c1 : ¬ (nI u) ≤ 0 := c1
    refine g_ild (pc' := 5) cd_Te_changed rfl (Or.inr ⟨_, rfl, rfl, rfl⟩) l1 rfl ?_
    refine g_ald (pc' := 6) cd_Te_changed rfl (Or.inr ⟨_, rfl, rfl, rfl⟩) l0 rfl rfl ?_
    refine g_fI (c := 9) (k := 4) (x := (nI sz)) (pc' := 9) cd_Te_changed rfl rfl rfl rfl rfl (by decide) hT.1.1 hT.1.2 hT.2.2.2.1.2.1 ?_
    refine g_if2 (t := 25) (pc' := 12) cd_Te_changed rfl rfl rfl (fun c9 => ?_) (fun c9 => ?_)
    · have c9 : (nI sz) ≤ (nI u) := c9
      exact absurd c9 (nI_ge hu (by omega))
    · have c9 : ¬ (nI sz) ≤ (nI u) := c9
      refine g_ild (pc' := 13) cd_Te_changed rfl (Or.inr ⟨_, rfl, rfl, rfl⟩) l2 rfl ?_
      refine g_if1 (t := 25) (pc' := 16) cd_Te_changed rfl rfl rfl (fun c13 => ?_) (fun c13 => ?_)
      · have c13 : (nI k) < 0 := c13
        exact absurd c13 (nI_pos (by omega))
      · have c13 : ¬ (nI k) < 0 := c13
        refine g_ild (pc' := 17) cd_Te_changed rfl (Or.inr ⟨_, rfl, rfl, rfl⟩) l2 rfl ?_
        refine g_ald (pc' := 18) cd_Te_changed rfl (Or.inr ⟨_, rfl, rfl, rfl⟩) l0 rfl rfl ?_
        refine g_fR (c := 9) (k := 2) (x := da) (pc' := 21) cd_Te_changed rfl rfl rfl rfl rfl (by decide) hT.1.1 hT.1.2 hT.2.1.2.2 ?_
        refine g_al (x := 10) (pc' := 22) cd_Te_changed rfl rfl hT.2.2.1.2.2.1 (Nat.le_of_eq (Eq.symm hT.2.2.1.2.2.2.1)) (by rw [show bm_K B da = 13 from hT.2.2.1.2.2.2.1]; decide) (by rw [show bm_AL B da = 10 from hT.2.2.1.2.2.2.2]; rfl) ?_
        refine g_if2 (t := 27) (pc' := 25) cd_Te_changed rfl rfl rfl (fun c22 => ?_) (fun c22 => ?_)
        · have c22 : (nI k) < 10 := c22
          refine g_ald (pc' := 28) cd_Te_changed rfl (Or.inr ⟨_, rfl, rfl, rfl⟩) l0 rfl rfl ?_
          refine g_fR (c := 9) (k := 0) (x := ca) (pc' := 31) cd_Te_changed rfl rfl rfl rfl rfl (by decide) hT.1.1 hT.1.2 hT.2.1.1 ?_
          refine g_ild (pc' := 32) cd_Te_changed rfl (Or.inr ⟨_, rfl, rfl, rfl⟩) l1 rfl ?_
          refine g_k2 (v := 11) (pc' := 34) cd_Te_changed rfl (by decide) rfl ?_
          refine g_pure (pc' := 35) (st' := [.int ((nI u) * 11), .ref ca]) cd_Te_changed rfl rfl (fun _ _ => rfl) ?_
          refine g_ald (pc' := 36) cd_Te_changed rfl (Or.inr ⟨_, rfl, rfl, rfl⟩) l0 rfl rfl ?_
          refine g_fR (c := 9) (k := 2) (x := da) (pc' := 39) cd_Te_changed rfl rfl rfl rfl rfl (by decide) hT.1.1 hT.1.2 hT.2.1.2.2 ?_
          refine g_k1 (v := 0) (pc' := 40) cd_Te_changed rfl (by decide) rfl ?_
          refine g_ald (pc' := 41) cd_Te_changed rfl (Or.inr ⟨_, rfl, rfl, rfl⟩) l0 rfl rfl ?_
          refine g_fR (c := 9) (k := 2) (x := da) (pc' := 44) cd_Te_changed rfl rfl rfl rfl rfl (by decide) hT.1.1 hT.1.2 hT.2.1.2.2 ?_
          refine g_al (x := 10) (pc' := 45) cd_Te_changed rfl rfl hT.2.2.1.2.2.1 (Nat.le_of_eq (Eq.symm hT.2.2.1.2.2.2.1)) (by rw [show bm_K B da = 13 from hT.2.2.1.2.2.2.1]; decide) (by rw [show bm_AL B da = 10 from hT.2.2.1.2.2.2.2]; rfl) ?_
          have hx := te_at_in hT hu (k := 0) (by decide)
          rw [show nI 0 = 0 from rfl, Int32.add_zero, Nat.add_zero] at hx
          refine g_copy (pc' := 48) cd_Te_changed rfl rfl rfl hT.2.2.1.1.1 hT.2.2.1.1.2.1 hT.2.2.1.2.2.1 hT.2.2.1.2.2.2.1 (fun q => hx.1 (Or.inl q)) (by decide) (by decide) (by rw [hx.2, show bm_AL B ca = rm * 11 from hT.2.2.1.1.2.2, show (10 : Int32).toNatClampNeg = 10 from rfl]; have := hT.2.2.2.2.1.2.1; omega) (by rw [show bm_AL B da = 10 from hT.2.2.1.2.2.2.2]; decide) rfl ?_
          rw [hx.2, show (10 : Int32).toNatClampNeg = 10 from rfl, show (0 : Int32).toNatClampNeg = 0 from rfl, te_cpy_dset hT.2.2.1.2.2.2.2]
          refine g_ald (pc' := 49) cd_Te_changed rfl (Or.inr ⟨_, rfl, rfl, rfl⟩) l0 rfl rfl ?_
          refine g_fR (c := 9) (k := 2) (x := da) (pc' := 52) cd_Te_changed rfl rfl rfl rfl rfl (by decide) hT.1.1 hT.1.2 hT.2.1.2.2 ?_
          refine g_ild (pc' := 53) cd_Te_changed rfl (Or.inr ⟨_, rfl, rfl, rfl⟩) l2 rfl ?_
          refine g_ild (pc' := 54) cd_Te_changed rfl (Or.inr ⟨_, rfl, rfl, rfl⟩) l3 rfl ?_
          refine g_iast (pc' := 55) cd_Te_changed rfl rfl hT.2.2.1.2.2.1 hT.2.2.1.2.2.2.1 (by show vp_in (nI k) (bm_AL B da); rw [show bm_AL B da = 10 from hT.2.2.1.2.2.2.2]; exact vp_in_nI hk (by decide)) ?_
          rw [nI_clamp (show k < 2 ^ 31 by omega), te_dset_set hk]
          refine g_ald (pc' := 56) cd_Te_changed rfl (Or.inr ⟨_, rfl, rfl, rfl⟩) l0 rfl rfl ?_
          refine g_calli (pc' := 59) cd_Te_changed rfl rfl rfl rfl rfl (tm_invV rfl rfl cd_Te_intern rfl (Nat.le_of_ble_eq_true rfl) (by decide) hT.1.1 hT.1.2) (te_mk hT hB hrm (fun B' r sz' hm => ?_))
          show bm_G _ _ _ 59 _ [.int (nI r)] B' _
          exact g_reti cd_Te_changed rfl ⟨_, rfl, kk B' r sz' hm⟩
        · have c22 : ¬ (nI k) < 10 := c22
          exact absurd (show nI k < nI 10 from nI_lt hk (by decide)) c22
set_option maxRecDepth 100000 in
theorem k_Te_withKind {sc : tm_X} {d : Nat} {B : bm_H} {a ca ba da rm sz dr : Nat} {u : Nat} {v : Int32} {Q : Int32 → bm_H → Prop} (hT : te_ok B a ca ba da rm sz dr) (hB : te_tab (bm_AI B ca) (bm_AI B ba) sz) (hrm : sz < rm) (u0 : 0 < u) (hu : u < sz) (kk : ∀ B' r sz', te_made B B' a ca ba da rm sz dr (upd (te_row (bm_AI B ca) u) 1 v) r sz' → Q (nI r) B') : bm_Gi sc (d + 3) 146 [.ref a, .int (nI u), .int v] B Q := by
  show bm_G sc (d + 3) 146 0 [(0, .ref a), (1, .int (nI u)), (2, .int v)] [] B _
  generalize elv : ([(0, .ref a), (1, .int (nI u)), (2, .int v)] : tm_L) = lv
  have l0 : lv.lookup 0 = some (.ref a) := by rw [← elv]; rfl
  have l1 : lv.lookup 1 = some (.int (nI u)) := by rw [← elv]; rfl
  have l2 : lv.lookup 2 = some (.int v) := by rw [← elv]; rfl
  clear elv
  refine g_ald (pc' := 1) cd_Te_withKind rfl (Or.inr ⟨_, rfl, rfl, rfl⟩) l0 rfl rfl ?_
  refine g_ild (pc' := 2) cd_Te_withKind rfl (Or.inr ⟨_, rfl, rfl, rfl⟩) l1 rfl ?_
  refine g_k1 (v := 1) (pc' := 3) cd_Te_withKind rfl (by decide) rfl ?_
  refine g_ild (pc' := 4) cd_Te_withKind rfl (Or.inr ⟨_, rfl, rfl, rfl⟩) l2 rfl ?_
  refine g_calli (pc' := 7) cd_Te_withKind rfl rfl rfl rfl rfl (tm_invV rfl rfl cd_Te_changed rfl (Nat.le_of_ble_eq_true rfl) (by decide) hT.1.1 hT.1.2) (k_Te_changed (k := 1) hT hB hrm u0 hu (by decide) (fun B' r sz' hm => ?_))
  show bm_G _ _ _ 7 _ [.int (nI r)] B' _
  exact g_reti cd_Te_withKind rfl ⟨_, rfl, kk B' r sz' hm⟩
set_option maxRecDepth 100000 in
theorem k_Te_withNumber {sc : tm_X} {d : Nat} {B : bm_H} {a ca ba da rm sz dr : Nat} {u i : Nat} {v : Int32} {Q : Int32 → bm_H → Prop} (hT : te_ok B a ca ba da rm sz dr) (hB : te_tab (bm_AI B ca) (bm_AI B ba) sz) (hrm : sz < rm) (u0 : 0 < u) (hu : u < sz) (hi : i < 4) (kk : ∀ B' r sz', te_made B B' a ca ba da rm sz dr (upd (te_row (bm_AI B ca) u) (2 + i) v) r sz' → Q (nI r) B') : bm_Gi sc (d + 3) 148 [.ref a, .int (nI u), .int (nI i), .int v] B Q := by
  show bm_G sc (d + 3) 148 0 [(0, .ref a), (1, .int (nI u)), (2, .int (nI i)), (3, .int v)] [] B _
  generalize elv : ([(0, .ref a), (1, .int (nI u)), (2, .int (nI i)), (3, .int v)] : tm_L) = lv
  have l0 : lv.lookup 0 = some (.ref a) := by rw [← elv]; rfl
  have l1 : lv.lookup 1 = some (.int (nI u)) := by rw [← elv]; rfl
  have l2 : lv.lookup 2 = some (.int (nI i)) := by rw [← elv]; rfl
  have l3 : lv.lookup 3 = some (.int v) := by rw [← elv]; rfl
  clear elv
  refine g_ald (pc' := 1) cd_Te_withNumber rfl (Or.inr ⟨_, rfl, rfl, rfl⟩) l0 rfl rfl ?_
  refine g_ild (pc' := 2) cd_Te_withNumber rfl (Or.inr ⟨_, rfl, rfl, rfl⟩) l1 rfl ?_
  refine g_k1 (v := 2) (pc' := 3) cd_Te_withNumber rfl (by decide) rfl ?_
  refine g_ild (pc' := 4) cd_Te_withNumber rfl (Or.inr ⟨_, rfl, rfl, rfl⟩) l2 rfl ?_
  refine g_pure (pc' := 5) (st' := [.int (2 + (nI i)), .int (nI u), .ref a]) cd_Te_withNumber rfl rfl (fun _ _ => rfl) ?_
  rw [show (2 : Int32) + nI i = nI (2 + i) from nI_add 2 i]
  refine g_ild (pc' := 6) cd_Te_withNumber rfl (Or.inr ⟨_, rfl, rfl, rfl⟩) l3 rfl ?_
  refine g_calli (pc' := 9) cd_Te_withNumber rfl rfl rfl rfl rfl (tm_invV rfl rfl cd_Te_changed rfl (Nat.le_of_ble_eq_true rfl) (by decide) hT.1.1 hT.1.2) (k_Te_changed (k := (2 + i)) hT hB hrm u0 hu (by omega) (fun B' r sz' hm => ?_))
  show bm_G _ _ _ 9 _ [.int (nI r)] B' _
  exact g_reti cd_Te_withNumber rfl ⟨_, rfl, kk B' r sz' hm⟩
set_option maxRecDepth 100000 in
theorem k_Te_withPart {sc : tm_X} {d : Nat} {B : bm_H} {a ca ba da rm sz dr : Nat} {u i : Nat} {v : Int32} {Q : Int32 → bm_H → Prop} (hT : te_ok B a ca ba da rm sz dr) (hB : te_tab (bm_AI B ca) (bm_AI B ba) sz) (hrm : sz < rm) (u0 : 0 < u) (hu : u < sz) (hi : i < 4) (kk : ∀ B' r sz', te_made B B' a ca ba da rm sz dr (upd (te_row (bm_AI B ca) u) (6 + i) v) r sz' → Q (nI r) B') : bm_Gi sc (d + 3) 150 [.ref a, .int (nI u), .int (nI i), .int v] B Q := by
  show bm_G sc (d + 3) 150 0 [(0, .ref a), (1, .int (nI u)), (2, .int (nI i)), (3, .int v)] [] B _
  generalize elv : ([(0, .ref a), (1, .int (nI u)), (2, .int (nI i)), (3, .int v)] : tm_L) = lv
  have l0 : lv.lookup 0 = some (.ref a) := by rw [← elv]; rfl
  have l1 : lv.lookup 1 = some (.int (nI u)) := by rw [← elv]; rfl
  have l2 : lv.lookup 2 = some (.int (nI i)) := by rw [← elv]; rfl
  have l3 : lv.lookup 3 = some (.int v) := by rw [← elv]; rfl
  clear elv
  refine g_ald (pc' := 1) cd_Te_withPart rfl (Or.inr ⟨_, rfl, rfl, rfl⟩) l0 rfl rfl ?_
  refine g_ild (pc' := 2) cd_Te_withPart rfl (Or.inr ⟨_, rfl, rfl, rfl⟩) l1 rfl ?_
  refine g_k2 (v := 6) (pc' := 4) cd_Te_withPart rfl (by decide) rfl ?_
  refine g_ild (pc' := 5) cd_Te_withPart rfl (Or.inr ⟨_, rfl, rfl, rfl⟩) l2 rfl ?_
  refine g_pure (pc' := 6) (st' := [.int (6 + (nI i)), .int (nI u), .ref a]) cd_Te_withPart rfl rfl (fun _ _ => rfl) ?_
  rw [show (6 : Int32) + nI i = nI (6 + i) from nI_add 6 i]
  refine g_ild (pc' := 7) cd_Te_withPart rfl (Or.inr ⟨_, rfl, rfl, rfl⟩) l3 rfl ?_
  refine g_calli (pc' := 10) cd_Te_withPart rfl rfl rfl rfl rfl (tm_invV rfl rfl cd_Te_changed rfl (Nat.le_of_ble_eq_true rfl) (by decide) hT.1.1 hT.1.2) (k_Te_changed (k := (6 + i)) hT hB hrm u0 hu (by omega) (fun B' r sz' hm => ?_))
  show bm_G _ _ _ 10 _ [.int (nI r)] B' _
  exact g_reti cd_Te_withPart rfl ⟨_, rfl, kk B' r sz' hm⟩
