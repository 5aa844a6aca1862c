/-! What comes: its form, a body, a list -/
def tm_form (A : Tm) : Int32 := if kd A = 5 then (if Tgood 3 (pt A 1) = true then 3 else 0) else if kd A = 6 then (if Tgood 6 (pt A 1) = true then 6 else if kd (pt A 1) = 5 ∧ Tgood 7 (pt (pt A 1) 1) = true then 7 else 0) else 0
set_option maxRecDepth 100000 in
theorem t_formOf {sc : tm_X} {d : Nat} {B : bm_H} {F : Nat → Prop} {N S M ln : Nat} {T : List Tm} {dr : Nat} {K : Tm → Prop} {ca rm kc kl rk : Nat} {ws : List (Tm × Int32)} {wt : List Tm} {G : LG} {ids dir reg : Nat → Tm} {seen : List Tm} {π : Nat → Nat} {w : Nat → SW} {dev : Nat → DV} {sto : Nat → ST} {x : Int32} {A : Tm} {Q : Int32 → bm_H → Prop} (hC : CK B F N S M ln T dr K ca rm kc kl rk) (hH : RH B T ws wt G ids dir reg seen π w dev sto) (hx : tv T x A) (kk : Q (tm_form A) B) : bm_Gi sc (d + 3) 106 [.ref 0, .int x] B Q := by
  show bm_G sc (d + 3) 106 0 [(0, .ref 0), (1, .int x)] [] B _
  generalize elv : ([(0, .ref 0), (1, .int x)] : tm_L) = lv
  have l0 : lv.lookup 0 = some (.ref 0) := by rw [← elv]; rfl
  have l1 : lv.lookup 1 = some (.int x) := by rw [← elv]; rfl
  clear elv
  refine g_ald (pc' := 1) cd_Ho_formOf rfl (Or.inr ⟨_, rfl, rfl, rfl⟩) l0 rfl rfl ?_
  refine g_fR (c := 11) (k := 0) (x := 1) (pc' := 4) cd_Ho_formOf rfl rfl rfl rfl rfl (by decide) hH.1.1.1 hH.1.1.2 hH.1.2.1.1 ?_
  refine g_ild (pc' := 5) cd_Ho_formOf rfl (Or.inr ⟨_, rfl, rfl, rfl⟩) l1 rfl ?_
  refine g_calli (pc' := 8) cd_Ho_formOf rfl rfl rfl rfl rfl (tm_invV rfl rfl cd_Te_kindOf rfl (Nat.le_of_ble_eq_true rfl) (by decide) hC.1.1.1.1 hC.1.1.1.2) (t_kindOf hC.1 hx ?_)
  show bm_G _ _ _ 8 _ [.int (kd A)] B _
  refine g_ist (pc' := 9) cd_Ho_formOf rfl (Or.inr ⟨_, rfl, rfl, rfl⟩) (by decide) rfl (fun lv el => ?_)
  have l0 := tm_lk el l0 rfl (by decide)
  have l1 := tm_lk el l1 rfl (by decide)
  have l2 : lv.lookup 2 = some (.int (kd A)) := tm_lks el
  clear el
  refine g_ild (pc' := 10) cd_Ho_formOf rfl (Or.inr ⟨_, rfl, rfl, rfl⟩) l2 rfl ?_
  refine g_k1 (v := 5) (pc' := 11) cd_Ho_formOf rfl (by decide) rfl ?_
  refine g_if2 (t := 40) (pc' := 14) cd_Ho_formOf rfl rfl rfl (fun c11 => ?_) (fun c11 => ?_)
  · have c11 : ¬ (kd A) = 5 := c11
    refine g_ild (pc' := 41) cd_Ho_formOf rfl (Or.inr ⟨_, rfl, rfl, rfl⟩) l2 rfl ?_
    refine g_k2 (v := 6) (pc' := 43) cd_Ho_formOf rfl (by decide) rfl ?_
    refine g_if2 (t := 48) (pc' := 46) cd_Ho_formOf rfl rfl rfl (fun c43 => ?_) (fun c43 => ?_)
    · have c43 : (kd A) = 6 := c43
      refine g_ald (pc' := 49) cd_Ho_formOf rfl (Or.inr ⟨_, rfl, rfl, rfl⟩) l0 rfl rfl ?_
      refine g_fR (c := 11) (k := 0) (x := 1) (pc' := 52) cd_Ho_formOf rfl rfl rfl rfl rfl (by decide) hH.1.1.1 hH.1.1.2 hH.1.2.1.1 ?_
      refine g_ild (pc' := 53) cd_Ho_formOf rfl (Or.inr ⟨_, rfl, rfl, rfl⟩) l1 rfl ?_
      refine g_k1 (v := 1) (pc' := 54) cd_Ho_formOf rfl (by decide) rfl ?_
      refine g_calli (pc' := 57) cd_Ho_formOf rfl rfl rfl rfl rfl (tm_invV rfl rfl cd_Te_partOf rfl (Nat.le_of_ble_eq_true rfl) (by decide) hC.1.1.1.1 hC.1.1.1.2) (t_partOf (i := 1) hC.1 hx (by decide) (fun r1 ht1 => ?_))
      show bm_G _ _ _ 57 _ [.int r1] B _
      refine g_ist (pc' := 58) cd_Ho_formOf rfl (Or.inr ⟨_, rfl, rfl, rfl⟩) (by decide) rfl (fun lv el => ?_)
      have l0 := tm_lk el l0 rfl (by decide)
      have l1 := tm_lk el l1 rfl (by decide)
      have l2 := tm_lk el l2 rfl (by decide)
      have l3 : lv.lookup 3 = some (.int r1) := tm_lks el
      clear el
      refine g_ald (pc' := 59) cd_Ho_formOf rfl (Or.inr ⟨_, rfl, rfl, rfl⟩) l0 rfl rfl ?_
      refine g_fR (c := 11) (k := 0) (x := 1) (pc' := 62) cd_Ho_formOf rfl rfl rfl rfl rfl (by decide) hH.1.1.1 hH.1.1.2 hH.1.2.1.1 ?_
      refine g_ild (pc' := 63) cd_Ho_formOf rfl (Or.inr ⟨_, rfl, rfl, rfl⟩) l3 rfl ?_
      refine g_k2 (v := 6) (pc' := 65) cd_Ho_formOf rfl (by decide) rfl ?_
      refine g_calli (pc' := 68) cd_Ho_formOf rfl rfl rfl rfl rfl (tm_invV rfl rfl cd_Te_isGood rfl (Nat.le_of_ble_eq_true rfl) (by decide) hC.1.1.1.1 hC.1.1.1.2) (t_isGood (k := 6) (by decide) hC.1 ht1 ?_)
      show bm_G _ _ _ 68 _ [.int (bz (Tgood 6 (pt A 1)))] B _
      refine g_if1 (t := 74) (pc' := 71) cd_Ho_formOf rfl rfl rfl (fun c68 => ?_) (fun c68 => ?_)
      · have c68 : (Tgood 6 (pt A 1)) = false := bz_f c68
        refine g_ald (pc' := 75) cd_Ho_formOf rfl (Or.inr ⟨_, rfl, rfl, rfl⟩) l0 rfl rfl ?_
        refine g_fR (c := 11) (k := 0) (x := 1) (pc' := 78) cd_Ho_formOf rfl rfl rfl rfl rfl (by decide) hH.1.1.1 hH.1.1.2 hH.1.2.1.1 ?_
        refine g_ild (pc' := 79) cd_Ho_formOf rfl (Or.inr ⟨_, rfl, rfl, rfl⟩) l3 rfl ?_
        refine g_calli (pc' := 82) cd_Ho_formOf rfl rfl rfl rfl rfl (tm_invV rfl rfl cd_Te_kindOf rfl (Nat.le_of_ble_eq_true rfl) (by decide) hC.1.1.1.1 hC.1.1.1.2) (t_kindOf hC.1 ht1 ?_)
        show bm_G _ _ _ 82 _ [.int (kd (pt A 1))] B _
        refine g_k1 (v := 5) (pc' := 83) cd_Ho_formOf rfl (by decide) rfl ?_
        refine g_if2 (t := 111) (pc' := 86) cd_Ho_formOf rfl rfl rfl (fun c83 => ?_) (fun c83 => ?_)
        · have c83 : ¬ (kd (pt A 1)) = 5 := c83
          refine g_k1 (v := 0) (pc' := 112) cd_Ho_formOf rfl (by decide) rfl ?_
          refine g_ist (pc' := 114) cd_Ho_formOf rfl (Or.inl ⟨rfl, rfl⟩) (by decide) rfl (fun lv el => ?_)
          have l0 := tm_lk el l0 rfl (by decide)
          have l1 := tm_lk el l1 rfl (by decide)
          have l2 := tm_lk el l2 rfl (by decide)
          have l3 := tm_lk el l3 rfl (by decide)
          have l4 : lv.lookup 4 = some (.int 0) := tm_lks el
          clear el
          refine g_ild (pc' := 116) cd_Ho_formOf rfl (Or.inl ⟨rfl, rfl⟩) l4 rfl ?_
          refine g_if1 (t := 124) (pc' := 119) cd_Ho_formOf rfl rfl rfl (fun c116 => ?_) (fun c116 => ?_)
          · have c116 : (0 : Int32) = 0 := c116
            refine g_k1 (v := 0) (pc' := 125) cd_Ho_formOf rfl (by decide) rfl ?_
            exact g_reti cd_Ho_formOf rfl ⟨_, rfl, (bm_eq kk (by unfold tm_form; rw [if_neg c11]; rw [if_pos c43]; rw [if_neg (fun q => absurd (c68.symm.trans q) (by decide))]; rw [if_neg (fun q => c83 q.1)]))⟩
          · exact absurd (show ¬ (0 : Int32) = 0 from c116) (by decide)
        · have c83 : (kd (pt A 1)) = 5 := Classical.not_not.mp c83
          refine g_ald (pc' := 87) cd_Ho_formOf rfl (Or.inr ⟨_, rfl, rfl, rfl⟩) l0 rfl rfl ?_
          refine g_fR (c := 11) (k := 0) (x := 1) (pc' := 90) cd_Ho_formOf rfl rfl rfl rfl rfl (by decide) hH.1.1.1 hH.1.1.2 hH.1.2.1.1 ?_
          refine g_ald (pc' := 91) cd_Ho_formOf rfl (Or.inr ⟨_, rfl, rfl, rfl⟩) l0 rfl rfl ?_
          refine g_fR (c := 11) (k := 0) (x := 1) (pc' := 94) cd_Ho_formOf rfl rfl rfl rfl rfl (by decide) hH.1.1.1 hH.1.1.2 hH.1.2.1.1 ?_
          refine g_ild (pc' := 95) cd_Ho_formOf rfl (Or.inr ⟨_, rfl, rfl, rfl⟩) l3 rfl ?_
          refine g_k1 (v := 1) (pc' := 96) cd_Ho_formOf rfl (by decide) rfl ?_
          refine g_calli (pc' := 99) cd_Ho_formOf rfl rfl rfl rfl rfl (tm_invV rfl rfl cd_Te_partOf rfl (Nat.le_of_ble_eq_true rfl) (by decide) hC.1.1.1.1 hC.1.1.1.2) (t_partOf (i := 1) hC.1 ht1 (by decide) (fun r2 ht2 => ?_))
          show bm_G _ _ _ 99 _ [.int r2, .ref 1] B _
          refine g_k2 (v := 7) (pc' := 101) cd_Ho_formOf rfl (by decide) rfl ?_
          refine g_calli (pc' := 104) cd_Ho_formOf rfl rfl rfl rfl rfl (tm_invV rfl rfl cd_Te_isGood rfl (Nat.le_of_ble_eq_true rfl) (by decide) hC.1.1.1.1 hC.1.1.1.2) (t_isGood (k := 7) (by decide) hC.1 ht2 ?_)
          show bm_G _ _ _ 104 _ [.int (bz (Tgood 7 (pt (pt A 1) 1)))] B _
          refine g_if1 (t := 111) (pc' := 107) cd_Ho_formOf rfl rfl rfl (fun c104 => ?_) (fun c104 => ?_)
          · have c104 : (Tgood 7 (pt (pt A 1) 1)) = false := bz_f c104
            refine g_k1 (v := 0) (pc' := 112) cd_Ho_formOf rfl (by decide) rfl ?_
            refine g_ist (pc' := 114) cd_Ho_formOf rfl (Or.inl ⟨rfl, rfl⟩) (by decide) rfl (fun lv el => ?_)
            have l0 := tm_lk el l0 rfl (by decide)
            have l1 := tm_lk el l1 rfl (by decide)
            have l2 := tm_lk el l2 rfl (by decide)
            have l3 := tm_lk el l3 rfl (by decide)
            have l4 : lv.lookup 4 = some (.int 0) := tm_lks el
            clear el
            refine g_ild (pc' := 116) cd_Ho_formOf rfl (Or.inl ⟨rfl, rfl⟩) l4 rfl ?_
            refine g_if1 (t := 124) (pc' := 119) cd_Ho_formOf rfl rfl rfl (fun c116 => ?_) (fun c116 => ?_)
            · have c116 : (0 : Int32) = 0 := c116
              refine g_k1 (v := 0) (pc' := 125) cd_Ho_formOf rfl (by decide) rfl ?_
              exact g_reti cd_Ho_formOf rfl ⟨_, rfl, (bm_eq kk (by unfold tm_form; rw [if_neg c11]; rw [if_pos c43]; rw [if_neg (fun q => absurd (c68.symm.trans q) (by decide))]; rw [if_neg (fun q => absurd (c104.symm.trans q.2) (by decide))]))⟩
            · exact absurd (show ¬ (0 : Int32) = 0 from c116) (by decide)
          · have c104 : (Tgood 7 (pt (pt A 1) 1)) = true := bz_t c104
            refine g_k1 (v := 1) (pc' := 108) cd_Ho_formOf rfl (by decide) rfl ?_
            refine g_pure (pc' := 112) (st' := [.int 1]) cd_Ho_formOf rfl rfl (fun _ _ => rfl) ?_
            refine g_ist (pc' := 114) cd_Ho_formOf rfl (Or.inl ⟨rfl, rfl⟩) (by decide) rfl (fun lv el => ?_)
            have l0 := tm_lk el l0 rfl (by decide)
            have l1 := tm_lk el l1 rfl (by decide)
            have l2 := tm_lk el l2 rfl (by decide)
            have l3 := tm_lk el l3 rfl (by decide)
            have l4 : lv.lookup 4 = some (.int 1) := tm_lks el
            clear el
            refine g_ild (pc' := 116) cd_Ho_formOf rfl (Or.inl ⟨rfl, rfl⟩) l4 rfl ?_
            refine g_if1 (t := 124) (pc' := 119) cd_Ho_formOf rfl rfl rfl (fun c116 => ?_) (fun c116 => ?_)
            · exact absurd (show (1 : Int32) = 0 from c116) (by decide)
            · have c116 : ¬ (1 : Int32) = 0 := c116
              refine g_k2 (v := 7) (pc' := 121) cd_Ho_formOf rfl (by decide) rfl ?_
              refine g_pure (pc' := 125) (st' := [.int 7]) cd_Ho_formOf rfl rfl (fun _ _ => rfl) ?_
              exact g_reti cd_Ho_formOf rfl ⟨_, rfl, (bm_eq kk (by unfold tm_form; rw [if_neg c11]; rw [if_pos c43]; rw [if_neg (fun q => absurd (c68.symm.trans q) (by decide))]; rw [if_pos ⟨c83, c104⟩]))⟩
      · have c68 : (Tgood 6 (pt A 1)) = true := bz_t c68
        refine g_k2 (v := 6) (pc' := 73) cd_Ho_formOf rfl (by decide) rfl ?_
        exact g_reti cd_Ho_formOf rfl ⟨_, rfl, (bm_eq kk (by unfold tm_form; rw [if_neg c11]; rw [if_pos c43]; rw [if_pos c68]))⟩
    · have c43 : ¬ (kd A) = 6 := c43
      refine g_k1 (v := 0) (pc' := 47) cd_Ho_formOf rfl (by decide) rfl ?_
      exact g_reti cd_Ho_formOf rfl ⟨_, rfl, (bm_eq kk (by unfold tm_form; rw [if_neg c11]; rw [if_neg c43]))⟩
  · have c11 : (kd A) = 5 := Classical.not_not.mp c11
    refine g_ald (pc' := 15) cd_Ho_formOf rfl (Or.inr ⟨_, rfl, rfl, rfl⟩) l0 rfl rfl ?_
    refine g_fR (c := 11) (k := 0) (x := 1) (pc' := 18) cd_Ho_formOf rfl rfl rfl rfl rfl (by decide) hH.1.1.1 hH.1.1.2 hH.1.2.1.1 ?_
    refine g_ald (pc' := 19) cd_Ho_formOf rfl (Or.inr ⟨_, rfl, rfl, rfl⟩) l0 rfl rfl ?_
    refine g_fR (c := 11) (k := 0) (x := 1) (pc' := 22) cd_Ho_formOf rfl rfl rfl rfl rfl (by decide) hH.1.1.1 hH.1.1.2 hH.1.2.1.1 ?_
    refine g_ild (pc' := 23) cd_Ho_formOf rfl (Or.inr ⟨_, rfl, rfl, rfl⟩) l1 rfl ?_
    refine g_k1 (v := 1) (pc' := 24) cd_Ho_formOf rfl (by decide) rfl ?_
    refine g_calli (pc' := 27) cd_Ho_formOf rfl rfl rfl rfl rfl (tm_invV rfl rfl cd_Te_partOf rfl (Nat.le_of_ble_eq_true rfl) (by decide) hC.1.1.1.1 hC.1.1.1.2) (t_partOf (i := 1) hC.1 hx (by decide) (fun r3 ht3 => ?_))
    show bm_G _ _ _ 27 _ [.int r3, .ref 1] B _
    refine g_k1 (v := 3) (pc' := 28) cd_Ho_formOf rfl (by decide) rfl ?_
    refine g_calli (pc' := 31) cd_Ho_formOf rfl rfl rfl rfl rfl (tm_invV rfl rfl cd_Te_isGood rfl (Nat.le_of_ble_eq_true rfl) (by decide) hC.1.1.1.1 hC.1.1.1.2) (t_isGood (k := 3) (by decide) hC.1 ht3 ?_)
    show bm_G _ _ _ 31 _ [.int (bz (Tgood 3 (pt A 1)))] B _
    refine g_if1 (t := 38) (pc' := 34) cd_Ho_formOf rfl rfl rfl (fun c31 => ?_) (fun c31 => ?_)
    · have c31 : (Tgood 3 (pt A 1)) = false := bz_f c31
      refine g_k1 (v := 0) (pc' := 39) cd_Ho_formOf rfl (by decide) rfl ?_
      exact g_reti cd_Ho_formOf rfl ⟨_, rfl, (bm_eq kk (by unfold tm_form; rw [if_pos c11, if_neg (fun q => absurd (c31.symm.trans q) (by decide))]))⟩
    · have c31 : (Tgood 3 (pt A 1)) = true := bz_t c31
      refine g_k1 (v := 3) (pc' := 35) cd_Ho_formOf rfl (by decide) rfl ?_
      refine g_pure (pc' := 39) (st' := [.int 3]) cd_Ho_formOf rfl rfl (fun _ _ => rfl) ?_
      exact g_reti cd_Ho_formOf rfl ⟨_, rfl, (bm_eq kk (by unfold tm_form; rw [if_pos c11, if_pos c31]))⟩
theorem grp_of {x : Int32} (h : ib_grp x = true) : ∃ g, g < 4 ∧ x = nI g := by
  unfold ib_grp at h
  simp at h
  obtain ⟨j, hj, rfl⟩ := nI_of (Int32.not_lt.mpr h.1)
  exact ⟨j, (nI_ltI (b := 4) hj (by decide)).mp h.2, rfl⟩
theorem dev_of {x : Int32} (h : ib_dev x = true) : ∃ g, g < 6 ∧ x = nI g := by
  unfold ib_dev at h
  simp at h
  obtain ⟨j, hj, rfl⟩ := nI_of (Int32.not_lt.mpr h.1)
  exact ⟨j, (nI_ltI (b := 6) hj (by decide)).mp h.2, rfl⟩
theorem good_gn {k : Nat} {A : Tm} (h : Tgood k A = true) : gn k (nu A 0) (nu A 1) (nu A 2) (nu A 3) = true := by
  unfold Tgood at h
  simp only [Bool.and_eq_true] at h
  exact h.1.2
theorem good_gp {k : Nat} {A : Tm} (h : Tgood k A = true) : gp k (bz (!tnil (pt A 0))) (bz (!tnil (pt A 1))) (bz (!tnil (pt A 2))) (bz (!tnil (pt A 3))) (kd (pt A 0)) (kd (pt A 1)) (kd (pt A 2)) (kd (pt A 3)) = true := by
  unfold Tgood at h
  simp only [Bool.and_eq_true] at h
  exact h.2
theorem good5_g {A : Tm} (h : Tgood 5 A = true) : ∃ g, g < 4 ∧ nu A 0 = nI g := by
  have := good_gn h
  unfold gn at this
  simp only [Bool.and_eq_true] at this
  exact grp_of this.1.1.1
theorem good6_g {A : Tm} (h : Tgood 6 A = true) : ∃ g, g < 4 ∧ nu A 0 = nI g := by
  have := good_gn h
  unfold gn at this
  simp only [Bool.and_eq_true] at this
  exact grp_of this.1.1.1.1
theorem good7_g {A : Tm} (h : Tgood 7 A = true) : (∃ g, g < 4 ∧ nu A 0 = nI g) ∧ ∃ p, p < 6 ∧ nu A 1 = nI p := by
  have := good_gn h
  unfold gn at this
  simp only [Bool.and_eq_true] at this
  exact ⟨grp_of this.1.1.1, dev_of this.1.1.2⟩
theorem good3_g {A : Tm} (h : Tgood 3 A = true) : (∃ p, p < 6 ∧ nu A 0 = nI p) ∧ ∃ p, p < 6 ∧ nu A 1 = nI p := by
  have := good_gn h
  unfold gn at this
  simp only [Bool.and_eq_true] at this
  exact ⟨dev_of this.1.1.1, dev_of this.1.1.2⟩
theorem bz_nz {A : Tm} (h : bz (!tnil A) = 0) : A = tz := by
  have := bz_f h
  simp at this
  exact tnil_iff.mp this
theorem good3_p {A : Tm} (h : Tgood 3 A = true) : kd (pt A 0) = 2 ∧ kd (pt A 1) = 2 ∧ (pt A 2 = tz ∨ kd (pt A 2) = 2) ∧ (pt A 3 = tz ∨ kd (pt A 3) = 2) := by
  have := good_gp h
  unfold gp at this
  simp only [Bool.and_eq_true, Bool.or_eq_true, decide_eq_true_eq] at this
  obtain ⟨⟨h1, h2⟩, h3⟩ := this
  rcases h3 with ⟨h3, h4⟩ | ⟨h3, h4⟩
  · exact ⟨h1, h2, Or.inr h3, h4.elim (fun q => Or.inl (bz_nz q)) Or.inr⟩
  · exact ⟨h1, h2, Or.inl (bz_nz h3), Or.inl (bz_nz h4)⟩
def mm_acc (M : MM) (p : Nat) (A : Tm) (o : Bool) : MM := if (mgv M p).any (fun G => decide (nu A 1 ≤ G.2.1)) = true then M else mm_set M p (((pt A 1, pt A 0, nu A 2, []), nu A 1, o) :: (mgv M p).take 1)
theorem mm_acc_t {M : MM} {p : Nat} {A : Tm} {o : Bool} (h : ∃ (k : Nat) (G : GV), (mgv M p)[k]? = some G ∧ nu A 1 ≤ G.2.1) : mm_acc M p A o = M := by
  obtain ⟨k, G, h1, h2⟩ := h
  exact if_pos (List.any_eq_true.mpr ⟨G, List.mem_of_getElem? h1, decide_eq_true h2⟩)
theorem mm_acc_f {M : MM} {p : Nat} {A : Tm} {o : Bool} (h : ∀ (k : Nat) (G : GV), (mgv M p)[k]? = some G → ¬ nu A 1 ≤ G.2.1) : mm_acc M p A o = mm_set M p (((pt A 1, pt A 0, nu A 2, []), nu A 1, o) :: (mgv M p).take 1) := by
  refine if_neg (fun q => ?_)
  obtain ⟨G, h1, h2⟩ := List.any_eq_true.mp q
  obtain ⟨k, hk⟩ := List.getElem?_of_mem h1
  exact h k G hk (of_decide_eq_true h2)
set_option maxRecDepth 100000 in
theorem t_takeBody {sc : tm_X} {d : Nat} {B : bm_H} {F : Nat → Prop} {N S M ln : Nat} {T : List Tm} {dr : Nat} {K : Tm → Prop} {ca rm kc kl rk : Nat} {ws : List (Tm × Int32)} {wt : List Tm} {L : List LT} {bd ll tc tl tf tg : Nat → Int32} {cf cg : Int32} {ct : Tm} {co : Bool} {li fo db : Int32} {ids dir reg : Nat → Tm} {seen : List Tm} {π : Nat → Nat} {w : Nat → SW} {dev : Nat → DV} {sto : Nat → ST} {id : Tm} {K0 K1 : PK} {on : List (Tm × Int32)} {lnu : Int32} {se : Nat → List SS} {me : Nat → MM} {p : Nat} {x : Int32} {A : Tm} {o : Bool} {Q : Int32 → bm_H → Prop} (hC : CK B F N S M ln T dr K ca rm kc kl rk) (hH : RH B T ws wt (L, bd, ll, tc, tl, tf, tg, cf, cg, ct, co, li, fo, db) ids dir reg seen π w dev sto) (hp : p < 6) (eD : dev 6 = (id, K0, K1, on, lnu, se, me)) (hx : tv T x A) (k1 : ∀ B', Tgood 4 A = true → CK B' F N S M ln T dr K ca rm kc kl rk → RH B' T ws wt (L, bd, ll, tc, tl, tf, tg, nI p, -1, pt A 0, o, li, fo, db) ids dir reg seen π w dev sto → fz (dxs 1 ca 3 4 11) B B' → Q 1 B') (k2 : ∀ B' g w', Tgood 4 A = false → Tgood 5 A = true → g < 4 → nu A 0 = nI g → CK B' F N S M ln T dr K ca rm kc kl rk → RH B' T ws wt (L, bd, ll, tc, tl, tf, tg, cf, cg, ct, co, li, fo, db) ids dir reg seen π (fset w 6 w') (fset dev 6 (id, K0, K1, on, lnu, se, fset me g (mm_acc (me g) p A o))) sto → fz (dxs 1 ca 3 4 (rb (π 6))) B B' → Q 2 B') (k3 : Tgood 4 A = false → Tgood 5 A = false → Q (-15) B) : bm_Gi sc (d + 3) 119 [.ref 0, .int (nI p), .int x, .int (bz o)] B Q := by
  have hW9 := hH.2.2.2.2.1.2.2.2.2 6 (by decide)
  rw [eD] at hW9
  show bm_G sc (d + 3) 119 0 [(0, .ref 0), (1, .int (nI p)), (2, .int x), (3, .int (bz o))] [] B _
  generalize elv : ([(0, .ref 0), (1, .int (nI p)), (2, .int x), (3, .int (bz o))] : tm_L) = lv
  have l0 : lv.lookup 0 = some (.ref 0) := by rw [← elv]; rfl
  have l1 : lv.lookup 1 = some (.int (nI p)) := by rw [← elv]; rfl
  have l2 : lv.lookup 2 = some (.int x) := by rw [← elv]; rfl
  have l3 : lv.lookup 3 = some (.int (bz o)) := by rw [← elv]; rfl
  clear elv
  refine g_ald (pc' := 1) cd_Ho_takeBody rfl (Or.inr ⟨_, rfl, rfl, rfl⟩) l0 rfl rfl ?_
  refine g_fR (c := 11) (k := 0) (x := 1) (pc' := 4) cd_Ho_takeBody rfl rfl rfl rfl rfl (by decide) hH.1.1.1 hH.1.1.2 hH.1.2.1.1 ?_
  refine g_ild (pc' := 5) cd_Ho_takeBody rfl (Or.inr ⟨_, rfl, rfl, rfl⟩) l2 rfl ?_
  refine g_k1 (v := 4) (pc' := 6) cd_Ho_takeBody rfl (by decide) rfl ?_
  refine g_calli (pc' := 9) cd_Ho_takeBody rfl rfl rfl rfl rfl (tm_invV rfl rfl cd_Te_isGood rfl (Nat.le_of_ble_eq_true rfl) (by decide) hC.1.1.1.1 hC.1.1.1.2) (t_isGood (k := 4) (by decide) hC.1 hx ?_)
  show bm_G _ _ _ 9 _ [.int (bz (Tgood 4 A))] B _
  refine g_if1 (t := 33) (pc' := 12) cd_Ho_takeBody rfl rfl rfl (fun c9 => ?_) (fun c9 => ?_)
  · have c9 : (Tgood 4 A) = false := bz_f c9
    refine g_ald (pc' := 34) cd_Ho_takeBody rfl (Or.inr ⟨_, rfl, rfl, rfl⟩) l0 rfl rfl ?_
    refine g_fR (c := 11) (k := 0) (x := 1) (pc' := 37) cd_Ho_takeBody rfl rfl rfl rfl rfl (by decide) hH.1.1.1 hH.1.1.2 hH.1.2.1.1 ?_
    refine g_ild (pc' := 38) cd_Ho_takeBody rfl (Or.inr ⟨_, rfl, rfl, rfl⟩) l2 rfl ?_
    refine g_k1 (v := 5) (pc' := 39) cd_Ho_takeBody rfl (by decide) rfl ?_
    refine g_calli (pc' := 42) cd_Ho_takeBody rfl rfl rfl rfl rfl (tm_invV rfl rfl cd_Te_isGood rfl (Nat.le_of_ble_eq_true rfl) (by decide) hC.1.1.1.1 hC.1.1.1.2) (t_isGood (k := 5) (by decide) hC.1 hx ?_)
    show bm_G _ _ _ 42 _ [.int (bz (Tgood 5 A))] B _
    refine g_if1 (t := 74) (pc' := 45) cd_Ho_takeBody rfl rfl rfl (fun c42 => ?_) (fun c42 => ?_)
    · have c42 : (Tgood 5 A) = false := bz_f c42
      refine g_k2 (v := (-15)) (pc' := 76) cd_Ho_takeBody rfl (by decide) rfl ?_
      exact g_reti cd_Ho_takeBody rfl ⟨_, rfl, (k3 c9 c42)⟩
    · have c42 : (Tgood 5 A) = true := bz_t c42
      refine g_ald (pc' := 46) cd_Ho_takeBody rfl (Or.inr ⟨_, rfl, rfl, rfl⟩) l0 rfl rfl ?_
      refine g_fR (c := 11) (k := 11) (x := (rb (π 6))) (pc' := 49) cd_Ho_takeBody rfl rfl rfl rfl rfl (by decide) hH.1.1.1 hH.1.1.2 hH.2.2.2.2.1.2.1 ?_
      refine g_fR (c := 0) (k := 5) (x := (rb (π 6) + 10)) (pc' := 52) cd_Ho_takeBody rfl rfl rfl rfl rfl (by decide) (RDe_K (hH.2.2.2.2.1.2.2.2.2 6 (by decide))).1 (RDe_K (hH.2.2.2.2.1.2.2.2.2 6 (by decide))).2 hW9.1.2.1.2.2.2.2.2 ?_
      refine g_ald (pc' := 53) cd_Ho_takeBody rfl (Or.inr ⟨_, rfl, rfl, rfl⟩) l0 rfl rfl ?_
      refine g_fR (c := 11) (k := 0) (x := 1) (pc' := 56) cd_Ho_takeBody rfl rfl rfl rfl rfl (by decide) hH.1.1.1 hH.1.1.2 hH.1.2.1.1 ?_
      refine g_ild (pc' := 57) cd_Ho_takeBody rfl (Or.inr ⟨_, rfl, rfl, rfl⟩) l2 rfl ?_
      refine g_k1 (v := 0) (pc' := 58) cd_Ho_takeBody rfl (by decide) rfl ?_
      refine g_calli (pc' := 61) cd_Ho_takeBody rfl rfl rfl rfl rfl (tm_invV rfl rfl cd_Te_numberOf rfl (Nat.le_of_ble_eq_true rfl) (by decide) hC.1.1.1.1 hC.1.1.1.2) (t_numberOf (i := 0) hC.1 hx (by decide) ?_)
      show bm_G _ _ _ 61 _ [.int (nu A 0), .ref ((rb (π 6) + 10))] B _
      obtain ⟨g, hg, eg⟩ := good5_g c42
      obtain ⟨hM0, hAR, hnt, r6a, r6b⟩ := mem_at hC hH hg eD
      obtain ⟨ve, ma, go, ge, ch, si, ixx, ga, sl, gv, eM⟩ : ∃ a1 a2 a3 a4 a5 a6 a7 a8 a9 a10, me g = (a1, a2, a3, a4, a5, a6, a7, a8, a9, a10) := ⟨_, _, _, _, _, _, _, _, _, _, rfl⟩
      have hM00 := hM0
      rw [eM] at hM0
      have hW := hH.2.2.2.2.1.2.2.2.2 6 (by decide)
      rw [eD] at hW
      refine g_aR (t := 6) (x := (rb (π 6) + 47 + 39 * g)) (pc' := 62) cd_Ho_takeBody rfl rfl hW9.1.2.2.2.2.2.2.2.1 hW9.1.2.2.2.2.2.2.2.2.1 (by decide) rfl rfl (by rw [show bm_AL B (rb (π 6) + 10) = 4 from hW.1.2.2.2.2.2.2.2.2.2, eg]; exact vp_in_nI hg (by decide)) (by rw [eg, nI_clamp (by omega)]; exact hAR) ?_
      refine g_ald (pc' := 63) cd_Ho_takeBody rfl (Or.inr ⟨_, rfl, rfl, rfl⟩) l0 rfl rfl ?_
      refine g_fR (c := 11) (k := 0) (x := 1) (pc' := 66) cd_Ho_takeBody rfl rfl rfl rfl rfl (by decide) hH.1.1.1 hH.1.1.2 hH.1.2.1.1 ?_
      refine g_ild (pc' := 67) cd_Ho_takeBody rfl (Or.inr ⟨_, rfl, rfl, rfl⟩) l1 rfl ?_
      refine g_ild (pc' := 68) cd_Ho_takeBody rfl (Or.inr ⟨_, rfl, rfl, rfl⟩) l2 rfl ?_
      refine g_ild (pc' := 69) cd_Ho_takeBody rfl (Or.inr ⟨_, rfl, rfl, rfl⟩) l3 rfl ?_
      have hE : mgv (me g) p = gv p := by rw [eM]; rfl
      refine g_callv (pc' := 72) cd_Ho_takeBody rfl rfl rfl rfl rfl (tm_invV rfl rfl cd_Me_accept rfl (Nat.le_of_ble_eq_true rfl) (by decide) hM0.1.1.1 hM0.1.1.2) (t_accept hC.1 hM0 hp hx (fun q => ?_) (fun B1 wg q hM1 hz1 => ?_) hnt)
      · skip
        show bm_G _ _ _ 72 _ [] B _
        refine g_k1 (v := 2) (pc' := 73) cd_Ho_takeBody rfl (by decide) rfl ?_
        have hh := RH_mem hC hH hg eD hC.1 (fz_rfl (tcs 1 ca 3 4) B) (fun y q => Or.inl q) (List.prefix_refl T) hM00
        have eA : mm_acc (me g) p A o = me g := mm_acc_t (by rw [hE]; exact q)
        exact g_reti cd_Ho_takeBody rfl ⟨_, rfl, (k2 B g _ c9 c42 hg eg hh.1 (by rw [eA]; exact hh.2.1) hh.2.2)⟩
      · skip
        show bm_G _ _ _ 72 _ [] B1 _
        refine g_k1 (v := 2) (pc' := 73) cd_Ho_takeBody rfl (by decide) rfl ?_
        have eA : mm_acc (me g) p A o = mm_set (ve, ma, go, ge, ch, si, ixx, ga, sl, gv) p (((pt A 1, pt A 0, nu A 2, []), nu A 1, o) :: (gv p).take 1) := by rw [mm_acc_f (by rw [hE]; exact q), hE, eM]
        rw [← eA] at hM1
        have hh := RH_mem hC hH hg eD (TI_fr hC.1 hz1.1 (by omega) (by have := hC.2.2.2.2.2.1; omega) (by omega)) hz1 (fun y q => Or.inr (by omega)) (List.prefix_refl T) hM1
        exact g_reti cd_Ho_takeBody rfl ⟨_, rfl, (k2 B1 g _ c9 c42 hg eg hh.1 hh.2.1 hh.2.2)⟩
  · have c9 : (Tgood 4 A) = true := bz_t c9
    refine g_ald (pc' := 13) cd_Ho_takeBody rfl (Or.inr ⟨_, rfl, rfl, rfl⟩) l0 rfl rfl ?_
    refine g_fR (c := 11) (k := 3) (x := 11) (pc' := 16) cd_Ho_takeBody rfl rfl rfl rfl rfl (by decide) hH.1.1.1 hH.1.1.2 hH.1.2.1.2.2.2.1 ?_
    refine g_ild (pc' := 17) cd_Ho_takeBody rfl (Or.inr ⟨_, rfl, rfl, rfl⟩) l1 rfl ?_
    refine g_k1 (v := (-1)) (pc' := 18) cd_Ho_takeBody rfl (by decide) rfl ?_
    refine g_ald (pc' := 19) cd_Ho_takeBody rfl (Or.inr ⟨_, rfl, rfl, rfl⟩) l0 rfl rfl ?_
    refine g_fR (c := 11) (k := 0) (x := 1) (pc' := 22) cd_Ho_takeBody rfl rfl rfl rfl rfl (by decide) hH.1.1.1 hH.1.1.2 hH.1.2.1.1 ?_
    refine g_ild (pc' := 23) cd_Ho_takeBody rfl (Or.inr ⟨_, rfl, rfl, rfl⟩) l2 rfl ?_
    refine g_k1 (v := 0) (pc' := 24) cd_Ho_takeBody rfl (by decide) rfl ?_
    refine g_calli (pc' := 27) cd_Ho_takeBody rfl rfl rfl rfl rfl (tm_invV rfl rfl cd_Te_partOf rfl (Nat.le_of_ble_eq_true rfl) (by decide) hC.1.1.1.1 hC.1.1.1.2) (t_partOf (i := 0) hC.1 hx (by decide) (fun r4 ht4 => ?_))
    show bm_G _ _ _ 27 _ [.int r4, .int (-1), .int (nI p), .ref 11] B _
    refine g_ild (pc' := 28) cd_Ho_takeBody rfl (Or.inr ⟨_, rfl, rfl, rfl⟩) l3 rfl ?_
    refine g_callv (pc' := 31) cd_Ho_takeBody rfl rfl rfl rfl rfl (tm_invV rfl rfl cd_Le_expect rfl (Nat.le_of_ble_eq_true rfl) (by decide) hH.2.2.1.1.1.1 hH.2.2.1.1.1.2) (t_expect (o := o) hH.2.2.1 ht4 (fun B1 hL1 hz1 => ?_))
    show bm_G _ _ _ 31 _ [] B1 _
    refine g_k1 (v := 1) (pc' := 32) cd_Ho_takeBody rfl (by decide) rfl ?_
    exact g_reti cd_Ho_takeBody rfl ⟨_, rfl, (k1 B1 c9 (CK_cls hC hz1 (fun y q => by unfold lex at q; omega)) (RH_le hH hz1.1 (fun y q => by unfold lex; omega) (List.prefix_refl T) hL1) (fz_mono (fun y q => Or.inr (by unfold lex at q; omega)) hz1))⟩
