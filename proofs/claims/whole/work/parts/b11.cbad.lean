/-! The class: bad arguments, and a device that is down -/
set_option maxRecDepth 100000 in
theorem tb_publish {sc : tm_X} {d : Nat} {B : bm_H} {F : Nat → Prop} {N S M ln : Nat} {T : List Tm} {dr : Nat} {K : Tm → Prop} {ca rm kc kl rk : Nat} {ws : List (Tm × Int32)} {wt : List Tm} {G : LG} {ids dir reg : Nat → Tm} {seen : List Tm} {π : Nat → Nat} {w : Nat → SW} {dev : Nat → DV} {sto : Nat → ST} {x : Int32} {Q : Int32 → bm_H → Prop} (hC : CK B F N S M ln T dr K ca rm kc kl rk) (hH : RH B T ws wt G ids dir reg seen π w dev sto) (hB : inR x 6 = false) (kk : Q (-1) B) : bm_Gi sc (d + 6) 30 [.ref 0, .int x] B Q := by
  show bm_G sc (d + 6) 30 0 [(0, .ref 0), (1, .int x)] [] B _
  generalize elv : ([(0, .ref 0), (1, .int x)] : tm_L) = lv
  have l0 : lv.lookup 0 = some (.ref 0) := by rw [← elv]; rfl
  have l1 : lv.lookup 1 = some (.int x) := by rw [← elv]; rfl
  clear elv
  refine g_ald (pc' := 1) cd_Ho_publish rfl (Or.inr ⟨_, rfl, rfl, rfl⟩) l0 rfl rfl ?_
  refine g_ild (pc' := 2) cd_Ho_publish rfl (Or.inr ⟨_, rfl, rfl, rfl⟩) l1 rfl ?_
  refine g_calli (pc' := 5) cd_Ho_publish rfl rfl rfl rfl rfl (tm_invS rfl rfl cd_Ho_isDevice rfl (Nat.le_of_ble_eq_true rfl)) (t_isDevice ?_)
  rw [hB]
  show bm_G _ _ _ _ _ (.int 0 :: _) _ _
  show bm_G _ _ _ 5 _ [.int 0, .ref 0] B _
  refine g_ild (pc' := 6) cd_Ho_publish rfl (Or.inr ⟨_, rfl, rfl, rfl⟩) l1 rfl ?_
  refine g_calli (pc' := 9) cd_Ho_publish rfl rfl rfl rfl rfl (tm_invV rfl rfl cd_Ho_refusal rfl (Nat.le_of_ble_eq_true rfl) (by decide) hH.1.1.1 hH.1.1.2) (t_refusal0 ?_)
  show bm_G _ _ _ 9 _ [.int (-1)] B _
  refine g_ist (pc' := 10) cd_Ho_publish rfl (Or.inr ⟨_, rfl, rfl, rfl⟩) (by decide) rfl (fun lv el => ?_)
  have l0 := tm_lk el l0 rfl (by decide)
  have l1 := tm_lk el l1 rfl (by decide)
  have l2 : lv.lookup 2 = some (.int (-1)) := tm_lks el
  clear el
  refine g_ild (pc' := 11) cd_Ho_publish rfl (Or.inr ⟨_, rfl, rfl, rfl⟩) l2 rfl ?_
  refine g_if1 (t := 16) (pc' := 14) cd_Ho_publish rfl rfl rfl (fun c11 => ?_) (fun c11 => ?_)
  · exact absurd (show ((-1) : Int32) = 0 from c11) (by decide)
  · have c11 : ¬ ((-1) : Int32) = 0 := c11
    refine g_ild (pc' := 15) cd_Ho_publish rfl (Or.inr ⟨_, rfl, rfl, rfl⟩) l2 rfl ?_
    exact g_reti cd_Ho_publish rfl ⟨_, rfl, kk⟩
set_option maxRecDepth 100000 in
theorem tb_begin {sc : tm_X} {d : Nat} {B : bm_H} {F : Nat → Prop} {N S M ln : Nat} {T : List Tm} {dr : Nat} {K : Tm → Prop} {ca rm kc kl rk : Nat} {ws : List (Tm × Int32)} {wt : List Tm} {G : LG} {ids dir reg : Nat → Tm} {seen : List Tm} {π : Nat → Nat} {w : Nat → SW} {dev : Nat → DV} {sto : Nat → ST} {x y : Int32} {Q : Int32 → bm_H → Prop} (hC : CK B F N S M ln T dr K ca rm kc kl rk) (hH : RH B T ws wt G ids dir reg seen π w dev sto) (hB0 : inR x 6 = false ∨ inR y 6 = false ∨ x = y) (kk : Q (-1) B) : bm_Gi sc (d + 6) 64 [.ref 0, .int x, .int y] B Q := by
  have hB : (inR x 6 && inR y 6 && !decide (x = y)) = false := by
    rcases hB0 with h | h | h
    · rw [h]; rfl
    · rw [h]; simp
    · rw [decide_eq_true h]; simp
  show bm_G sc (d + 6) 64 0 [(0, .ref 0), (1, .int x), (2, .int y)] [] B _
  generalize elv : ([(0, .ref 0), (1, .int x), (2, .int y)] : tm_L) = lv
  have l0 : lv.lookup 0 = some (.ref 0) := by rw [← elv]; rfl
  have l1 : lv.lookup 1 = some (.int x) := by rw [← elv]; rfl
  have l2 : lv.lookup 2 = some (.int y) := by rw [← elv]; rfl
  clear elv
  refine g_ald (pc' := 1) cd_Ho_begin rfl (Or.inr ⟨_, rfl, rfl, rfl⟩) l0 rfl rfl ?_
  refine g_ild (pc' := 2) cd_Ho_begin rfl (Or.inr ⟨_, rfl, rfl, rfl⟩) l1 rfl ?_
  refine g_ild (pc' := 3) cd_Ho_begin rfl (Or.inr ⟨_, rfl, rfl, rfl⟩) l2 rfl ?_
  refine g_calli (pc' := 6) cd_Ho_begin rfl rfl rfl rfl rfl (tm_invS rfl rfl cd_Ho_areTwo rfl (Nat.le_of_ble_eq_true rfl)) (t_areTwo ?_)
  rw [hB]
  show bm_G _ _ _ _ _ (.int 0 :: _) _ _
  show bm_G _ _ _ 6 _ [.int 0, .ref 0] B _
  refine g_ild (pc' := 7) cd_Ho_begin rfl (Or.inr ⟨_, rfl, rfl, rfl⟩) l1 rfl ?_
  refine g_calli (pc' := 10) cd_Ho_begin rfl rfl rfl rfl rfl (tm_invV rfl rfl cd_Ho_refusal rfl (Nat.le_of_ble_eq_true rfl) (by decide) hH.1.1.1 hH.1.1.2) (t_refusal0 ?_)
  show bm_G _ _ _ 10 _ [.int (-1)] B _
  refine g_ist (pc' := 11) cd_Ho_begin rfl (Or.inr ⟨_, rfl, rfl, rfl⟩) (by decide) rfl (fun lv el => ?_)
  have l0 := tm_lk el l0 rfl (by decide)
  have l1 := tm_lk el l1 rfl (by decide)
  have l2 := tm_lk el l2 rfl (by decide)
  have l3 : lv.lookup 3 = some (.int (-1)) := tm_lks el
  clear el
  refine g_ild (pc' := 12) cd_Ho_begin rfl (Or.inr ⟨_, rfl, rfl, rfl⟩) l3 rfl ?_
  refine g_if1 (t := 17) (pc' := 15) cd_Ho_begin rfl rfl rfl (fun c12 => ?_) (fun c12 => ?_)
  · exact absurd (show ((-1) : Int32) = 0 from c12) (by decide)
  · have c12 : ¬ ((-1) : Int32) = 0 := c12
    refine g_ild (pc' := 16) cd_Ho_begin rfl (Or.inr ⟨_, rfl, rfl, rfl⟩) l3 rfl ?_
    exact g_reti cd_Ho_begin rfl ⟨_, rfl, kk⟩
set_option maxRecDepth 100000 in
theorem tb_send {sc : tm_X} {d : Nat} {B : bm_H} {F : Nat → Prop} {N S M ln : Nat} {T : List Tm} {dr : Nat} {K : Tm → Prop} {ca rm kc kl rk : Nat} {ws : List (Tm × Int32)} {wt : List Tm} {G : LG} {ids dir reg : Nat → Tm} {seen : List Tm} {π : Nat → Nat} {w : Nat → SW} {dev : Nat → DV} {sto : Nat → ST} {x y : Int32} {Q : Int32 → bm_H → Prop} (hC : CK B F N S M ln T dr K ca rm kc kl rk) (hH : RH B T ws wt G ids dir reg seen π w dev sto) (hB0 : inR x 6 = false ∨ inR y 6 = false ∨ x = y) (kk : Q (-1) B) : bm_Gi sc (d + 6) 84 [.ref 0, .int x, .int y] B Q := by
  have hB : (inR x 6 && inR y 6 && !decide (x = y)) = false := by
    rcases hB0 with h | h | h
    · rw [h]; rfl
    · rw [h]; simp
    · rw [decide_eq_true h]; simp
  show bm_G sc (d + 6) 84 0 [(0, .ref 0), (1, .int x), (2, .int y)] [] B _
  generalize elv : ([(0, .ref 0), (1, .int x), (2, .int y)] : tm_L) = lv
  have l0 : lv.lookup 0 = some (.ref 0) := by rw [← elv]; rfl
  have l1 : lv.lookup 1 = some (.int x) := by rw [← elv]; rfl
  have l2 : lv.lookup 2 = some (.int y) := by rw [← elv]; rfl
  clear elv
  refine g_ald (pc' := 1) cd_Ho_send rfl (Or.inr ⟨_, rfl, rfl, rfl⟩) l0 rfl rfl ?_
  refine g_ild (pc' := 2) cd_Ho_send rfl (Or.inr ⟨_, rfl, rfl, rfl⟩) l1 rfl ?_
  refine g_ild (pc' := 3) cd_Ho_send rfl (Or.inr ⟨_, rfl, rfl, rfl⟩) l2 rfl ?_
  refine g_calli (pc' := 6) cd_Ho_send rfl rfl rfl rfl rfl (tm_invS rfl rfl cd_Ho_areTwo rfl (Nat.le_of_ble_eq_true rfl)) (t_areTwo ?_)
  rw [hB]
  show bm_G _ _ _ _ _ (.int 0 :: _) _ _
  show bm_G _ _ _ 6 _ [.int 0, .ref 0] B _
  refine g_ild (pc' := 7) cd_Ho_send rfl (Or.inr ⟨_, rfl, rfl, rfl⟩) l1 rfl ?_
  refine g_calli (pc' := 10) cd_Ho_send rfl rfl rfl rfl rfl (tm_invV rfl rfl cd_Ho_refusal rfl (Nat.le_of_ble_eq_true rfl) (by decide) hH.1.1.1 hH.1.1.2) (t_refusal0 ?_)
  show bm_G _ _ _ 10 _ [.int (-1)] B _
  refine g_ist (pc' := 11) cd_Ho_send rfl (Or.inr ⟨_, rfl, rfl, rfl⟩) (by decide) rfl (fun lv el => ?_)
  have l0 := tm_lk el l0 rfl (by decide)
  have l1 := tm_lk el l1 rfl (by decide)
  have l2 := tm_lk el l2 rfl (by decide)
  have l3 : lv.lookup 3 = some (.int (-1)) := tm_lks el
  clear el
  refine g_ild (pc' := 12) cd_Ho_send rfl (Or.inr ⟨_, rfl, rfl, rfl⟩) l3 rfl ?_
  refine g_if1 (t := 17) (pc' := 15) cd_Ho_send rfl rfl rfl (fun c12 => ?_) (fun c12 => ?_)
  · exact absurd (show ((-1) : Int32) = 0 from c12) (by decide)
  · have c12 : ¬ ((-1) : Int32) = 0 := c12
    refine g_ild (pc' := 16) cd_Ho_send rfl (Or.inr ⟨_, rfl, rfl, rfl⟩) l3 rfl ?_
    exact g_reti cd_Ho_send rfl ⟨_, rfl, kk⟩
set_option maxRecDepth 100000 in
theorem tb_list {sc : tm_X} {d : Nat} {B : bm_H} {F : Nat → Prop} {N S M ln : Nat} {T : List Tm} {dr : Nat} {K : Tm → Prop} {ca rm kc kl rk : Nat} {ws : List (Tm × Int32)} {wt : List Tm} {G : LG} {ids dir reg : Nat → Tm} {seen : List Tm} {π : Nat → Nat} {w : Nat → SW} {dev : Nat → DV} {sto : Nat → ST} {x y : Int32} {Q : Int32 → bm_H → Prop} (hC : CK B F N S M ln T dr K ca rm kc kl rk) (hH : RH B T ws wt G ids dir reg seen π w dev sto) (hB : inR x 4 = false ∨ y < 0 ∨ 64 ≤ y) (kk : Q (-1) B) : bm_Gi sc (d + 6) 94 [.ref 0, .int x, .int y] B Q := by
  show bm_G sc (d + 6) 94 0 [(0, .ref 0), (1, .int x), (2, .int y)] [] B _
  generalize elv : ([(0, .ref 0), (1, .int x), (2, .int y)] : tm_L) = lv
  have l0 : lv.lookup 0 = some (.ref 0) := by rw [← elv]; rfl
  have l1 : lv.lookup 1 = some (.int x) := by rw [← elv]; rfl
  have l2 : lv.lookup 2 = some (.int y) := by rw [← elv]; rfl
  clear elv
  refine g_ald (pc' := 1) cd_Ho_list rfl (Or.inr ⟨_, rfl, rfl, rfl⟩) l0 rfl rfl ?_
  refine g_ild (pc' := 2) cd_Ho_list rfl (Or.inr ⟨_, rfl, rfl, rfl⟩) l1 rfl ?_
  refine g_calli (pc' := 5) cd_Ho_list rfl rfl rfl rfl rfl (tm_invS rfl rfl cd_Ho_isGroup rfl (Nat.le_of_ble_eq_true rfl)) (t_isGroup ?_)
  show bm_G _ _ _ 5 _ [.int (bz (inR x 4)), .ref 0] B _
  refine g_if1 (t := 22) (pc' := 8) cd_Ho_list rfl rfl rfl (fun c5 => ?_) (fun c5 => ?_)
  · have c5 : (inR x 4) = false := bz_f c5
    refine g_k1 (v := 0) (pc' := 23) cd_Ho_list rfl (by decide) rfl ?_
    refine g_ild (pc' := 24) cd_Ho_list rfl (Or.inr ⟨_, rfl, rfl, rfl⟩) l1 rfl ?_
    refine g_calli (pc' := 27) cd_Ho_list rfl rfl rfl rfl rfl (tm_invV rfl rfl cd_Ho_refusal rfl (Nat.le_of_ble_eq_true rfl) (by decide) hH.1.1.1 hH.1.1.2) (t_refusal0 ?_)
    show bm_G _ _ _ 27 _ [.int (-1)] B _
    refine g_ist (pc' := 28) cd_Ho_list rfl (Or.inr ⟨_, rfl, rfl, rfl⟩) (by decide) rfl (fun lv el => ?_)
    have l0 := tm_lk el l0 rfl (by decide)
    have l1 := tm_lk el l1 rfl (by decide)
    have l2 := tm_lk el l2 rfl (by decide)
    have l3 : lv.lookup 3 = some (.int (-1)) := tm_lks el
    clear el
    refine g_ild (pc' := 29) cd_Ho_list rfl (Or.inr ⟨_, rfl, rfl, rfl⟩) l3 rfl ?_
    refine g_if1 (t := 34) (pc' := 32) cd_Ho_list rfl rfl rfl (fun c29 => ?_) (fun c29 => ?_)
    · exact absurd (show ((-1) : Int32) = 0 from c29) (by decide)
    · have c29 : ¬ ((-1) : Int32) = 0 := c29
      refine g_ild (pc' := 33) cd_Ho_list rfl (Or.inr ⟨_, rfl, rfl, rfl⟩) l3 rfl ?_
      exact g_reti cd_Ho_list rfl ⟨_, rfl, kk⟩
  · have c5 : (inR x 4) = true := bz_t c5
    refine g_ild (pc' := 9) cd_Ho_list rfl (Or.inr ⟨_, rfl, rfl, rfl⟩) l2 rfl ?_
    refine g_if1 (t := 22) (pc' := 12) cd_Ho_list rfl rfl rfl (fun c9 => ?_) (fun c9 => ?_)
    · have c9 : y < 0 := c9
      refine g_k1 (v := 0) (pc' := 23) cd_Ho_list rfl (by decide) rfl ?_
      refine g_ild (pc' := 24) cd_Ho_list rfl (Or.inr ⟨_, rfl, rfl, rfl⟩) l1 rfl ?_
      refine g_calli (pc' := 27) cd_Ho_list rfl rfl rfl rfl rfl (tm_invV rfl rfl cd_Ho_refusal rfl (Nat.le_of_ble_eq_true rfl) (by decide) hH.1.1.1 hH.1.1.2) (t_refusal0 ?_)
      show bm_G _ _ _ 27 _ [.int (-1)] B _
      refine g_ist (pc' := 28) cd_Ho_list rfl (Or.inr ⟨_, rfl, rfl, rfl⟩) (by decide) rfl (fun lv el => ?_)
      have l0 := tm_lk el l0 rfl (by decide)
      have l1 := tm_lk el l1 rfl (by decide)
      have l2 := tm_lk el l2 rfl (by decide)
      have l3 : lv.lookup 3 = some (.int (-1)) := tm_lks el
      clear el
      refine g_ild (pc' := 29) cd_Ho_list rfl (Or.inr ⟨_, rfl, rfl, rfl⟩) l3 rfl ?_
      refine g_if1 (t := 34) (pc' := 32) cd_Ho_list rfl rfl rfl (fun c29 => ?_) (fun c29 => ?_)
      · exact absurd (show ((-1) : Int32) = 0 from c29) (by decide)
      · have c29 : ¬ ((-1) : Int32) = 0 := c29
        refine g_ild (pc' := 33) cd_Ho_list rfl (Or.inr ⟨_, rfl, rfl, rfl⟩) l3 rfl ?_
        exact g_reti cd_Ho_list rfl ⟨_, rfl, kk⟩
    · have c9 : ¬ y < 0 := c9
      refine g_ild (pc' := 13) cd_Ho_list rfl (Or.inr ⟨_, rfl, rfl, rfl⟩) l2 rfl ?_
      refine g_k2 (v := 64) (pc' := 15) cd_Ho_list rfl (by decide) rfl ?_
      refine g_if2 (t := 22) (pc' := 18) cd_Ho_list rfl rfl rfl (fun c15 => ?_) (fun c15 => ?_)
      · have c15 : (64 : Int32) ≤ y := c15
        refine g_k1 (v := 0) (pc' := 23) cd_Ho_list rfl (by decide) rfl ?_
        refine g_ild (pc' := 24) cd_Ho_list rfl (Or.inr ⟨_, rfl, rfl, rfl⟩) l1 rfl ?_
        refine g_calli (pc' := 27) cd_Ho_list rfl rfl rfl rfl rfl (tm_invV rfl rfl cd_Ho_refusal rfl (Nat.le_of_ble_eq_true rfl) (by decide) hH.1.1.1 hH.1.1.2) (t_refusal0 ?_)
        show bm_G _ _ _ 27 _ [.int (-1)] B _
        refine g_ist (pc' := 28) cd_Ho_list rfl (Or.inr ⟨_, rfl, rfl, rfl⟩) (by decide) rfl (fun lv el => ?_)
        have l0 := tm_lk el l0 rfl (by decide)
        have l1 := tm_lk el l1 rfl (by decide)
        have l2 := tm_lk el l2 rfl (by decide)
        have l3 : lv.lookup 3 = some (.int (-1)) := tm_lks el
        clear el
        refine g_ild (pc' := 29) cd_Ho_list rfl (Or.inr ⟨_, rfl, rfl, rfl⟩) l3 rfl ?_
        refine g_if1 (t := 34) (pc' := 32) cd_Ho_list rfl rfl rfl (fun c29 => ?_) (fun c29 => ?_)
        · exact absurd (show ((-1) : Int32) = 0 from c29) (by decide)
        · have c29 : ¬ ((-1) : Int32) = 0 := c29
          refine g_ild (pc' := 33) cd_Ho_list rfl (Or.inr ⟨_, rfl, rfl, rfl⟩) l3 rfl ?_
          exact g_reti cd_Ho_list rfl ⟨_, rfl, kk⟩
      · have c15 : ¬ (64 : Int32) ≤ y := c15
        exact hB.elim (fun h => absurd (c5.symm.trans h) (by decide)) (fun h => h.elim (fun h => absurd h c9) (fun h => absurd h c15))
set_option maxRecDepth 100000 in
theorem tb_post {sc : tm_X} {d : Nat} {B : bm_H} {F : Nat → Prop} {N S M ln : Nat} {T : List Tm} {dr : Nat} {K : Tm → Prop} {ca rm kc kl rk : Nat} {ws : List (Tm × Int32)} {wt : List Tm} {G : LG} {ids dir reg : Nat → Tm} {seen : List Tm} {π : Nat → Nat} {w : Nat → SW} {dev : Nat → DV} {sto : Nat → ST} {x y : Int32} {Q : Int32 → bm_H → Prop} (hC : CK B F N S M ln T dr K ca rm kc kl rk) (hH : RH B T ws wt G ids dir reg seen π w dev sto) (hB : inR x 6 = false ∨ inR y 4 = false) (kk : Q (-1) B) : bm_Gi sc (d + 6) 97 [.ref 0, .int x, .int y] B Q := by
  show bm_G sc (d + 6) 97 0 [(0, .ref 0), (1, .int x), (2, .int y)] [] B _
  generalize elv : ([(0, .ref 0), (1, .int x), (2, .int y)] : tm_L) = lv
  have l0 : lv.lookup 0 = some (.ref 0) := by rw [← elv]; rfl
  have l1 : lv.lookup 1 = some (.int x) := by rw [← elv]; rfl
  have l2 : lv.lookup 2 = some (.int y) := by rw [← elv]; rfl
  clear elv
  refine g_ald (pc' := 1) cd_Ho_post rfl (Or.inr ⟨_, rfl, rfl, rfl⟩) l0 rfl rfl ?_
  refine g_ild (pc' := 2) cd_Ho_post rfl (Or.inr ⟨_, rfl, rfl, rfl⟩) l1 rfl ?_
  refine g_calli (pc' := 5) cd_Ho_post rfl rfl rfl rfl rfl (tm_invS rfl rfl cd_Ho_isDevice rfl (Nat.le_of_ble_eq_true rfl)) (t_isDevice ?_)
  show bm_G _ _ _ 5 _ [.int (bz (inR x 6)), .ref 0] B _
  refine g_if1 (t := 19) (pc' := 8) cd_Ho_post rfl rfl rfl (fun c5 => ?_) (fun c5 => ?_)
  · have c5 : (inR x 6) = false := bz_f c5
    refine g_k1 (v := 0) (pc' := 20) cd_Ho_post rfl (by decide) rfl ?_
    refine g_ild (pc' := 21) cd_Ho_post rfl (Or.inr ⟨_, rfl, rfl, rfl⟩) l1 rfl ?_
    refine g_calli (pc' := 24) cd_Ho_post rfl rfl rfl rfl rfl (tm_invV rfl rfl cd_Ho_refusal rfl (Nat.le_of_ble_eq_true rfl) (by decide) hH.1.1.1 hH.1.1.2) (t_refusal0 ?_)
    show bm_G _ _ _ 24 _ [.int (-1)] B _
    refine g_ist (pc' := 25) cd_Ho_post rfl (Or.inr ⟨_, rfl, rfl, rfl⟩) (by decide) rfl (fun lv el => ?_)
    have l0 := tm_lk el l0 rfl (by decide)
    have l1 := tm_lk el l1 rfl (by decide)
    have l2 := tm_lk el l2 rfl (by decide)
    have l3 : lv.lookup 3 = some (.int (-1)) := tm_lks el
    clear el
    refine g_ild (pc' := 26) cd_Ho_post rfl (Or.inr ⟨_, rfl, rfl, rfl⟩) l3 rfl ?_
    refine g_if1 (t := 31) (pc' := 29) cd_Ho_post rfl rfl rfl (fun c26 => ?_) (fun c26 => ?_)
    · exact absurd (show ((-1) : Int32) = 0 from c26) (by decide)
    · have c26 : ¬ ((-1) : Int32) = 0 := c26
      refine g_ild (pc' := 30) cd_Ho_post rfl (Or.inr ⟨_, rfl, rfl, rfl⟩) l3 rfl ?_
      exact g_reti cd_Ho_post rfl ⟨_, rfl, kk⟩
  · have c5 : (inR x 6) = true := bz_t c5
    refine g_ild (pc' := 9) cd_Ho_post rfl (Or.inr ⟨_, rfl, rfl, rfl⟩) l2 rfl ?_
    refine g_calli (pc' := 12) cd_Ho_post rfl rfl rfl rfl rfl (tm_invS rfl rfl cd_Ho_isGroup rfl (Nat.le_of_ble_eq_true rfl)) (t_isGroup ?_)
    show bm_G _ _ _ 12 _ [.int (bz (inR y 4)), .ref 0] B _
    refine g_if1 (t := 19) (pc' := 15) cd_Ho_post rfl rfl rfl (fun c12 => ?_) (fun c12 => ?_)
    · have c12 : (inR y 4) = false := bz_f c12
      refine g_k1 (v := 0) (pc' := 20) cd_Ho_post rfl (by decide) rfl ?_
      refine g_ild (pc' := 21) cd_Ho_post rfl (Or.inr ⟨_, rfl, rfl, rfl⟩) l1 rfl ?_
      refine g_calli (pc' := 24) cd_Ho_post rfl rfl rfl rfl rfl (tm_invV rfl rfl cd_Ho_refusal rfl (Nat.le_of_ble_eq_true rfl) (by decide) hH.1.1.1 hH.1.1.2) (t_refusal0 ?_)
      show bm_G _ _ _ 24 _ [.int (-1)] B _
      refine g_ist (pc' := 25) cd_Ho_post rfl (Or.inr ⟨_, rfl, rfl, rfl⟩) (by decide) rfl (fun lv el => ?_)
      have l0 := tm_lk el l0 rfl (by decide)
      have l1 := tm_lk el l1 rfl (by decide)
      have l2 := tm_lk el l2 rfl (by decide)
      have l3 : lv.lookup 3 = some (.int (-1)) := tm_lks el
      clear el
      refine g_ild (pc' := 26) cd_Ho_post rfl (Or.inr ⟨_, rfl, rfl, rfl⟩) l3 rfl ?_
      refine g_if1 (t := 31) (pc' := 29) cd_Ho_post rfl rfl rfl (fun c26 => ?_) (fun c26 => ?_)
      · exact absurd (show ((-1) : Int32) = 0 from c26) (by decide)
      · have c26 : ¬ ((-1) : Int32) = 0 := c26
        refine g_ild (pc' := 30) cd_Ho_post rfl (Or.inr ⟨_, rfl, rfl, rfl⟩) l3 rfl ?_
        exact g_reti cd_Ho_post rfl ⟨_, rfl, kk⟩
    · have c12 : (inR y 4) = true := bz_t c12
      exact hB.elim (fun h => absurd (c5.symm.trans h) (by decide)) (fun h => absurd (c12.symm.trans h) (by decide))
set_option maxRecDepth 100000 in
theorem td_publish {sc : tm_X} {d : Nat} {B : bm_H} {F : Nat → Prop} {N S M ln : Nat} {T : List Tm} {dr : Nat} {K : Tm → Prop} {ca rm kc kl rk : Nat} {ws : List (Tm × Int32)} {wt : List Tm} {G : LG} {ids dir reg : Nat → Tm} {seen : List Tm} {π : Nat → Nat} {w : Nat → SW} {dev : Nat → DV} {sto : Nat → ST} {p : Nat} {Q : Int32 → bm_H → Prop} (hC : CK B F N S M ln T dr K ca rm kc kl rk) (hH : RH B T ws wt G ids dir reg seen π w dev sto) (hdr : dr ≤ 2960) (hws : ws.length ≤ 692) (hTl : T.length ≤ 30000) (hp : p < 6) (hdn : (sto p).2.2.2.2 = true) (kk : ∀ B' M' ca' rm', CK B' F N S M' ln T dr K ca' rm' kc kl rk → RH B' T ws wt G ids dir reg seen π w dev sto → fr (fun y => ¬ F y) B B' → Q (-3) B') : bm_Gi sc (d + 6) 30 [.ref 0, .int (nI p)] B Q := by
  show bm_G sc (d + 6) 30 0 [(0, .ref 0), (1, .int (nI p))] [] B _
  generalize elv : ([(0, .ref 0), (1, .int (nI p))] : tm_L) = lv
  have l0 : lv.lookup 0 = some (.ref 0) := by rw [← elv]; rfl
  have l1 : lv.lookup 1 = some (.int (nI p)) := by rw [← elv]; rfl
  clear elv
  refine g_ald (pc' := 1) cd_Ho_publish rfl (Or.inr ⟨_, rfl, rfl, rfl⟩) l0 rfl rfl ?_
  refine g_ild (pc' := 2) cd_Ho_publish rfl (Or.inr ⟨_, rfl, rfl, rfl⟩) l1 rfl ?_
  refine g_calli (pc' := 5) cd_Ho_publish rfl rfl rfl rfl rfl (tm_invS rfl rfl cd_Ho_isDevice rfl (Nat.le_of_ble_eq_true rfl)) (t_isDevice ?_)
  rw [show inR (nI p) 6 = true from inR_nI hp (by decide)]
  show bm_G _ _ _ _ _ (.int 1 :: _) _ _
  show bm_G _ _ _ 5 _ [.int 1, .ref 0] B _
  refine g_ild (pc' := 6) cd_Ho_publish rfl (Or.inr ⟨_, rfl, rfl, rfl⟩) l1 rfl ?_
  refine g_calli (pc' := 9) cd_Ho_publish rfl rfl rfl rfl rfl (tm_invV rfl rfl cd_Ho_refusal rfl (Nat.le_of_ble_eq_true rfl) (by decide) hH.1.1.1 hH.1.1.2) (t_refusal hC hH hdr hws hTl hp (fun B1 ca1 rm1 _ hC1 hH1 hf1 => ?_) (fun _ _ _ h _ _ _ => absurd (hdn.symm.trans h) (by decide)))
  show bm_G _ _ _ 9 _ [.int (-3)] B1 _
  refine g_ist (pc' := 10) cd_Ho_publish rfl (Or.inr ⟨_, rfl, rfl, rfl⟩) (by decide) rfl (fun lv el => ?_)
  have l0 := tm_lk el l0 rfl (by decide)
  have l1 := tm_lk el l1 rfl (by decide)
  have l2 : lv.lookup 2 = some (.int (-3)) := tm_lks el
  clear el
  refine g_ild (pc' := 11) cd_Ho_publish rfl (Or.inr ⟨_, rfl, rfl, rfl⟩) l2 rfl ?_
  refine g_if1 (t := 16) (pc' := 14) cd_Ho_publish rfl rfl rfl (fun c11 => ?_) (fun c11 => ?_)
  · exact absurd (show ((-3) : Int32) = 0 from c11) (by decide)
  · have c11 : ¬ ((-3) : Int32) = 0 := c11
    refine g_ild (pc' := 15) cd_Ho_publish rfl (Or.inr ⟨_, rfl, rfl, rfl⟩) l2 rfl ?_
    exact g_reti cd_Ho_publish rfl ⟨_, rfl, (kk B1 _ ca1 rm1 hC1 hH1 (fr_mono (fun y q => nF_lo hC (by omega)) hf1))⟩
set_option maxRecDepth 100000 in
theorem td_begin {sc : tm_X} {d : Nat} {B : bm_H} {F : Nat → Prop} {N S M ln : Nat} {T : List Tm} {dr : Nat} {K : Tm → Prop} {ca rm kc kl rk : Nat} {ws : List (Tm × Int32)} {wt : List Tm} {G : LG} {ids dir reg : Nat → Tm} {seen : List Tm} {π : Nat → Nat} {w : Nat → SW} {dev : Nat → DV} {sto : Nat → ST} {p q : Nat} {Q : Int32 → bm_H → Prop} (hC : CK B F N S M ln T dr K ca rm kc kl rk) (hH : RH B T ws wt G ids dir reg seen π w dev sto) (hdr : dr ≤ 2960) (hws : ws.length ≤ 692) (hTl : T.length ≤ 30000) (hp : p < 6) (hq : q < 6) (hpq : p ≠ q) (hdn : (sto p).2.2.2.2 = true) (kk : ∀ B' M' ca' rm', CK B' F N S M' ln T dr K ca' rm' kc kl rk → RH B' T ws wt G ids dir reg seen π w dev sto → fr (fun y => ¬ F y) B B' → Q (-3) B') : bm_Gi sc (d + 6) 64 [.ref 0, .int (nI p), .int (nI q)] B Q := by
  show bm_G sc (d + 6) 64 0 [(0, .ref 0), (1, .int (nI p)), (2, .int (nI q))] [] B _
  generalize elv : ([(0, .ref 0), (1, .int (nI p)), (2, .int (nI q))] : tm_L) = lv
  have l0 : lv.lookup 0 = some (.ref 0) := by rw [← elv]; rfl
  have l1 : lv.lookup 1 = some (.int (nI p)) := by rw [← elv]; rfl
  have l2 : lv.lookup 2 = some (.int (nI q)) := by rw [← elv]; rfl
  clear elv
  refine g_ald (pc' := 1) cd_Ho_begin rfl (Or.inr ⟨_, rfl, rfl, rfl⟩) l0 rfl rfl ?_
  refine g_ild (pc' := 2) cd_Ho_begin rfl (Or.inr ⟨_, rfl, rfl, rfl⟩) l1 rfl ?_
  refine g_ild (pc' := 3) cd_Ho_begin rfl (Or.inr ⟨_, rfl, rfl, rfl⟩) l2 rfl ?_
  refine g_calli (pc' := 6) cd_Ho_begin rfl rfl rfl rfl rfl (tm_invS rfl rfl cd_Ho_areTwo rfl (Nat.le_of_ble_eq_true rfl)) (t_areTwo ?_)
  rw [show (inR (nI p) 6 && inR (nI q) 6 && !decide (nI p = nI q)) = true from by rw [show inR (nI p) 6 = true from inR_nI hp (by decide), show inR (nI q) 6 = true from inR_nI hq (by decide), decide_eq_false (fun z => hpq ((nI_eq (by omega) (by omega)).mp z))]; rfl]
  show bm_G _ _ _ _ _ (.int 1 :: _) _ _
  show bm_G _ _ _ 6 _ [.int 1, .ref 0] B _
  refine g_ild (pc' := 7) cd_Ho_begin rfl (Or.inr ⟨_, rfl, rfl, rfl⟩) l1 rfl ?_
  refine g_calli (pc' := 10) cd_Ho_begin rfl rfl rfl rfl rfl (tm_invV rfl rfl cd_Ho_refusal rfl (Nat.le_of_ble_eq_true rfl) (by decide) hH.1.1.1 hH.1.1.2) (t_refusal hC hH hdr hws hTl hp (fun B1 ca1 rm1 _ hC1 hH1 hf1 => ?_) (fun _ _ _ h _ _ _ => absurd (hdn.symm.trans h) (by decide)))
  show bm_G _ _ _ 10 _ [.int (-3)] B1 _
  refine g_ist (pc' := 11) cd_Ho_begin rfl (Or.inr ⟨_, rfl, rfl, rfl⟩) (by decide) rfl (fun lv el => ?_)
  have l0 := tm_lk el l0 rfl (by decide)
  have l1 := tm_lk el l1 rfl (by decide)
  have l2 := tm_lk el l2 rfl (by decide)
  have l3 : lv.lookup 3 = some (.int (-3)) := tm_lks el
  clear el
  refine g_ild (pc' := 12) cd_Ho_begin rfl (Or.inr ⟨_, rfl, rfl, rfl⟩) l3 rfl ?_
  refine g_if1 (t := 17) (pc' := 15) cd_Ho_begin rfl rfl rfl (fun c12 => ?_) (fun c12 => ?_)
  · exact absurd (show ((-3) : Int32) = 0 from c12) (by decide)
  · have c12 : ¬ ((-3) : Int32) = 0 := c12
    refine g_ild (pc' := 16) cd_Ho_begin rfl (Or.inr ⟨_, rfl, rfl, rfl⟩) l3 rfl ?_
    exact g_reti cd_Ho_begin rfl ⟨_, rfl, (kk B1 _ ca1 rm1 hC1 hH1 (fr_mono (fun y q => nF_lo hC (by omega)) hf1))⟩
set_option maxRecDepth 100000 in
theorem td_send {sc : tm_X} {d : Nat} {B : bm_H} {F : Nat → Prop} {N S M ln : Nat} {T : List Tm} {dr : Nat} {K : Tm → Prop} {ca rm kc kl rk : Nat} {ws : List (Tm × Int32)} {wt : List Tm} {G : LG} {ids dir reg : Nat → Tm} {seen : List Tm} {π : Nat → Nat} {w : Nat → SW} {dev : Nat → DV} {sto : Nat → ST} {p q : Nat} {Q : Int32 → bm_H → Prop} (hC : CK B F N S M ln T dr K ca rm kc kl rk) (hH : RH B T ws wt G ids dir reg seen π w dev sto) (hdr : dr ≤ 2960) (hws : ws.length ≤ 692) (hTl : T.length ≤ 30000) (hp : p < 6) (hq : q < 6) (hpq : p ≠ q) (hdn : (sto p).2.2.2.2 = true) (kk : ∀ B' M' ca' rm', CK B' F N S M' ln T dr K ca' rm' kc kl rk → RH B' T ws wt G ids dir reg seen π w dev sto → fr (fun y => ¬ F y) B B' → Q (-3) B') : bm_Gi sc (d + 6) 84 [.ref 0, .int (nI p), .int (nI q)] B Q := by
  show bm_G sc (d + 6) 84 0 [(0, .ref 0), (1, .int (nI p)), (2, .int (nI q))] [] B _
  generalize elv : ([(0, .ref 0), (1, .int (nI p)), (2, .int (nI q))] : tm_L) = lv
  have l0 : lv.lookup 0 = some (.ref 0) := by rw [← elv]; rfl
  have l1 : lv.lookup 1 = some (.int (nI p)) := by rw [← elv]; rfl
  have l2 : lv.lookup 2 = some (.int (nI q)) := by rw [← elv]; rfl
  clear elv
  refine g_ald (pc' := 1) cd_Ho_send rfl (Or.inr ⟨_, rfl, rfl, rfl⟩) l0 rfl rfl ?_
  refine g_ild (pc' := 2) cd_Ho_send rfl (Or.inr ⟨_, rfl, rfl, rfl⟩) l1 rfl ?_
  refine g_ild (pc' := 3) cd_Ho_send rfl (Or.inr ⟨_, rfl, rfl, rfl⟩) l2 rfl ?_
  refine g_calli (pc' := 6) cd_Ho_send rfl rfl rfl rfl rfl (tm_invS rfl rfl cd_Ho_areTwo rfl (Nat.le_of_ble_eq_true rfl)) (t_areTwo ?_)
  rw [show (inR (nI p) 6 && inR (nI q) 6 && !decide (nI p = nI q)) = true from by rw [show inR (nI p) 6 = true from inR_nI hp (by decide), show inR (nI q) 6 = true from inR_nI hq (by decide), decide_eq_false (fun z => hpq ((nI_eq (by omega) (by omega)).mp z))]; rfl]
  show bm_G _ _ _ _ _ (.int 1 :: _) _ _
  show bm_G _ _ _ 6 _ [.int 1, .ref 0] B _
  refine g_ild (pc' := 7) cd_Ho_send rfl (Or.inr ⟨_, rfl, rfl, rfl⟩) l1 rfl ?_
  refine g_calli (pc' := 10) cd_Ho_send rfl rfl rfl rfl rfl (tm_invV rfl rfl cd_Ho_refusal rfl (Nat.le_of_ble_eq_true rfl) (by decide) hH.1.1.1 hH.1.1.2) (t_refusal hC hH hdr hws hTl hp (fun B1 ca1 rm1 _ hC1 hH1 hf1 => ?_) (fun _ _ _ h _ _ _ => absurd (hdn.symm.trans h) (by decide)))
  show bm_G _ _ _ 10 _ [.int (-3)] B1 _
  refine g_ist (pc' := 11) cd_Ho_send rfl (Or.inr ⟨_, rfl, rfl, rfl⟩) (by decide) rfl (fun lv el => ?_)
  have l0 := tm_lk el l0 rfl (by decide)
  have l1 := tm_lk el l1 rfl (by decide)
  have l2 := tm_lk el l2 rfl (by decide)
  have l3 : lv.lookup 3 = some (.int (-3)) := tm_lks el
  clear el
  refine g_ild (pc' := 12) cd_Ho_send rfl (Or.inr ⟨_, rfl, rfl, rfl⟩) l3 rfl ?_
  refine g_if1 (t := 17) (pc' := 15) cd_Ho_send rfl rfl rfl (fun c12 => ?_) (fun c12 => ?_)
  · exact absurd (show ((-3) : Int32) = 0 from c12) (by decide)
  · have c12 : ¬ ((-3) : Int32) = 0 := c12
    refine g_ild (pc' := 16) cd_Ho_send rfl (Or.inr ⟨_, rfl, rfl, rfl⟩) l3 rfl ?_
    exact g_reti cd_Ho_send rfl ⟨_, rfl, (kk B1 _ ca1 rm1 hC1 hH1 (fr_mono (fun y q => nF_lo hC (by omega)) hf1))⟩
set_option maxRecDepth 100000 in
theorem td_list {sc : tm_X} {d : Nat} {B : bm_H} {F : Nat → Prop} {N S M ln : Nat} {T : List Tm} {dr : Nat} {K : Tm → Prop} {ca rm kc kl rk : Nat} {ws : List (Tm × Int32)} {wt : List Tm} {G : LG} {ids dir reg : Nat → Tm} {seen : List Tm} {π : Nat → Nat} {w : Nat → SW} {dev : Nat → DV} {sto : Nat → ST} {p : Nat} {k : Int32} {Q : Int32 → bm_H → Prop} (hC : CK B F N S M ln T dr K ca rm kc kl rk) (hH : RH B T ws wt G ids dir reg seen π w dev sto) (hdr : dr ≤ 2960) (hws : ws.length ≤ 692) (hTl : T.length ≤ 30000) (hp4 : p < 4) (hp : p < 6) (hk0 : ¬ k < 0) (hk6 : ¬ 64 ≤ k) (hdn : (sto p).2.2.2.2 = true) (kk : ∀ B' M' ca' rm', CK B' F N S M' ln T dr K ca' rm' kc kl rk → RH B' T ws wt G ids dir reg seen π w dev sto → fr (fun y => ¬ F y) B B' → Q (-3) B') : bm_Gi sc (d + 6) 94 [.ref 0, .int (nI p), .int k] B Q := by
  show bm_G sc (d + 6) 94 0 [(0, .ref 0), (1, .int (nI p)), (2, .int k)] [] B _
  generalize elv : ([(0, .ref 0), (1, .int (nI p)), (2, .int k)] : tm_L) = lv
  have l0 : lv.lookup 0 = some (.ref 0) := by rw [← elv]; rfl
  have l1 : lv.lookup 1 = some (.int (nI p)) := by rw [← elv]; rfl
  have l2 : lv.lookup 2 = some (.int k) := by rw [← elv]; rfl
  clear elv
  refine g_ald (pc' := 1) cd_Ho_list rfl (Or.inr ⟨_, rfl, rfl, rfl⟩) l0 rfl rfl ?_
  refine g_ild (pc' := 2) cd_Ho_list rfl (Or.inr ⟨_, rfl, rfl, rfl⟩) l1 rfl ?_
  refine g_calli (pc' := 5) cd_Ho_list rfl rfl rfl rfl rfl (tm_invS rfl rfl cd_Ho_isGroup rfl (Nat.le_of_ble_eq_true rfl)) (t_isGroup ?_)
  rw [show inR (nI p) 4 = true from inR_nI hp4 (by decide)]
  show bm_G _ _ _ _ _ (.int 1 :: _) _ _
  show bm_G _ _ _ 5 _ [.int 1, .ref 0] B _
  refine g_if1 (t := 22) (pc' := 8) cd_Ho_list rfl rfl rfl (fun c5 => ?_) (fun c5 => ?_)
  · exact absurd (show (1 : Int32) = 0 from c5) (by decide)
  · have c5 : ¬ (1 : Int32) = 0 := c5
    refine g_ild (pc' := 9) cd_Ho_list rfl (Or.inr ⟨_, rfl, rfl, rfl⟩) l2 rfl ?_
    refine g_if1 (t := 22) (pc' := 12) cd_Ho_list rfl rfl rfl (fun c9 => ?_) (fun c9 => ?_)
    · have c9 : k < 0 := c9
      exact absurd c9 hk0
    · have c9 : ¬ k < 0 := c9
      refine g_ild (pc' := 13) cd_Ho_list rfl (Or.inr ⟨_, rfl, rfl, rfl⟩) l2 rfl ?_
      refine g_k2 (v := 64) (pc' := 15) cd_Ho_list rfl (by decide) rfl ?_
      refine g_if2 (t := 22) (pc' := 18) cd_Ho_list rfl rfl rfl (fun c15 => ?_) (fun c15 => ?_)
      · have c15 : (64 : Int32) ≤ k := c15
        exact absurd c15 hk6
      · have c15 : ¬ (64 : Int32) ≤ k := c15
        refine g_k1 (v := 1) (pc' := 19) cd_Ho_list rfl (by decide) rfl ?_
        refine g_pure (pc' := 23) (st' := [.int 1, .ref 0]) cd_Ho_list rfl rfl (fun _ _ => rfl) ?_
        refine g_ild (pc' := 24) cd_Ho_list rfl (Or.inr ⟨_, rfl, rfl, rfl⟩) l1 rfl ?_
        refine g_calli (pc' := 27) cd_Ho_list rfl rfl rfl rfl rfl (tm_invV rfl rfl cd_Ho_refusal rfl (Nat.le_of_ble_eq_true rfl) (by decide) hH.1.1.1 hH.1.1.2) (t_refusal hC hH hdr hws hTl hp (fun B1 ca1 rm1 _ hC1 hH1 hf1 => ?_) (fun _ _ _ h _ _ _ => absurd (hdn.symm.trans h) (by decide)))
        show bm_G _ _ _ 27 _ [.int (-3)] B1 _
        refine g_ist (pc' := 28) cd_Ho_list rfl (Or.inr ⟨_, rfl, rfl, rfl⟩) (by decide) rfl (fun lv el => ?_)
        have l0 := tm_lk el l0 rfl (by decide)
        have l1 := tm_lk el l1 rfl (by decide)
        have l2 := tm_lk el l2 rfl (by decide)
        have l3 : lv.lookup 3 = some (.int (-3)) := tm_lks el
        clear el
        refine g_ild (pc' := 29) cd_Ho_list rfl (Or.inr ⟨_, rfl, rfl, rfl⟩) l3 rfl ?_
        refine g_if1 (t := 34) (pc' := 32) cd_Ho_list rfl rfl rfl (fun c29 => ?_) (fun c29 => ?_)
        · exact absurd (show ((-3) : Int32) = 0 from c29) (by decide)
        · have c29 : ¬ ((-3) : Int32) = 0 := c29
          refine g_ild (pc' := 33) cd_Ho_list rfl (Or.inr ⟨_, rfl, rfl, rfl⟩) l3 rfl ?_
          exact g_reti cd_Ho_list rfl ⟨_, rfl, (kk B1 _ ca1 rm1 hC1 hH1 (fr_mono (fun y q => nF_lo hC (by omega)) hf1))⟩
set_option maxRecDepth 100000 in
theorem td_post {sc : tm_X} {d : Nat} {B : bm_H} {F : Nat → Prop} {N S M ln : Nat} {T : List Tm} {dr : Nat} {K : Tm → Prop} {ca rm kc kl rk : Nat} {ws : List (Tm × Int32)} {wt : List Tm} {G : LG} {ids dir reg : Nat → Tm} {seen : List Tm} {π : Nat → Nat} {w : Nat → SW} {dev : Nat → DV} {sto : Nat → ST} {p g : Nat} {Q : Int32 → bm_H → Prop} (hC : CK B F N S M ln T dr K ca rm kc kl rk) (hH : RH B T ws wt G ids dir reg seen π w dev sto) (hdr : dr ≤ 2960) (hws : ws.length ≤ 692) (hTl : T.length ≤ 30000) (hp : p < 6) (hg : g < 4) (hdn : (sto p).2.2.2.2 = true) (kk : ∀ B' M' ca' rm', CK B' F N S M' ln T dr K ca' rm' kc kl rk → RH B' T ws wt G ids dir reg seen π w dev sto → fr (fun y => ¬ F y) B B' → Q (-3) B') : bm_Gi sc (d + 6) 97 [.ref 0, .int (nI p), .int (nI g)] B Q := by
  show bm_G sc (d + 6) 97 0 [(0, .ref 0), (1, .int (nI p)), (2, .int (nI g))] [] B _
  generalize elv : ([(0, .ref 0), (1, .int (nI p)), (2, .int (nI g))] : tm_L) = lv
  have l0 : lv.lookup 0 = some (.ref 0) := by rw [← elv]; rfl
  have l1 : lv.lookup 1 = some (.int (nI p)) := by rw [← elv]; rfl
  have l2 : lv.lookup 2 = some (.int (nI g)) := by rw [← elv]; rfl
  clear elv
  refine g_ald (pc' := 1) cd_Ho_post rfl (Or.inr ⟨_, rfl, rfl, rfl⟩) l0 rfl rfl ?_
  refine g_ild (pc' := 2) cd_Ho_post rfl (Or.inr ⟨_, rfl, rfl, rfl⟩) l1 rfl ?_
  refine g_calli (pc' := 5) cd_Ho_post rfl rfl rfl rfl rfl (tm_invS rfl rfl cd_Ho_isDevice rfl (Nat.le_of_ble_eq_true rfl)) (t_isDevice ?_)
  rw [show inR (nI p) 6 = true from inR_nI hp (by decide)]
  show bm_G _ _ _ _ _ (.int 1 :: _) _ _
  show bm_G _ _ _ 5 _ [.int 1, .ref 0] B _
  refine g_if1 (t := 19) (pc' := 8) cd_Ho_post rfl rfl rfl (fun c5 => ?_) (fun c5 => ?_)
  · exact absurd (show (1 : Int32) = 0 from c5) (by decide)
  · have c5 : ¬ (1 : Int32) = 0 := c5
    refine g_ild (pc' := 9) cd_Ho_post rfl (Or.inr ⟨_, rfl, rfl, rfl⟩) l2 rfl ?_
    refine g_calli (pc' := 12) cd_Ho_post rfl rfl rfl rfl rfl (tm_invS rfl rfl cd_Ho_isGroup rfl (Nat.le_of_ble_eq_true rfl)) (t_isGroup ?_)
    rw [show inR (nI g) 4 = true from inR_nI hg (by decide)]
    show bm_G _ _ _ _ _ (.int 1 :: _) _ _
    show bm_G _ _ _ 12 _ [.int 1, .ref 0] B _
    refine g_if1 (t := 19) (pc' := 15) cd_Ho_post rfl rfl rfl (fun c12 => ?_) (fun c12 => ?_)
    · exact absurd (show (1 : Int32) = 0 from c12) (by decide)
    · have c12 : ¬ (1 : Int32) = 0 := c12
      refine g_k1 (v := 1) (pc' := 16) cd_Ho_post rfl (by decide) rfl ?_
      refine g_pure (pc' := 20) (st' := [.int 1, .ref 0]) cd_Ho_post rfl rfl (fun _ _ => rfl) ?_
      refine g_ild (pc' := 21) cd_Ho_post rfl (Or.inr ⟨_, rfl, rfl, rfl⟩) l1 rfl ?_
      refine g_calli (pc' := 24) cd_Ho_post rfl rfl rfl rfl rfl (tm_invV rfl rfl cd_Ho_refusal rfl (Nat.le_of_ble_eq_true rfl) (by decide) hH.1.1.1 hH.1.1.2) (t_refusal hC hH hdr hws hTl hp (fun B1 ca1 rm1 _ hC1 hH1 hf1 => ?_) (fun _ _ _ h _ _ _ => absurd (hdn.symm.trans h) (by decide)))
      show bm_G _ _ _ 24 _ [.int (-3)] B1 _
      refine g_ist (pc' := 25) cd_Ho_post rfl (Or.inr ⟨_, rfl, rfl, rfl⟩) (by decide) rfl (fun lv el => ?_)
      have l0 := tm_lk el l0 rfl (by decide)
      have l1 := tm_lk el l1 rfl (by decide)
      have l2 := tm_lk el l2 rfl (by decide)
      have l3 : lv.lookup 3 = some (.int (-3)) := tm_lks el
      clear el
      refine g_ild (pc' := 26) cd_Ho_post rfl (Or.inr ⟨_, rfl, rfl, rfl⟩) l3 rfl ?_
      refine g_if1 (t := 31) (pc' := 29) cd_Ho_post rfl rfl rfl (fun c26 => ?_) (fun c26 => ?_)
      · exact absurd (show ((-3) : Int32) = 0 from c26) (by decide)
      · have c26 : ¬ ((-3) : Int32) = 0 := c26
        refine g_ild (pc' := 30) cd_Ho_post rfl (Or.inr ⟨_, rfl, rfl, rfl⟩) l3 rfl ?_
        exact g_reti cd_Ho_post rfl ⟨_, rfl, (kk B1 _ ca1 rm1 hC1 hH1 (fr_mono (fun y q => nF_lo hC (by omega)) hf1))⟩
set_option maxRecDepth 100000 in
theorem td_arrive {sc : tm_X} {d : Nat} {B : bm_H} {F : Nat → Prop} {N S M ln : Nat} {T : List Tm} {dr : Nat} {K : Tm → Prop} {ca rm kc kl rk : Nat} {ws : List (Tm × Int32)} {wt : List Tm} {G : LG} {ids dir reg : Nat → Tm} {seen : List Tm} {π : Nat → Nat} {w : Nat → SW} {dev : Nat → DV} {sto : Nat → ST} {q : Nat} {x : Int32} {Q : Int32 → bm_H → Prop} (hC : CK B F N S M ln T dr K ca rm kc kl rk) (hH : RH B T ws wt G ids dir reg seen π w dev sto) (hq : q < 6) (hdn : (sto q).2.2.2.2 = true) (kk : Q (-3) B) : bm_Gi sc (d + 6) 105 [.ref 0, .int (nI q), .int x] B Q := by
  have hst0 := hH.2.2.2.2.2.2 q hq
  have hSS := RSt_K hst0
  show bm_G sc (d + 6) 105 0 [(0, .ref 0), (1, .int (nI q)), (2, .int x)] [] B _
  generalize elv : ([(0, .ref 0), (1, .int (nI q)), (2, .int x)] : tm_L) = lv
  have l0 : lv.lookup 0 = some (.ref 0) := by rw [← elv]; rfl
  have l1 : lv.lookup 1 = some (.int (nI q)) := by rw [← elv]; rfl
  have l2 : lv.lookup 2 = some (.int x) := by rw [← elv]; rfl
  clear elv
  refine g_ald (pc' := 1) cd_Ho_arrive rfl (Or.inr ⟨_, rfl, rfl, rfl⟩) l0 rfl rfl ?_
  refine g_fR (c := 11) (k := 5) (x := 20) (pc' := 4) cd_Ho_arrive rfl rfl rfl rfl rfl (by decide) hH.1.1.1 hH.1.1.2 hH.1.2.1.2.2.2.2.2.1 ?_
  refine g_ild (pc' := 5) cd_Ho_arrive rfl (Or.inr ⟨_, rfl, rfl, rfl⟩) l1 rfl ?_
  refine g_aR (t := 3) (x := (431 + 209 * q)) (pc' := 6) cd_Ho_arrive rfl rfl hH.1.2.2.2.1.1 hH.1.2.2.2.1.2.1 (by decide) rfl rfl (by rw [show bm_AL B 20 = 6 from hH.1.2.2.2.1.2.2]; exact vp_in_nI (by omega) (by decide)) (by rw [nI_clamp (by omega)]; exact hH.2.2.2.2.2.1 q hq) ?_
  refine g_fI (c := 8) (k := 6) (x := bz (sto q).2.2.2.2) (pc' := 9) cd_Ho_arrive rfl rfl rfl rfl rfl (by decide) hSS.1 hSS.2 (RSt_dn hst0) ?_
  refine g_if1 (t := 15) (pc' := 12) cd_Ho_arrive rfl rfl rfl (fun c9 => ?_) (fun c9 => ?_)
  · have c9 : (sto q).2.2.2.2 = false := bz_f c9
    exact absurd (hdn.symm.trans c9) (by decide)
  · have c9 : (sto q).2.2.2.2 = true := bz_t c9
    refine g_k2 (v := (-3)) (pc' := 14) cd_Ho_arrive rfl (by decide) rfl ?_
    exact g_reti cd_Ho_arrive rfl ⟨_, rfl, kk⟩
set_option maxRecDepth 100000 in
theorem td_deliver {sc : tm_X} {d : Nat} {B : bm_H} {F : Nat → Prop} {N S M ln : Nat} {T : List Tm} {dr : Nat} {K : Tm → Prop} {ca rm kc kl rk : Nat} {ws : List (Tm × Int32)} {wt : List Tm} {G : LG} {ids dir reg : Nat → Tm} {seen : List Tm} {π : Nat → Nat} {w : Nat → SW} {dev : Nat → DV} {sto : Nat → ST} {q i : Nat} {Q : Int32 → bm_H → Prop} (hC : CK B F N S M ln T dr K ca rm kc kl rk) (hH : RH B T ws wt G ids dir reg seen π w dev sto) (hq : q < 6) (hi : i < ws.length) (hdn : (sto q).2.2.2.2 = true) (kk : Q (-3) B) : bm_Gi sc (d + 7) 103 [.ref 0, .int (nI q), .int (nI i)] B Q := by
  have h7 := hH.2.1.2.1.2.2
  show bm_G sc (d + 7) 103 0 [(0, .ref 0), (1, .int (nI q)), (2, .int (nI i))] [] B _
  generalize elv : ([(0, .ref 0), (1, .int (nI q)), (2, .int (nI i))] : tm_L) = lv
  have l0 : lv.lookup 0 = some (.ref 0) := by rw [← elv]; rfl
  have l1 : lv.lookup 1 = some (.int (nI q)) := by rw [← elv]; rfl
  have l2 : lv.lookup 2 = some (.int (nI i)) := by rw [← elv]; rfl
  clear elv
  refine g_ild (pc' := 1) cd_Ho_deliver rfl (Or.inr ⟨_, rfl, rfl, rfl⟩) l1 rfl ?_
  refine g_calli (pc' := 4) cd_Ho_deliver rfl rfl rfl rfl rfl (tm_invS rfl rfl cd_Ho_isDevice rfl (Nat.le_of_ble_eq_true rfl)) (t_isDev hq ?_)
  show bm_G _ _ _ 4 _ [.int 1] B _
  refine g_if1 (t := 18) (pc' := 7) cd_Ho_deliver rfl rfl rfl (fun c4 => ?_) (fun c4 => ?_)
  · exact absurd (show (1 : Int32) = 0 from c4) (by decide)
  · have c4 : ¬ (1 : Int32) = 0 := c4
    refine g_ald (pc' := 8) cd_Ho_deliver rfl (Or.inr ⟨_, rfl, rfl, rfl⟩) l0 rfl rfl ?_
    refine g_fR (c := 11) (k := 2) (x := 8) (pc' := 11) cd_Ho_deliver rfl rfl rfl rfl rfl (by decide) hH.1.1.1 hH.1.1.2 hH.1.2.1.2.2.1 ?_
    refine g_ild (pc' := 12) cd_Ho_deliver rfl (Or.inr ⟨_, rfl, rfl, rfl⟩) l2 rfl ?_
    refine g_calli (pc' := 15) cd_Ho_deliver rfl rfl rfl rfl rfl (tm_invV rfl rfl cd_Wi_has rfl (Nat.le_of_ble_eq_true rfl) (by decide) hH.2.1.1.1.1 hH.2.1.1.1.2) (t_Whas hH.2.1 ?_)
    rw [inR_nI hi (by omega)]
    show bm_G _ _ _ _ _ (.int 1 :: _) _ _
    show bm_G _ _ _ 15 _ [.int 1] B _
    refine g_if1 (t := 20) (pc' := 18) cd_Ho_deliver rfl rfl rfl (fun c15 => ?_) (fun c15 => ?_)
    · have c15 : ¬ (1 : Int32) = 0 := c15
      refine g_ald (pc' := 21) cd_Ho_deliver rfl (Or.inr ⟨_, rfl, rfl, rfl⟩) l0 rfl rfl ?_
      refine g_ild (pc' := 22) cd_Ho_deliver rfl (Or.inr ⟨_, rfl, rfl, rfl⟩) l1 rfl ?_
      refine g_ald (pc' := 23) cd_Ho_deliver rfl (Or.inr ⟨_, rfl, rfl, rfl⟩) l0 rfl rfl ?_
      refine g_fR (c := 11) (k := 2) (x := 8) (pc' := 26) cd_Ho_deliver rfl rfl rfl rfl rfl (by decide) hH.1.1.1 hH.1.1.2 hH.1.2.1.2.2.1 ?_
      refine g_fR (c := 10) (k := 0) (x := 9) (pc' := 29) cd_Ho_deliver rfl rfl rfl rfl rfl (by decide) hH.2.1.1.1.1 hH.2.1.1.1.2 hH.2.1.1.2.1.1 ?_
      refine g_ild (pc' := 30) cd_Ho_deliver rfl (Or.inr ⟨_, rfl, rfl, rfl⟩) l2 rfl ?_
      refine g_aI (x := (bm_AI B 9 i)) (pc' := 31) cd_Ho_deliver rfl rfl hH.2.1.1.2.2.1.1 hH.2.1.1.2.2.1.2.1 (by rw [show bm_AL B 9 = 700 from hH.2.1.1.2.2.1.2.2]; exact vp_in_nI (by omega) (by decide)) (by rw [nI_clamp (by omega)]) ?_
      refine g_calli (pc' := 34) cd_Ho_deliver rfl rfl rfl rfl rfl (tm_invV rfl rfl cd_Ho_arrive rfl (Nat.le_of_ble_eq_true rfl) (by decide) hH.1.1.1 hH.1.1.2) (td_arrive hC hH hq hdn ?_)
      show bm_G _ _ _ 34 _ [.int (-3)] B _
      exact g_reti cd_Ho_deliver rfl ⟨_, rfl, kk⟩
    · exact absurd (show ¬ (¬ (1 : Int32) = 0) from c15) (by decide)
set_option maxRecDepth 100000 in
theorem td_inject {sc : tm_X} {d : Nat} {B : bm_H} {F : Nat → Prop} {N S M ln : Nat} {T : List Tm} {dr : Nat} {K : Tm → Prop} {ca rm kc kl rk : Nat} {ws : List (Tm × Int32)} {wt : List Tm} {G : LG} {ids dir reg : Nat → Tm} {seen : List Tm} {π : Nat → Nat} {w : Nat → SW} {dev : Nat → DV} {sto : Nat → ST} {q : Nat} {r : Int32} {Q : Int32 → bm_H → Prop} (hC : CK B F N S M ln T dr K ca rm kc kl rk) (hH : RH B T ws wt G ids dir reg seen π w dev sto) (hq : q < 6) (hA : hl reg r ≠ tz) (hdn : (sto q).2.2.2.2 = true) (kk : Q (-3) B) : bm_Gi sc (d + 7) 130 [.ref 0, .int (nI q), .int r] B Q := by
  show bm_G sc (d + 7) 130 0 [(0, .ref 0), (1, .int (nI q)), (2, .int r)] [] B _
  generalize elv : ([(0, .ref 0), (1, .int (nI q)), (2, .int r)] : tm_L) = lv
  have l0 : lv.lookup 0 = some (.ref 0) := by rw [← elv]; rfl
  have l1 : lv.lookup 1 = some (.int (nI q)) := by rw [← elv]; rfl
  have l2 : lv.lookup 2 = some (.int r) := by rw [← elv]; rfl
  clear elv
  refine g_ald (pc' := 1) cd_Ho_inject rfl (Or.inr ⟨_, rfl, rfl, rfl⟩) l0 rfl rfl ?_
  refine g_ild (pc' := 2) cd_Ho_inject rfl (Or.inr ⟨_, rfl, rfl, rfl⟩) l2 rfl ?_
  refine g_calli (pc' := 5) cd_Ho_inject rfl rfl rfl rfl rfl (tm_invV rfl rfl cd_Ho_held rfl (Nat.le_of_ble_eq_true rfl) (by decide) hH.1.1.1 hH.1.1.2) (t_held hC hH (fun x5 tj => ?_))
  show bm_G _ _ _ 5 _ [.int x5] B _
  refine g_ist (pc' := 6) cd_Ho_inject rfl (Or.inr ⟨_, rfl, rfl, rfl⟩) (by decide) rfl (fun lv el => ?_)
  have l0 := tm_lk el l0 rfl (by decide)
  have l1 := tm_lk el l1 rfl (by decide)
  have l2 := tm_lk el l2 rfl (by decide)
  have l3 : lv.lookup 3 = some (.int x5) := tm_lks el
  clear el
  refine g_ild (pc' := 7) cd_Ho_inject rfl (Or.inr ⟨_, rfl, rfl, rfl⟩) l1 rfl ?_
  refine g_calli (pc' := 10) cd_Ho_inject rfl rfl rfl rfl rfl (tm_invS rfl rfl cd_Ho_isDevice rfl (Nat.le_of_ble_eq_true rfl)) (t_isDev hq ?_)
  show bm_G _ _ _ 10 _ [.int 1] B _
  refine g_if1 (t := 17) (pc' := 13) cd_Ho_inject rfl rfl rfl (fun c10 => ?_) (fun c10 => ?_)
  · exact absurd (show (1 : Int32) = 0 from c10) (by decide)
  · have c10 : ¬ (1 : Int32) = 0 := c10
    refine g_ild (pc' := 14) cd_Ho_inject rfl (Or.inr ⟨_, rfl, rfl, rfl⟩) l3 rfl ?_
    refine g_if1 (t := 19) (pc' := 17) cd_Ho_inject rfl rfl rfl (fun c14 => ?_) (fun c14 => ?_)
    · have c14 : ¬ x5 = 0 := c14
      refine g_ald (pc' := 20) cd_Ho_inject rfl (Or.inr ⟨_, rfl, rfl, rfl⟩) l0 rfl rfl ?_
      refine g_ild (pc' := 21) cd_Ho_inject rfl (Or.inr ⟨_, rfl, rfl, rfl⟩) l1 rfl ?_
      refine g_ild (pc' := 22) cd_Ho_inject rfl (Or.inr ⟨_, rfl, rfl, rfl⟩) l3 rfl ?_
      refine g_calli (pc' := 25) cd_Ho_inject rfl rfl rfl rfl rfl (tm_invV rfl rfl cd_Ho_arrive rfl (Nat.le_of_ble_eq_true rfl) (by decide) hH.1.1.1 hH.1.1.2) (td_arrive hC hH hq hdn ?_)
      show bm_G _ _ _ 25 _ [.int (-3)] B _
      exact g_reti cd_Ho_inject rfl ⟨_, rfl, kk⟩
    · have c14 : x5 = 0 := Classical.not_not.mp c14
      exact absurd ((TI_0 hC.1 tj).mp c14) hA
