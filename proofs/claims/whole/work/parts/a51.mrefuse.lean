/-! The reference: refused; deliver, inject, crash -/
theorem RS_ck {f : Nat → Int32} {A : Nat → Nat → Int32} {T : List Tm} {DL : List (Int32 × Int32)} {dev : Nat → DV} {sto : Nat → ST} {ws : List (Tm × Int32)} {dir reg : Nat → Tm} {seen : List Tm} {ls : List RL} {lo dt db rt fl ll tl tf tg tm : Nat → Int32} {ck fo du : Int32} (hS : RS f A T DL dev sto ws dir reg seen ls lo (dt, db, rt, fl, ll, tl, tf, tg, tm, ck, fo, du)) : RS (fset f 21 (f 21 + 1)) A T DL dev sto ws dir reg seen ls lo (dt, db, rt, fl, ll, tl, tf, tg, tm, ck + 1, fo, du) := RS_p (f' := fset f 21 (f 21 + 1)) (A' := A) hS (List.prefix_refl T) hS.2.2.2.1.1 (show f 21 + 1 = ck + 1 by rw [hS.2.2.2.1.2.1]) ⟨rfl, rfl, rfl, rfl, rfl⟩ ⟨rfl, rfl, rfl, rfl, rfl, rfl, rfl, rfl, rfl, rfl, rfl, rfl, rfl, rfl, rfl, rfl, rfl, rfl, rfl, rfl, rfl, rfl, rfl, rfl, rfl, rfl, rfl⟩ hS.2.1.2.1 hS.2.2.2.2.1.1 hS.2.2.2.2.1.2.1 hS.2.2.2.2.1.2.2 hS.2.2.1.2
theorem m_refusedB {sc : tm_X} {d : Nat} {f : Nat → Int32} {A : Nat → Nat → Int32} {b : Bool} {m x : Int32} {Q : Int32 → MS → Prop} (h : b = false) (kk : Q (-1) (fset f 21 (f 21 + 1), A)) : mGi sc (d + 1) 201 [.ref 1482, .int (bz b), .int m, .int x] (f, A) Q := by
  subst h
  exact m_refusedN kk
set_option maxRecDepth 100000 in
theorem mo_publishB {sc : tm_X} {d : Nat} {f : Nat → Int32} {A : Nat → Nat → Int32} {x : Int32} {Q : Int32 → MS → Prop} (hB : inR x 6 = false) (kk : Q (-1) (fset f 21 (f 21 + 1), A)) : mGi sc (d + 2) 199 [.ref 1482, .int x] (f, A) Q := by
  show mg sc (d + 2) 199 0 [(0, .ref 1482), (1, .int x)] [] (f, A) _
  generalize elv : ([(0, .ref 1482), (1, .int x)] : tm_L) = lv
  have l0 : lv.lookup 0 = some (.ref 1482) := by rw [← elv]; rfl
  have l1 : lv.lookup 1 = some (.int x) := by rw [← elv]; rfl
  clear elv
  refine m_ald (pc' := 1) cd_Mo_publish rfl (Or.inr ⟨_, rfl, rfl, rfl⟩) l0 rfl rfl ?_
  refine m_ild (pc' := 2) cd_Mo_publish rfl (Or.inr ⟨_, rfl, rfl, rfl⟩) l1 rfl ?_
  refine m_si (pc' := 5) cd_Mo_publish rfl rfl rfl rfl rfl cd_Mo_isDevice rfl (Nat.le_of_ble_eq_true rfl) (m_isDevice ?_)
  show mg _ _ _ 5 _ [.int (bz (inR x 6)), .ref 1482] _ _
  refine m_k1 (v := 1) (pc' := 6) cd_Mo_publish rfl (by decide) rfl ?_
  refine m_ild (pc' := 7) cd_Mo_publish rfl (Or.inr ⟨_, rfl, rfl, rfl⟩) l1 rfl ?_
  refine m_ci (pc' := 10) cd_Mo_publish rfl rfl rfl rfl rfl cd_Mo_refused rfl (Nat.le_of_ble_eq_true rfl) (m_refusedB hB ?_)
  show mg _ _ _ 10 _ [.int (-1)] _ _
  refine m_ist (pc' := 11) cd_Mo_publish rfl (Or.inr ⟨_, rfl, rfl, rfl⟩) (by decide) rfl (fun lv el => ?_)
  have l0 := tm_lk el l0 rfl (by decide)
  have l1 := tm_lk el l1 rfl (by decide)
  have l2 : lv.lookup 2 = some (.int (-1)) := tm_lks el
  clear el
  refine m_ild (pc' := 12) cd_Mo_publish rfl (Or.inr ⟨_, rfl, rfl, rfl⟩) l2 rfl ?_
  refine m_if1 (t := 17) (pc' := 15) cd_Mo_publish rfl rfl rfl (fun c12 => ?_) (fun c12 => ?_)
  · exact absurd (show ((-1) : Int32) = 0 from c12) (by decide)
  · have c12 : ¬ ((-1) : Int32) = 0 := c12
    refine m_ild (pc' := 16) cd_Mo_publish rfl (Or.inr ⟨_, rfl, rfl, rfl⟩) l2 rfl ?_
    exact m_reti cd_Mo_publish rfl ⟨_, rfl, kk⟩
set_option maxRecDepth 100000 in
theorem mo_beginB {sc : tm_X} {d : Nat} {f : Nat → Int32} {A : Nat → Nat → Int32} {x y : Int32} {Q : Int32 → MS → Prop} (hB : inR x 6 = false ∨ inR y 6 = false ∨ x = y) (kk : Q (-1) (fset f 21 (f 21 + 1), A)) : mGi sc (d + 2) 210 [.ref 1482, .int x, .int y] (f, A) Q := by
  show mg sc (d + 2) 210 0 [(0, .ref 1482), (1, .int x), (2, .int y)] [] (f, A) _
  generalize elv : ([(0, .ref 1482), (1, .int x), (2, .int y)] : tm_L) = lv
  have l0 : lv.lookup 0 = some (.ref 1482) := by rw [← elv]; rfl
  have l1 : lv.lookup 1 = some (.int x) := by rw [← elv]; rfl
  have l2 : lv.lookup 2 = some (.int y) := by rw [← elv]; rfl
  clear elv
  refine m_ald (pc' := 1) cd_Mo_begin rfl (Or.inr ⟨_, rfl, rfl, rfl⟩) l0 rfl rfl ?_
  refine m_ild (pc' := 2) cd_Mo_begin rfl (Or.inr ⟨_, rfl, rfl, rfl⟩) l1 rfl ?_
  refine m_si (pc' := 5) cd_Mo_begin rfl rfl rfl rfl rfl cd_Mo_isDevice rfl (Nat.le_of_ble_eq_true rfl) (m_isDevice ?_)
  show mg _ _ _ 5 _ [.int (bz (inR x 6)), .ref 1482] _ _
  refine m_if1 (t := 24) (pc' := 8) cd_Mo_begin rfl rfl rfl (fun c5 => ?_) (fun c5 => ?_)
  · have c5 : (inR x 6) = false := bz_f c5
    refine m_k1 (v := 0) (pc' := 25) cd_Mo_begin rfl (by decide) rfl ?_
    refine m_k1 (v := 1) (pc' := 26) cd_Mo_begin rfl (by decide) rfl ?_
    refine m_ild (pc' := 27) cd_Mo_begin rfl (Or.inr ⟨_, rfl, rfl, rfl⟩) l1 rfl ?_
    refine m_ci (pc' := 30) cd_Mo_begin rfl rfl rfl rfl rfl cd_Mo_refused rfl (Nat.le_of_ble_eq_true rfl) (m_refusedN ?_)
    show mg _ _ _ 30 _ [.int (-1)] _ _
    refine m_ist (pc' := 31) cd_Mo_begin rfl (Or.inr ⟨_, rfl, rfl, rfl⟩) (by decide) rfl (fun lv el => ?_)
    have l0 := tm_lk el l0 rfl (by decide)
    have l1 := tm_lk el l1 rfl (by decide)
    have l2 := tm_lk el l2 rfl (by decide)
    have l3 : lv.lookup 3 = some (.int (-1)) := tm_lks el
    clear el
    refine m_ild (pc' := 32) cd_Mo_begin rfl (Or.inr ⟨_, rfl, rfl, rfl⟩) l3 rfl ?_
    refine m_if1 (t := 37) (pc' := 35) cd_Mo_begin rfl rfl rfl (fun c32 => ?_) (fun c32 => ?_)
    · exact absurd (show ((-1) : Int32) = 0 from c32) (by decide)
    · have c32 : ¬ ((-1) : Int32) = 0 := c32
      refine m_ild (pc' := 36) cd_Mo_begin rfl (Or.inr ⟨_, rfl, rfl, rfl⟩) l3 rfl ?_
      exact m_reti cd_Mo_begin rfl ⟨_, rfl, kk⟩
  · have c5 : (inR x 6) = true := bz_t c5
    refine m_ild (pc' := 9) cd_Mo_begin rfl (Or.inr ⟨_, rfl, rfl, rfl⟩) l2 rfl ?_
    refine m_si (pc' := 12) cd_Mo_begin rfl rfl rfl rfl rfl cd_Mo_isDevice rfl (Nat.le_of_ble_eq_true rfl) (m_isDevice ?_)
    show mg _ _ _ 12 _ [.int (bz (inR y 6)), .ref 1482] _ _
    refine m_if1 (t := 24) (pc' := 15) cd_Mo_begin rfl rfl rfl (fun c12 => ?_) (fun c12 => ?_)
    · have c12 : (inR y 6) = false := bz_f c12
      refine m_k1 (v := 0) (pc' := 25) cd_Mo_begin rfl (by decide) rfl ?_
      refine m_k1 (v := 1) (pc' := 26) cd_Mo_begin rfl (by decide) rfl ?_
      refine m_ild (pc' := 27) cd_Mo_begin rfl (Or.inr ⟨_, rfl, rfl, rfl⟩) l1 rfl ?_
      refine m_ci (pc' := 30) cd_Mo_begin rfl rfl rfl rfl rfl cd_Mo_refused rfl (Nat.le_of_ble_eq_true rfl) (m_refusedN ?_)
      show mg _ _ _ 30 _ [.int (-1)] _ _
      refine m_ist (pc' := 31) cd_Mo_begin rfl (Or.inr ⟨_, rfl, rfl, rfl⟩) (by decide) rfl (fun lv el => ?_)
      have l0 := tm_lk el l0 rfl (by decide)
      have l1 := tm_lk el l1 rfl (by decide)
      have l2 := tm_lk el l2 rfl (by decide)
      have l3 : lv.lookup 3 = some (.int (-1)) := tm_lks el
      clear el
      refine m_ild (pc' := 32) cd_Mo_begin rfl (Or.inr ⟨_, rfl, rfl, rfl⟩) l3 rfl ?_
      refine m_if1 (t := 37) (pc' := 35) cd_Mo_begin rfl rfl rfl (fun c32 => ?_) (fun c32 => ?_)
      · exact absurd (show ((-1) : Int32) = 0 from c32) (by decide)
      · have c32 : ¬ ((-1) : Int32) = 0 := c32
        refine m_ild (pc' := 36) cd_Mo_begin rfl (Or.inr ⟨_, rfl, rfl, rfl⟩) l3 rfl ?_
        exact m_reti cd_Mo_begin rfl ⟨_, rfl, kk⟩
    · have c12 : (inR y 6) = true := bz_t c12
      refine m_ild (pc' := 16) cd_Mo_begin rfl (Or.inr ⟨_, rfl, rfl, rfl⟩) l1 rfl ?_
      refine m_ild (pc' := 17) cd_Mo_begin rfl (Or.inr ⟨_, rfl, rfl, rfl⟩) l2 rfl ?_
      refine m_if2 (t := 24) (pc' := 20) cd_Mo_begin rfl rfl rfl (fun c17 => ?_) (fun c17 => ?_)
      · have c17 : x = y := c17
        refine m_k1 (v := 0) (pc' := 25) cd_Mo_begin rfl (by decide) rfl ?_
        refine m_k1 (v := 1) (pc' := 26) cd_Mo_begin rfl (by decide) rfl ?_
        refine m_ild (pc' := 27) cd_Mo_begin rfl (Or.inr ⟨_, rfl, rfl, rfl⟩) l1 rfl ?_
        refine m_ci (pc' := 30) cd_Mo_begin rfl rfl rfl rfl rfl cd_Mo_refused rfl (Nat.le_of_ble_eq_true rfl) (m_refusedN ?_)
        show mg _ _ _ 30 _ [.int (-1)] _ _
        refine m_ist (pc' := 31) cd_Mo_begin rfl (Or.inr ⟨_, rfl, rfl, rfl⟩) (by decide) rfl (fun lv el => ?_)
        have l0 := tm_lk el l0 rfl (by decide)
        have l1 := tm_lk el l1 rfl (by decide)
        have l2 := tm_lk el l2 rfl (by decide)
        have l3 : lv.lookup 3 = some (.int (-1)) := tm_lks el
        clear el
        refine m_ild (pc' := 32) cd_Mo_begin rfl (Or.inr ⟨_, rfl, rfl, rfl⟩) l3 rfl ?_
        refine m_if1 (t := 37) (pc' := 35) cd_Mo_begin rfl rfl rfl (fun c32 => ?_) (fun c32 => ?_)
        · exact absurd (show ((-1) : Int32) = 0 from c32) (by decide)
        · have c32 : ¬ ((-1) : Int32) = 0 := c32
          refine m_ild (pc' := 36) cd_Mo_begin rfl (Or.inr ⟨_, rfl, rfl, rfl⟩) l3 rfl ?_
          exact m_reti cd_Mo_begin rfl ⟨_, rfl, kk⟩
      · have c17 : ¬ x = y := c17
        exact absurd hB (fun q => q.elim (fun q => Bool.noConfusion (q.symm.trans (c5))) (fun q => q.elim (fun q => Bool.noConfusion (q.symm.trans (c12))) (fun q => c17 q)))
set_option maxRecDepth 100000 in
theorem mo_sendB {sc : tm_X} {d : Nat} {f : Nat → Int32} {A : Nat → Nat → Int32} {x y : Int32} {Q : Int32 → MS → Prop} (hB : inR x 6 = false ∨ inR y 6 = false ∨ x = y) (kk : Q (-1) (fset f 21 (f 21 + 1), A)) : mGi sc (d + 2) 223 [.ref 1482, .int x, .int y] (f, A) Q := by
  show mg sc (d + 2) 223 0 [(0, .ref 1482), (1, .int x), (2, .int y)] [] (f, A) _
  generalize elv : ([(0, .ref 1482), (1, .int x), (2, .int y)] : tm_L) = lv
  have l0 : lv.lookup 0 = some (.ref 1482) := by rw [← elv]; rfl
  have l1 : lv.lookup 1 = some (.int x) := by rw [← elv]; rfl
  have l2 : lv.lookup 2 = some (.int y) := by rw [← elv]; rfl
  clear elv
  refine m_ald (pc' := 1) cd_Mo_send rfl (Or.inr ⟨_, rfl, rfl, rfl⟩) l0 rfl rfl ?_
  refine m_ild (pc' := 2) cd_Mo_send rfl (Or.inr ⟨_, rfl, rfl, rfl⟩) l1 rfl ?_
  refine m_si (pc' := 5) cd_Mo_send rfl rfl rfl rfl rfl cd_Mo_isDevice rfl (Nat.le_of_ble_eq_true rfl) (m_isDevice ?_)
  show mg _ _ _ 5 _ [.int (bz (inR x 6)), .ref 1482] _ _
  refine m_if1 (t := 24) (pc' := 8) cd_Mo_send rfl rfl rfl (fun c5 => ?_) (fun c5 => ?_)
  · have c5 : (inR x 6) = false := bz_f c5
    refine m_k1 (v := 0) (pc' := 25) cd_Mo_send rfl (by decide) rfl ?_
    refine m_k1 (v := 1) (pc' := 26) cd_Mo_send rfl (by decide) rfl ?_
    refine m_ild (pc' := 27) cd_Mo_send rfl (Or.inr ⟨_, rfl, rfl, rfl⟩) l1 rfl ?_
    refine m_ci (pc' := 30) cd_Mo_send rfl rfl rfl rfl rfl cd_Mo_refused rfl (Nat.le_of_ble_eq_true rfl) (m_refusedN ?_)
    show mg _ _ _ 30 _ [.int (-1)] _ _
    refine m_ist (pc' := 31) cd_Mo_send rfl (Or.inr ⟨_, rfl, rfl, rfl⟩) (by decide) rfl (fun lv el => ?_)
    have l0 := tm_lk el l0 rfl (by decide)
    have l1 := tm_lk el l1 rfl (by decide)
    have l2 := tm_lk el l2 rfl (by decide)
    have l3 : lv.lookup 3 = some (.int (-1)) := tm_lks el
    clear el
    refine m_ild (pc' := 32) cd_Mo_send rfl (Or.inr ⟨_, rfl, rfl, rfl⟩) l3 rfl ?_
    refine m_if1 (t := 37) (pc' := 35) cd_Mo_send rfl rfl rfl (fun c32 => ?_) (fun c32 => ?_)
    · exact absurd (show ((-1) : Int32) = 0 from c32) (by decide)
    · have c32 : ¬ ((-1) : Int32) = 0 := c32
      refine m_ild (pc' := 36) cd_Mo_send rfl (Or.inr ⟨_, rfl, rfl, rfl⟩) l3 rfl ?_
      exact m_reti cd_Mo_send rfl ⟨_, rfl, kk⟩
  · have c5 : (inR x 6) = true := bz_t c5
    refine m_ild (pc' := 9) cd_Mo_send rfl (Or.inr ⟨_, rfl, rfl, rfl⟩) l2 rfl ?_
    refine m_si (pc' := 12) cd_Mo_send rfl rfl rfl rfl rfl cd_Mo_isDevice rfl (Nat.le_of_ble_eq_true rfl) (m_isDevice ?_)
    show mg _ _ _ 12 _ [.int (bz (inR y 6)), .ref 1482] _ _
    refine m_if1 (t := 24) (pc' := 15) cd_Mo_send rfl rfl rfl (fun c12 => ?_) (fun c12 => ?_)
    · have c12 : (inR y 6) = false := bz_f c12
      refine m_k1 (v := 0) (pc' := 25) cd_Mo_send rfl (by decide) rfl ?_
      refine m_k1 (v := 1) (pc' := 26) cd_Mo_send rfl (by decide) rfl ?_
      refine m_ild (pc' := 27) cd_Mo_send rfl (Or.inr ⟨_, rfl, rfl, rfl⟩) l1 rfl ?_
      refine m_ci (pc' := 30) cd_Mo_send rfl rfl rfl rfl rfl cd_Mo_refused rfl (Nat.le_of_ble_eq_true rfl) (m_refusedN ?_)
      show mg _ _ _ 30 _ [.int (-1)] _ _
      refine m_ist (pc' := 31) cd_Mo_send rfl (Or.inr ⟨_, rfl, rfl, rfl⟩) (by decide) rfl (fun lv el => ?_)
      have l0 := tm_lk el l0 rfl (by decide)
      have l1 := tm_lk el l1 rfl (by decide)
      have l2 := tm_lk el l2 rfl (by decide)
      have l3 : lv.lookup 3 = some (.int (-1)) := tm_lks el
      clear el
      refine m_ild (pc' := 32) cd_Mo_send rfl (Or.inr ⟨_, rfl, rfl, rfl⟩) l3 rfl ?_
      refine m_if1 (t := 37) (pc' := 35) cd_Mo_send rfl rfl rfl (fun c32 => ?_) (fun c32 => ?_)
      · exact absurd (show ((-1) : Int32) = 0 from c32) (by decide)
      · have c32 : ¬ ((-1) : Int32) = 0 := c32
        refine m_ild (pc' := 36) cd_Mo_send rfl (Or.inr ⟨_, rfl, rfl, rfl⟩) l3 rfl ?_
        exact m_reti cd_Mo_send rfl ⟨_, rfl, kk⟩
    · have c12 : (inR y 6) = true := bz_t c12
      refine m_ild (pc' := 16) cd_Mo_send rfl (Or.inr ⟨_, rfl, rfl, rfl⟩) l1 rfl ?_
      refine m_ild (pc' := 17) cd_Mo_send rfl (Or.inr ⟨_, rfl, rfl, rfl⟩) l2 rfl ?_
      refine m_if2 (t := 24) (pc' := 20) cd_Mo_send rfl rfl rfl (fun c17 => ?_) (fun c17 => ?_)
      · have c17 : x = y := c17
        refine m_k1 (v := 0) (pc' := 25) cd_Mo_send rfl (by decide) rfl ?_
        refine m_k1 (v := 1) (pc' := 26) cd_Mo_send rfl (by decide) rfl ?_
        refine m_ild (pc' := 27) cd_Mo_send rfl (Or.inr ⟨_, rfl, rfl, rfl⟩) l1 rfl ?_
        refine m_ci (pc' := 30) cd_Mo_send rfl rfl rfl rfl rfl cd_Mo_refused rfl (Nat.le_of_ble_eq_true rfl) (m_refusedN ?_)
        show mg _ _ _ 30 _ [.int (-1)] _ _
        refine m_ist (pc' := 31) cd_Mo_send rfl (Or.inr ⟨_, rfl, rfl, rfl⟩) (by decide) rfl (fun lv el => ?_)
        have l0 := tm_lk el l0 rfl (by decide)
        have l1 := tm_lk el l1 rfl (by decide)
        have l2 := tm_lk el l2 rfl (by decide)
        have l3 : lv.lookup 3 = some (.int (-1)) := tm_lks el
        clear el
        refine m_ild (pc' := 32) cd_Mo_send rfl (Or.inr ⟨_, rfl, rfl, rfl⟩) l3 rfl ?_
        refine m_if1 (t := 37) (pc' := 35) cd_Mo_send rfl rfl rfl (fun c32 => ?_) (fun c32 => ?_)
        · exact absurd (show ((-1) : Int32) = 0 from c32) (by decide)
        · have c32 : ¬ ((-1) : Int32) = 0 := c32
          refine m_ild (pc' := 36) cd_Mo_send rfl (Or.inr ⟨_, rfl, rfl, rfl⟩) l3 rfl ?_
          exact m_reti cd_Mo_send rfl ⟨_, rfl, kk⟩
      · have c17 : ¬ x = y := c17
        exact absurd hB (fun q => q.elim (fun q => Bool.noConfusion (q.symm.trans (c5))) (fun q => q.elim (fun q => Bool.noConfusion (q.symm.trans (c12))) (fun q => c17 q)))
set_option maxRecDepth 100000 in
theorem mo_list2B {sc : tm_X} {d : Nat} {f : Nat → Int32} {A : Nat → Nat → Int32} {x y : Int32} {Q : Int32 → MS → Prop} (hB : inR x 4 = false ∨ inR y 64 = false) (kk : Q (-1) (fset f 21 (f 21 + 1), A)) : mGi sc (d + 2) 226 [.ref 1482, .int x, .int y] (f, A) Q := by
  show mg sc (d + 2) 226 0 [(0, .ref 1482), (1, .int x), (2, .int y)] [] (f, A) _
  generalize elv : ([(0, .ref 1482), (1, .int x), (2, .int y)] : tm_L) = lv
  have l0 : lv.lookup 0 = some (.ref 1482) := by rw [← elv]; rfl
  have l1 : lv.lookup 1 = some (.int x) := by rw [← elv]; rfl
  have l2 : lv.lookup 2 = some (.int y) := by rw [← elv]; rfl
  clear elv
  refine m_ald (pc' := 1) cd_Mo_list2 rfl (Or.inr ⟨_, rfl, rfl, rfl⟩) l0 rfl rfl ?_
  refine m_ild (pc' := 2) cd_Mo_list2 rfl (Or.inr ⟨_, rfl, rfl, rfl⟩) l1 rfl ?_
  refine m_if1 (t := 24) (pc' := 5) cd_Mo_list2 rfl rfl rfl (fun c2 => ?_) (fun c2 => ?_)
  · have c2 : x < 0 := c2
    refine m_k1 (v := 0) (pc' := 25) cd_Mo_list2 rfl (by decide) rfl ?_
    refine m_k1 (v := 1) (pc' := 26) cd_Mo_list2 rfl (by decide) rfl ?_
    refine m_ild (pc' := 27) cd_Mo_list2 rfl (Or.inr ⟨_, rfl, rfl, rfl⟩) l1 rfl ?_
    refine m_if1 (t := 35) (pc' := 30) cd_Mo_list2 rfl rfl rfl (fun c27 => ?_) (fun c27 => ?_)
    · have c27 : x < 0 := c27
      refine m_k1 (v := 0) (pc' := 36) cd_Mo_list2 rfl (by decide) rfl ?_
      refine m_pure (pc' := 40) (st' := [.int 0, .int 1, .int 0, .ref 1482]) cd_Mo_list2 rfl rfl (fun _ _ => rfl) ?_
      refine m_ci (pc' := 43) cd_Mo_list2 rfl rfl rfl rfl rfl cd_Mo_refused rfl (Nat.le_of_ble_eq_true rfl) (m_refusedN ?_)
      show mg _ _ _ 43 _ [.int (-1)] _ _
      refine m_ist (pc' := 44) cd_Mo_list2 rfl (Or.inr ⟨_, rfl, rfl, rfl⟩) (by decide) rfl (fun lv el => ?_)
      have l0 := tm_lk el l0 rfl (by decide)
      have l1 := tm_lk el l1 rfl (by decide)
      have l2 := tm_lk el l2 rfl (by decide)
      have l3 : lv.lookup 3 = some (.int (-1)) := tm_lks el
      clear el
      refine m_ild (pc' := 45) cd_Mo_list2 rfl (Or.inr ⟨_, rfl, rfl, rfl⟩) l3 rfl ?_
      refine m_if1 (t := 50) (pc' := 48) cd_Mo_list2 rfl rfl rfl (fun c45 => ?_) (fun c45 => ?_)
      · exact absurd (show ((-1) : Int32) = 0 from c45) (by decide)
      · have c45 : ¬ ((-1) : Int32) = 0 := c45
        refine m_ild (pc' := 49) cd_Mo_list2 rfl (Or.inr ⟨_, rfl, rfl, rfl⟩) l3 rfl ?_
        exact m_reti cd_Mo_list2 rfl ⟨_, rfl, kk⟩
    · have c27 : ¬ x < 0 := c27
      refine m_ild (pc' := 31) cd_Mo_list2 rfl (Or.inr ⟨_, rfl, rfl, rfl⟩) l1 rfl ?_
      refine m_k1 (v := 4) (pc' := 32) cd_Mo_list2 rfl (by decide) rfl ?_
      refine m_if2 (t := 39) (pc' := 35) cd_Mo_list2 rfl rfl rfl (fun c32 => ?_) (fun c32 => ?_)
      · have c32 : x < 4 := c32
        refine m_ild (pc' := 40) cd_Mo_list2 rfl (Or.inr ⟨_, rfl, rfl, rfl⟩) l1 rfl ?_
        refine m_ci (pc' := 43) cd_Mo_list2 rfl rfl rfl rfl rfl cd_Mo_refused rfl (Nat.le_of_ble_eq_true rfl) (m_refusedN ?_)
        show mg _ _ _ 43 _ [.int (-1)] _ _
        refine m_ist (pc' := 44) cd_Mo_list2 rfl (Or.inr ⟨_, rfl, rfl, rfl⟩) (by decide) rfl (fun lv el => ?_)
        have l0 := tm_lk el l0 rfl (by decide)
        have l1 := tm_lk el l1 rfl (by decide)
        have l2 := tm_lk el l2 rfl (by decide)
        have l3 : lv.lookup 3 = some (.int (-1)) := tm_lks el
        clear el
        refine m_ild (pc' := 45) cd_Mo_list2 rfl (Or.inr ⟨_, rfl, rfl, rfl⟩) l3 rfl ?_
        refine m_if1 (t := 50) (pc' := 48) cd_Mo_list2 rfl rfl rfl (fun c45 => ?_) (fun c45 => ?_)
        · exact absurd (show ((-1) : Int32) = 0 from c45) (by decide)
        · have c45 : ¬ ((-1) : Int32) = 0 := c45
          refine m_ild (pc' := 49) cd_Mo_list2 rfl (Or.inr ⟨_, rfl, rfl, rfl⟩) l3 rfl ?_
          exact m_reti cd_Mo_list2 rfl ⟨_, rfl, kk⟩
      · have c32 : ¬ x < 4 := c32
        refine m_k1 (v := 0) (pc' := 36) cd_Mo_list2 rfl (by decide) rfl ?_
        refine m_pure (pc' := 40) (st' := [.int 0, .int 1, .int 0, .ref 1482]) cd_Mo_list2 rfl rfl (fun _ _ => rfl) ?_
        refine m_ci (pc' := 43) cd_Mo_list2 rfl rfl rfl rfl rfl cd_Mo_refused rfl (Nat.le_of_ble_eq_true rfl) (m_refusedN ?_)
        show mg _ _ _ 43 _ [.int (-1)] _ _
        refine m_ist (pc' := 44) cd_Mo_list2 rfl (Or.inr ⟨_, rfl, rfl, rfl⟩) (by decide) rfl (fun lv el => ?_)
        have l0 := tm_lk el l0 rfl (by decide)
        have l1 := tm_lk el l1 rfl (by decide)
        have l2 := tm_lk el l2 rfl (by decide)
        have l3 : lv.lookup 3 = some (.int (-1)) := tm_lks el
        clear el
        refine m_ild (pc' := 45) cd_Mo_list2 rfl (Or.inr ⟨_, rfl, rfl, rfl⟩) l3 rfl ?_
        refine m_if1 (t := 50) (pc' := 48) cd_Mo_list2 rfl rfl rfl (fun c45 => ?_) (fun c45 => ?_)
        · exact absurd (show ((-1) : Int32) = 0 from c45) (by decide)
        · have c45 : ¬ ((-1) : Int32) = 0 := c45
          refine m_ild (pc' := 49) cd_Mo_list2 rfl (Or.inr ⟨_, rfl, rfl, rfl⟩) l3 rfl ?_
          exact m_reti cd_Mo_list2 rfl ⟨_, rfl, kk⟩
  · have c2 : ¬ x < 0 := c2
    refine m_ild (pc' := 6) cd_Mo_list2 rfl (Or.inr ⟨_, rfl, rfl, rfl⟩) l1 rfl ?_
    refine m_k1 (v := 4) (pc' := 7) cd_Mo_list2 rfl (by decide) rfl ?_
    refine m_if2 (t := 24) (pc' := 10) cd_Mo_list2 rfl rfl rfl (fun c7 => ?_) (fun c7 => ?_)
    · have c7 : (4 : Int32) ≤ x := c7
      refine m_k1 (v := 0) (pc' := 25) cd_Mo_list2 rfl (by decide) rfl ?_
      refine m_k1 (v := 1) (pc' := 26) cd_Mo_list2 rfl (by decide) rfl ?_
      refine m_ild (pc' := 27) cd_Mo_list2 rfl (Or.inr ⟨_, rfl, rfl, rfl⟩) l1 rfl ?_
      refine m_if1 (t := 35) (pc' := 30) cd_Mo_list2 rfl rfl rfl (fun c27 => ?_) (fun c27 => ?_)
      · have c27 : x < 0 := c27
        refine m_k1 (v := 0) (pc' := 36) cd_Mo_list2 rfl (by decide) rfl ?_
        refine m_pure (pc' := 40) (st' := [.int 0, .int 1, .int 0, .ref 1482]) cd_Mo_list2 rfl rfl (fun _ _ => rfl) ?_
        refine m_ci (pc' := 43) cd_Mo_list2 rfl rfl rfl rfl rfl cd_Mo_refused rfl (Nat.le_of_ble_eq_true rfl) (m_refusedN ?_)
        show mg _ _ _ 43 _ [.int (-1)] _ _
        refine m_ist (pc' := 44) cd_Mo_list2 rfl (Or.inr ⟨_, rfl, rfl, rfl⟩) (by decide) rfl (fun lv el => ?_)
        have l0 := tm_lk el l0 rfl (by decide)
        have l1 := tm_lk el l1 rfl (by decide)
        have l2 := tm_lk el l2 rfl (by decide)
        have l3 : lv.lookup 3 = some (.int (-1)) := tm_lks el
        clear el
        refine m_ild (pc' := 45) cd_Mo_list2 rfl (Or.inr ⟨_, rfl, rfl, rfl⟩) l3 rfl ?_
        refine m_if1 (t := 50) (pc' := 48) cd_Mo_list2 rfl rfl rfl (fun c45 => ?_) (fun c45 => ?_)
        · exact absurd (show ((-1) : Int32) = 0 from c45) (by decide)
        · have c45 : ¬ ((-1) : Int32) = 0 := c45
          refine m_ild (pc' := 49) cd_Mo_list2 rfl (Or.inr ⟨_, rfl, rfl, rfl⟩) l3 rfl ?_
          exact m_reti cd_Mo_list2 rfl ⟨_, rfl, kk⟩
      · have c27 : ¬ x < 0 := c27
        refine m_ild (pc' := 31) cd_Mo_list2 rfl (Or.inr ⟨_, rfl, rfl, rfl⟩) l1 rfl ?_
        refine m_k1 (v := 4) (pc' := 32) cd_Mo_list2 rfl (by decide) rfl ?_
        refine m_if2 (t := 39) (pc' := 35) cd_Mo_list2 rfl rfl rfl (fun c32 => ?_) (fun c32 => ?_)
        · have c32 : x < 4 := c32
          refine m_ild (pc' := 40) cd_Mo_list2 rfl (Or.inr ⟨_, rfl, rfl, rfl⟩) l1 rfl ?_
          refine m_ci (pc' := 43) cd_Mo_list2 rfl rfl rfl rfl rfl cd_Mo_refused rfl (Nat.le_of_ble_eq_true rfl) (m_refusedN ?_)
          show mg _ _ _ 43 _ [.int (-1)] _ _
          refine m_ist (pc' := 44) cd_Mo_list2 rfl (Or.inr ⟨_, rfl, rfl, rfl⟩) (by decide) rfl (fun lv el => ?_)
          have l0 := tm_lk el l0 rfl (by decide)
          have l1 := tm_lk el l1 rfl (by decide)
          have l2 := tm_lk el l2 rfl (by decide)
          have l3 : lv.lookup 3 = some (.int (-1)) := tm_lks el
          clear el
          refine m_ild (pc' := 45) cd_Mo_list2 rfl (Or.inr ⟨_, rfl, rfl, rfl⟩) l3 rfl ?_
          refine m_if1 (t := 50) (pc' := 48) cd_Mo_list2 rfl rfl rfl (fun c45 => ?_) (fun c45 => ?_)
          · exact absurd (show ((-1) : Int32) = 0 from c45) (by decide)
          · have c45 : ¬ ((-1) : Int32) = 0 := c45
            refine m_ild (pc' := 49) cd_Mo_list2 rfl (Or.inr ⟨_, rfl, rfl, rfl⟩) l3 rfl ?_
            exact m_reti cd_Mo_list2 rfl ⟨_, rfl, kk⟩
        · have c32 : ¬ x < 4 := c32
          refine m_k1 (v := 0) (pc' := 36) cd_Mo_list2 rfl (by decide) rfl ?_
          refine m_pure (pc' := 40) (st' := [.int 0, .int 1, .int 0, .ref 1482]) cd_Mo_list2 rfl rfl (fun _ _ => rfl) ?_
          refine m_ci (pc' := 43) cd_Mo_list2 rfl rfl rfl rfl rfl cd_Mo_refused rfl (Nat.le_of_ble_eq_true rfl) (m_refusedN ?_)
          show mg _ _ _ 43 _ [.int (-1)] _ _
          refine m_ist (pc' := 44) cd_Mo_list2 rfl (Or.inr ⟨_, rfl, rfl, rfl⟩) (by decide) rfl (fun lv el => ?_)
          have l0 := tm_lk el l0 rfl (by decide)
          have l1 := tm_lk el l1 rfl (by decide)
          have l2 := tm_lk el l2 rfl (by decide)
          have l3 : lv.lookup 3 = some (.int (-1)) := tm_lks el
          clear el
          refine m_ild (pc' := 45) cd_Mo_list2 rfl (Or.inr ⟨_, rfl, rfl, rfl⟩) l3 rfl ?_
          refine m_if1 (t := 50) (pc' := 48) cd_Mo_list2 rfl rfl rfl (fun c45 => ?_) (fun c45 => ?_)
          · exact absurd (show ((-1) : Int32) = 0 from c45) (by decide)
          · have c45 : ¬ ((-1) : Int32) = 0 := c45
            refine m_ild (pc' := 49) cd_Mo_list2 rfl (Or.inr ⟨_, rfl, rfl, rfl⟩) l3 rfl ?_
            exact m_reti cd_Mo_list2 rfl ⟨_, rfl, kk⟩
    · have c7 : ¬ (4 : Int32) ≤ x := c7
      refine m_ild (pc' := 11) cd_Mo_list2 rfl (Or.inr ⟨_, rfl, rfl, rfl⟩) l2 rfl ?_
      refine m_if1 (t := 24) (pc' := 14) cd_Mo_list2 rfl rfl rfl (fun c11 => ?_) (fun c11 => ?_)
      · have c11 : y < 0 := c11
        refine m_k1 (v := 0) (pc' := 25) cd_Mo_list2 rfl (by decide) rfl ?_
        refine m_k1 (v := 1) (pc' := 26) cd_Mo_list2 rfl (by decide) rfl ?_
        refine m_ild (pc' := 27) cd_Mo_list2 rfl (Or.inr ⟨_, rfl, rfl, rfl⟩) l1 rfl ?_
        refine m_if1 (t := 35) (pc' := 30) cd_Mo_list2 rfl rfl rfl (fun c27 => ?_) (fun c27 => ?_)
        · have c27 : x < 0 := c27
          refine m_k1 (v := 0) (pc' := 36) cd_Mo_list2 rfl (by decide) rfl ?_
          refine m_pure (pc' := 40) (st' := [.int 0, .int 1, .int 0, .ref 1482]) cd_Mo_list2 rfl rfl (fun _ _ => rfl) ?_
          refine m_ci (pc' := 43) cd_Mo_list2 rfl rfl rfl rfl rfl cd_Mo_refused rfl (Nat.le_of_ble_eq_true rfl) (m_refusedN ?_)
          show mg _ _ _ 43 _ [.int (-1)] _ _
          refine m_ist (pc' := 44) cd_Mo_list2 rfl (Or.inr ⟨_, rfl, rfl, rfl⟩) (by decide) rfl (fun lv el => ?_)
          have l0 := tm_lk el l0 rfl (by decide)
          have l1 := tm_lk el l1 rfl (by decide)
          have l2 := tm_lk el l2 rfl (by decide)
          have l3 : lv.lookup 3 = some (.int (-1)) := tm_lks el
          clear el
          refine m_ild (pc' := 45) cd_Mo_list2 rfl (Or.inr ⟨_, rfl, rfl, rfl⟩) l3 rfl ?_
          refine m_if1 (t := 50) (pc' := 48) cd_Mo_list2 rfl rfl rfl (fun c45 => ?_) (fun c45 => ?_)
          · exact absurd (show ((-1) : Int32) = 0 from c45) (by decide)
          · have c45 : ¬ ((-1) : Int32) = 0 := c45
            refine m_ild (pc' := 49) cd_Mo_list2 rfl (Or.inr ⟨_, rfl, rfl, rfl⟩) l3 rfl ?_
            exact m_reti cd_Mo_list2 rfl ⟨_, rfl, kk⟩
        · have c27 : ¬ x < 0 := c27
          refine m_ild (pc' := 31) cd_Mo_list2 rfl (Or.inr ⟨_, rfl, rfl, rfl⟩) l1 rfl ?_
          refine m_k1 (v := 4) (pc' := 32) cd_Mo_list2 rfl (by decide) rfl ?_
          refine m_if2 (t := 39) (pc' := 35) cd_Mo_list2 rfl rfl rfl (fun c32 => ?_) (fun c32 => ?_)
          · have c32 : x < 4 := c32
            refine m_ild (pc' := 40) cd_Mo_list2 rfl (Or.inr ⟨_, rfl, rfl, rfl⟩) l1 rfl ?_
            refine m_ci (pc' := 43) cd_Mo_list2 rfl rfl rfl rfl rfl cd_Mo_refused rfl (Nat.le_of_ble_eq_true rfl) (m_refusedN ?_)
            show mg _ _ _ 43 _ [.int (-1)] _ _
            refine m_ist (pc' := 44) cd_Mo_list2 rfl (Or.inr ⟨_, rfl, rfl, rfl⟩) (by decide) rfl (fun lv el => ?_)
            have l0 := tm_lk el l0 rfl (by decide)
            have l1 := tm_lk el l1 rfl (by decide)
            have l2 := tm_lk el l2 rfl (by decide)
            have l3 : lv.lookup 3 = some (.int (-1)) := tm_lks el
            clear el
            refine m_ild (pc' := 45) cd_Mo_list2 rfl (Or.inr ⟨_, rfl, rfl, rfl⟩) l3 rfl ?_
            refine m_if1 (t := 50) (pc' := 48) cd_Mo_list2 rfl rfl rfl (fun c45 => ?_) (fun c45 => ?_)
            · exact absurd (show ((-1) : Int32) = 0 from c45) (by decide)
            · have c45 : ¬ ((-1) : Int32) = 0 := c45
              refine m_ild (pc' := 49) cd_Mo_list2 rfl (Or.inr ⟨_, rfl, rfl, rfl⟩) l3 rfl ?_
              exact m_reti cd_Mo_list2 rfl ⟨_, rfl, kk⟩
          · have c32 : ¬ x < 4 := c32
            refine m_k1 (v := 0) (pc' := 36) cd_Mo_list2 rfl (by decide) rfl ?_
            refine m_pure (pc' := 40) (st' := [.int 0, .int 1, .int 0, .ref 1482]) cd_Mo_list2 rfl rfl (fun _ _ => rfl) ?_
            refine m_ci (pc' := 43) cd_Mo_list2 rfl rfl rfl rfl rfl cd_Mo_refused rfl (Nat.le_of_ble_eq_true rfl) (m_refusedN ?_)
            show mg _ _ _ 43 _ [.int (-1)] _ _
            refine m_ist (pc' := 44) cd_Mo_list2 rfl (Or.inr ⟨_, rfl, rfl, rfl⟩) (by decide) rfl (fun lv el => ?_)
            have l0 := tm_lk el l0 rfl (by decide)
            have l1 := tm_lk el l1 rfl (by decide)
            have l2 := tm_lk el l2 rfl (by decide)
            have l3 : lv.lookup 3 = some (.int (-1)) := tm_lks el
            clear el
            refine m_ild (pc' := 45) cd_Mo_list2 rfl (Or.inr ⟨_, rfl, rfl, rfl⟩) l3 rfl ?_
            refine m_if1 (t := 50) (pc' := 48) cd_Mo_list2 rfl rfl rfl (fun c45 => ?_) (fun c45 => ?_)
            · exact absurd (show ((-1) : Int32) = 0 from c45) (by decide)
            · have c45 : ¬ ((-1) : Int32) = 0 := c45
              refine m_ild (pc' := 49) cd_Mo_list2 rfl (Or.inr ⟨_, rfl, rfl, rfl⟩) l3 rfl ?_
              exact m_reti cd_Mo_list2 rfl ⟨_, rfl, kk⟩
      · have c11 : ¬ y < 0 := c11
        refine m_ild (pc' := 15) cd_Mo_list2 rfl (Or.inr ⟨_, rfl, rfl, rfl⟩) l2 rfl ?_
        refine m_k2 (v := 64) (pc' := 17) cd_Mo_list2 rfl (by decide) rfl ?_
        refine m_if2 (t := 24) (pc' := 20) cd_Mo_list2 rfl rfl rfl (fun c17 => ?_) (fun c17 => ?_)
        · have c17 : (64 : Int32) ≤ y := c17
          refine m_k1 (v := 0) (pc' := 25) cd_Mo_list2 rfl (by decide) rfl ?_
          refine m_k1 (v := 1) (pc' := 26) cd_Mo_list2 rfl (by decide) rfl ?_
          refine m_ild (pc' := 27) cd_Mo_list2 rfl (Or.inr ⟨_, rfl, rfl, rfl⟩) l1 rfl ?_
          refine m_if1 (t := 35) (pc' := 30) cd_Mo_list2 rfl rfl rfl (fun c27 => ?_) (fun c27 => ?_)
          · have c27 : x < 0 := c27
            refine m_k1 (v := 0) (pc' := 36) cd_Mo_list2 rfl (by decide) rfl ?_
            refine m_pure (pc' := 40) (st' := [.int 0, .int 1, .int 0, .ref 1482]) cd_Mo_list2 rfl rfl (fun _ _ => rfl) ?_
            refine m_ci (pc' := 43) cd_Mo_list2 rfl rfl rfl rfl rfl cd_Mo_refused rfl (Nat.le_of_ble_eq_true rfl) (m_refusedN ?_)
            show mg _ _ _ 43 _ [.int (-1)] _ _
            refine m_ist (pc' := 44) cd_Mo_list2 rfl (Or.inr ⟨_, rfl, rfl, rfl⟩) (by decide) rfl (fun lv el => ?_)
            have l0 := tm_lk el l0 rfl (by decide)
            have l1 := tm_lk el l1 rfl (by decide)
            have l2 := tm_lk el l2 rfl (by decide)
            have l3 : lv.lookup 3 = some (.int (-1)) := tm_lks el
            clear el
            refine m_ild (pc' := 45) cd_Mo_list2 rfl (Or.inr ⟨_, rfl, rfl, rfl⟩) l3 rfl ?_
            refine m_if1 (t := 50) (pc' := 48) cd_Mo_list2 rfl rfl rfl (fun c45 => ?_) (fun c45 => ?_)
            · exact absurd (show ((-1) : Int32) = 0 from c45) (by decide)
            · have c45 : ¬ ((-1) : Int32) = 0 := c45
              refine m_ild (pc' := 49) cd_Mo_list2 rfl (Or.inr ⟨_, rfl, rfl, rfl⟩) l3 rfl ?_
              exact m_reti cd_Mo_list2 rfl ⟨_, rfl, kk⟩
          · have c27 : ¬ x < 0 := c27
            refine m_ild (pc' := 31) cd_Mo_list2 rfl (Or.inr ⟨_, rfl, rfl, rfl⟩) l1 rfl ?_
            refine m_k1 (v := 4) (pc' := 32) cd_Mo_list2 rfl (by decide) rfl ?_
            refine m_if2 (t := 39) (pc' := 35) cd_Mo_list2 rfl rfl rfl (fun c32 => ?_) (fun c32 => ?_)
            · have c32 : x < 4 := c32
              refine m_ild (pc' := 40) cd_Mo_list2 rfl (Or.inr ⟨_, rfl, rfl, rfl⟩) l1 rfl ?_
              refine m_ci (pc' := 43) cd_Mo_list2 rfl rfl rfl rfl rfl cd_Mo_refused rfl (Nat.le_of_ble_eq_true rfl) (m_refusedN ?_)
              show mg _ _ _ 43 _ [.int (-1)] _ _
              refine m_ist (pc' := 44) cd_Mo_list2 rfl (Or.inr ⟨_, rfl, rfl, rfl⟩) (by decide) rfl (fun lv el => ?_)
              have l0 := tm_lk el l0 rfl (by decide)
              have l1 := tm_lk el l1 rfl (by decide)
              have l2 := tm_lk el l2 rfl (by decide)
              have l3 : lv.lookup 3 = some (.int (-1)) := tm_lks el
              clear el
              refine m_ild (pc' := 45) cd_Mo_list2 rfl (Or.inr ⟨_, rfl, rfl, rfl⟩) l3 rfl ?_
              refine m_if1 (t := 50) (pc' := 48) cd_Mo_list2 rfl rfl rfl (fun c45 => ?_) (fun c45 => ?_)
              · exact absurd (show ((-1) : Int32) = 0 from c45) (by decide)
              · have c45 : ¬ ((-1) : Int32) = 0 := c45
                refine m_ild (pc' := 49) cd_Mo_list2 rfl (Or.inr ⟨_, rfl, rfl, rfl⟩) l3 rfl ?_
                exact m_reti cd_Mo_list2 rfl ⟨_, rfl, kk⟩
            · have c32 : ¬ x < 4 := c32
              refine m_k1 (v := 0) (pc' := 36) cd_Mo_list2 rfl (by decide) rfl ?_
              refine m_pure (pc' := 40) (st' := [.int 0, .int 1, .int 0, .ref 1482]) cd_Mo_list2 rfl rfl (fun _ _ => rfl) ?_
              refine m_ci (pc' := 43) cd_Mo_list2 rfl rfl rfl rfl rfl cd_Mo_refused rfl (Nat.le_of_ble_eq_true rfl) (m_refusedN ?_)
              show mg _ _ _ 43 _ [.int (-1)] _ _
              refine m_ist (pc' := 44) cd_Mo_list2 rfl (Or.inr ⟨_, rfl, rfl, rfl⟩) (by decide) rfl (fun lv el => ?_)
              have l0 := tm_lk el l0 rfl (by decide)
              have l1 := tm_lk el l1 rfl (by decide)
              have l2 := tm_lk el l2 rfl (by decide)
              have l3 : lv.lookup 3 = some (.int (-1)) := tm_lks el
              clear el
              refine m_ild (pc' := 45) cd_Mo_list2 rfl (Or.inr ⟨_, rfl, rfl, rfl⟩) l3 rfl ?_
              refine m_if1 (t := 50) (pc' := 48) cd_Mo_list2 rfl rfl rfl (fun c45 => ?_) (fun c45 => ?_)
              · exact absurd (show ((-1) : Int32) = 0 from c45) (by decide)
              · have c45 : ¬ ((-1) : Int32) = 0 := c45
                refine m_ild (pc' := 49) cd_Mo_list2 rfl (Or.inr ⟨_, rfl, rfl, rfl⟩) l3 rfl ?_
                exact m_reti cd_Mo_list2 rfl ⟨_, rfl, kk⟩
        · have c17 : ¬ (64 : Int32) ≤ y := c17
          exact absurd hB (fun q => q.elim (fun q => Bool.noConfusion (q.symm.trans (inR_t c2 c7))) (fun q => Bool.noConfusion (q.symm.trans (inR_t c11 c17))))
set_option maxRecDepth 100000 in
theorem mo_postB {sc : tm_X} {d : Nat} {f : Nat → Int32} {A : Nat → Nat → Int32} {x y : Int32} {Q : Int32 → MS → Prop} (hB : inR x 6 = false ∨ inR y 4 = false) (kk : Q (-1) (fset f 21 (f 21 + 1), A)) : mGi sc (d + 2) 228 [.ref 1482, .int x, .int y] (f, A) Q := by
  show mg sc (d + 2) 228 0 [(0, .ref 1482), (1, .int x), (2, .int y)] [] (f, A) _
  generalize elv : ([(0, .ref 1482), (1, .int x), (2, .int y)] : tm_L) = lv
  have l0 : lv.lookup 0 = some (.ref 1482) := by rw [← elv]; rfl
  have l1 : lv.lookup 1 = some (.int x) := by rw [← elv]; rfl
  have l2 : lv.lookup 2 = some (.int y) := by rw [← elv]; rfl
  clear elv
  refine m_ald (pc' := 1) cd_Mo_post rfl (Or.inr ⟨_, rfl, rfl, rfl⟩) l0 rfl rfl ?_
  refine m_ild (pc' := 2) cd_Mo_post rfl (Or.inr ⟨_, rfl, rfl, rfl⟩) l1 rfl ?_
  refine m_si (pc' := 5) cd_Mo_post rfl rfl rfl rfl rfl cd_Mo_isDevice rfl (Nat.le_of_ble_eq_true rfl) (m_isDevice ?_)
  show mg _ _ _ 5 _ [.int (bz (inR x 6)), .ref 1482] _ _
  refine m_if1 (t := 21) (pc' := 8) cd_Mo_post rfl rfl rfl (fun c5 => ?_) (fun c5 => ?_)
  · have c5 : (inR x 6) = false := bz_f c5
    refine m_k1 (v := 0) (pc' := 22) cd_Mo_post rfl (by decide) rfl ?_
    refine m_k1 (v := 1) (pc' := 23) cd_Mo_post rfl (by decide) rfl ?_
    refine m_ild (pc' := 24) cd_Mo_post rfl (Or.inr ⟨_, rfl, rfl, rfl⟩) l1 rfl ?_
    refine m_si (pc' := 27) cd_Mo_post rfl rfl rfl rfl rfl cd_Mo_isDevice rfl (Nat.le_of_ble_eq_true rfl) (m_isDevice ?_)
    show mg _ _ _ 27 _ [.int (bz (inR x 6)), .int 1, .int 0, .ref 1482] _ _
    refine m_if1 (t := 34) (pc' := 30) cd_Mo_post rfl rfl rfl (fun c27 => ?_) (fun c27 => ?_)
    · have c27 : (inR x 6) = false := bz_f c27
      refine m_k1 (v := 0) (pc' := 35) cd_Mo_post rfl (by decide) rfl ?_
      refine m_ci (pc' := 38) cd_Mo_post rfl rfl rfl rfl rfl cd_Mo_refused rfl (Nat.le_of_ble_eq_true rfl) (m_refusedN ?_)
      show mg _ _ _ 38 _ [.int (-1)] _ _
      refine m_ist (pc' := 39) cd_Mo_post rfl (Or.inr ⟨_, rfl, rfl, rfl⟩) (by decide) rfl (fun lv el => ?_)
      have l0 := tm_lk el l0 rfl (by decide)
      have l1 := tm_lk el l1 rfl (by decide)
      have l2 := tm_lk el l2 rfl (by decide)
      have l3 : lv.lookup 3 = some (.int (-1)) := tm_lks el
      clear el
      refine m_ild (pc' := 40) cd_Mo_post rfl (Or.inr ⟨_, rfl, rfl, rfl⟩) l3 rfl ?_
      refine m_if1 (t := 45) (pc' := 43) cd_Mo_post rfl rfl rfl (fun c40 => ?_) (fun c40 => ?_)
      · exact absurd (show ((-1) : Int32) = 0 from c40) (by decide)
      · have c40 : ¬ ((-1) : Int32) = 0 := c40
        refine m_ild (pc' := 44) cd_Mo_post rfl (Or.inr ⟨_, rfl, rfl, rfl⟩) l3 rfl ?_
        exact m_reti cd_Mo_post rfl ⟨_, rfl, kk⟩
    · have c27 : (inR x 6) = true := bz_t c27
      refine m_ild (pc' := 31) cd_Mo_post rfl (Or.inr ⟨_, rfl, rfl, rfl⟩) l1 rfl ?_
      refine m_pure (pc' := 35) (st' := [.int x, .int 1, .int 0, .ref 1482]) cd_Mo_post rfl rfl (fun _ _ => rfl) ?_
      refine m_ci (pc' := 38) cd_Mo_post rfl rfl rfl rfl rfl cd_Mo_refused rfl (Nat.le_of_ble_eq_true rfl) (m_refusedN ?_)
      show mg _ _ _ 38 _ [.int (-1)] _ _
      refine m_ist (pc' := 39) cd_Mo_post rfl (Or.inr ⟨_, rfl, rfl, rfl⟩) (by decide) rfl (fun lv el => ?_)
      have l0 := tm_lk el l0 rfl (by decide)
      have l1 := tm_lk el l1 rfl (by decide)
      have l2 := tm_lk el l2 rfl (by decide)
      have l3 : lv.lookup 3 = some (.int (-1)) := tm_lks el
      clear el
      refine m_ild (pc' := 40) cd_Mo_post rfl (Or.inr ⟨_, rfl, rfl, rfl⟩) l3 rfl ?_
      refine m_if1 (t := 45) (pc' := 43) cd_Mo_post rfl rfl rfl (fun c40 => ?_) (fun c40 => ?_)
      · exact absurd (show ((-1) : Int32) = 0 from c40) (by decide)
      · have c40 : ¬ ((-1) : Int32) = 0 := c40
        refine m_ild (pc' := 44) cd_Mo_post rfl (Or.inr ⟨_, rfl, rfl, rfl⟩) l3 rfl ?_
        exact m_reti cd_Mo_post rfl ⟨_, rfl, kk⟩
  · have c5 : (inR x 6) = true := bz_t c5
    refine m_ild (pc' := 9) cd_Mo_post rfl (Or.inr ⟨_, rfl, rfl, rfl⟩) l2 rfl ?_
    refine m_if1 (t := 21) (pc' := 12) cd_Mo_post rfl rfl rfl (fun c9 => ?_) (fun c9 => ?_)
    · have c9 : y < 0 := c9
      refine m_k1 (v := 0) (pc' := 22) cd_Mo_post rfl (by decide) rfl ?_
      refine m_k1 (v := 1) (pc' := 23) cd_Mo_post rfl (by decide) rfl ?_
      refine m_ild (pc' := 24) cd_Mo_post rfl (Or.inr ⟨_, rfl, rfl, rfl⟩) l1 rfl ?_
      refine m_si (pc' := 27) cd_Mo_post rfl rfl rfl rfl rfl cd_Mo_isDevice rfl (Nat.le_of_ble_eq_true rfl) (m_isDevice ?_)
      show mg _ _ _ 27 _ [.int (bz (inR x 6)), .int 1, .int 0, .ref 1482] _ _
      refine m_if1 (t := 34) (pc' := 30) cd_Mo_post rfl rfl rfl (fun c27 => ?_) (fun c27 => ?_)
      · have c27 : (inR x 6) = false := bz_f c27
        refine m_k1 (v := 0) (pc' := 35) cd_Mo_post rfl (by decide) rfl ?_
        refine m_ci (pc' := 38) cd_Mo_post rfl rfl rfl rfl rfl cd_Mo_refused rfl (Nat.le_of_ble_eq_true rfl) (m_refusedN ?_)
        show mg _ _ _ 38 _ [.int (-1)] _ _
        refine m_ist (pc' := 39) cd_Mo_post rfl (Or.inr ⟨_, rfl, rfl, rfl⟩) (by decide) rfl (fun lv el => ?_)
        have l0 := tm_lk el l0 rfl (by decide)
        have l1 := tm_lk el l1 rfl (by decide)
        have l2 := tm_lk el l2 rfl (by decide)
        have l3 : lv.lookup 3 = some (.int (-1)) := tm_lks el
        clear el
        refine m_ild (pc' := 40) cd_Mo_post rfl (Or.inr ⟨_, rfl, rfl, rfl⟩) l3 rfl ?_
        refine m_if1 (t := 45) (pc' := 43) cd_Mo_post rfl rfl rfl (fun c40 => ?_) (fun c40 => ?_)
        · exact absurd (show ((-1) : Int32) = 0 from c40) (by decide)
        · have c40 : ¬ ((-1) : Int32) = 0 := c40
          refine m_ild (pc' := 44) cd_Mo_post rfl (Or.inr ⟨_, rfl, rfl, rfl⟩) l3 rfl ?_
          exact m_reti cd_Mo_post rfl ⟨_, rfl, kk⟩
      · have c27 : (inR x 6) = true := bz_t c27
        refine m_ild (pc' := 31) cd_Mo_post rfl (Or.inr ⟨_, rfl, rfl, rfl⟩) l1 rfl ?_
        refine m_pure (pc' := 35) (st' := [.int x, .int 1, .int 0, .ref 1482]) cd_Mo_post rfl rfl (fun _ _ => rfl) ?_
        refine m_ci (pc' := 38) cd_Mo_post rfl rfl rfl rfl rfl cd_Mo_refused rfl (Nat.le_of_ble_eq_true rfl) (m_refusedN ?_)
        show mg _ _ _ 38 _ [.int (-1)] _ _
        refine m_ist (pc' := 39) cd_Mo_post rfl (Or.inr ⟨_, rfl, rfl, rfl⟩) (by decide) rfl (fun lv el => ?_)
        have l0 := tm_lk el l0 rfl (by decide)
        have l1 := tm_lk el l1 rfl (by decide)
        have l2 := tm_lk el l2 rfl (by decide)
        have l3 : lv.lookup 3 = some (.int (-1)) := tm_lks el
        clear el
        refine m_ild (pc' := 40) cd_Mo_post rfl (Or.inr ⟨_, rfl, rfl, rfl⟩) l3 rfl ?_
        refine m_if1 (t := 45) (pc' := 43) cd_Mo_post rfl rfl rfl (fun c40 => ?_) (fun c40 => ?_)
        · exact absurd (show ((-1) : Int32) = 0 from c40) (by decide)
        · have c40 : ¬ ((-1) : Int32) = 0 := c40
          refine m_ild (pc' := 44) cd_Mo_post rfl (Or.inr ⟨_, rfl, rfl, rfl⟩) l3 rfl ?_
          exact m_reti cd_Mo_post rfl ⟨_, rfl, kk⟩
    · have c9 : ¬ y < 0 := c9
      refine m_ild (pc' := 13) cd_Mo_post rfl (Or.inr ⟨_, rfl, rfl, rfl⟩) l2 rfl ?_
      refine m_k1 (v := 4) (pc' := 14) cd_Mo_post rfl (by decide) rfl ?_
      refine m_if2 (t := 21) (pc' := 17) cd_Mo_post rfl rfl rfl (fun c14 => ?_) (fun c14 => ?_)
      · have c14 : (4 : Int32) ≤ y := c14
        refine m_k1 (v := 0) (pc' := 22) cd_Mo_post rfl (by decide) rfl ?_
        refine m_k1 (v := 1) (pc' := 23) cd_Mo_post rfl (by decide) rfl ?_
        refine m_ild (pc' := 24) cd_Mo_post rfl (Or.inr ⟨_, rfl, rfl, rfl⟩) l1 rfl ?_
        refine m_si (pc' := 27) cd_Mo_post rfl rfl rfl rfl rfl cd_Mo_isDevice rfl (Nat.le_of_ble_eq_true rfl) (m_isDevice ?_)
        show mg _ _ _ 27 _ [.int (bz (inR x 6)), .int 1, .int 0, .ref 1482] _ _
        refine m_if1 (t := 34) (pc' := 30) cd_Mo_post rfl rfl rfl (fun c27 => ?_) (fun c27 => ?_)
        · have c27 : (inR x 6) = false := bz_f c27
          refine m_k1 (v := 0) (pc' := 35) cd_Mo_post rfl (by decide) rfl ?_
          refine m_ci (pc' := 38) cd_Mo_post rfl rfl rfl rfl rfl cd_Mo_refused rfl (Nat.le_of_ble_eq_true rfl) (m_refusedN ?_)
          show mg _ _ _ 38 _ [.int (-1)] _ _
          refine m_ist (pc' := 39) cd_Mo_post rfl (Or.inr ⟨_, rfl, rfl, rfl⟩) (by decide) rfl (fun lv el => ?_)
          have l0 := tm_lk el l0 rfl (by decide)
          have l1 := tm_lk el l1 rfl (by decide)
          have l2 := tm_lk el l2 rfl (by decide)
          have l3 : lv.lookup 3 = some (.int (-1)) := tm_lks el
          clear el
          refine m_ild (pc' := 40) cd_Mo_post rfl (Or.inr ⟨_, rfl, rfl, rfl⟩) l3 rfl ?_
          refine m_if1 (t := 45) (pc' := 43) cd_Mo_post rfl rfl rfl (fun c40 => ?_) (fun c40 => ?_)
          · exact absurd (show ((-1) : Int32) = 0 from c40) (by decide)
          · have c40 : ¬ ((-1) : Int32) = 0 := c40
            refine m_ild (pc' := 44) cd_Mo_post rfl (Or.inr ⟨_, rfl, rfl, rfl⟩) l3 rfl ?_
            exact m_reti cd_Mo_post rfl ⟨_, rfl, kk⟩
        · have c27 : (inR x 6) = true := bz_t c27
          refine m_ild (pc' := 31) cd_Mo_post rfl (Or.inr ⟨_, rfl, rfl, rfl⟩) l1 rfl ?_
          refine m_pure (pc' := 35) (st' := [.int x, .int 1, .int 0, .ref 1482]) cd_Mo_post rfl rfl (fun _ _ => rfl) ?_
          refine m_ci (pc' := 38) cd_Mo_post rfl rfl rfl rfl rfl cd_Mo_refused rfl (Nat.le_of_ble_eq_true rfl) (m_refusedN ?_)
          show mg _ _ _ 38 _ [.int (-1)] _ _
          refine m_ist (pc' := 39) cd_Mo_post rfl (Or.inr ⟨_, rfl, rfl, rfl⟩) (by decide) rfl (fun lv el => ?_)
          have l0 := tm_lk el l0 rfl (by decide)
          have l1 := tm_lk el l1 rfl (by decide)
          have l2 := tm_lk el l2 rfl (by decide)
          have l3 : lv.lookup 3 = some (.int (-1)) := tm_lks el
          clear el
          refine m_ild (pc' := 40) cd_Mo_post rfl (Or.inr ⟨_, rfl, rfl, rfl⟩) l3 rfl ?_
          refine m_if1 (t := 45) (pc' := 43) cd_Mo_post rfl rfl rfl (fun c40 => ?_) (fun c40 => ?_)
          · exact absurd (show ((-1) : Int32) = 0 from c40) (by decide)
          · have c40 : ¬ ((-1) : Int32) = 0 := c40
            refine m_ild (pc' := 44) cd_Mo_post rfl (Or.inr ⟨_, rfl, rfl, rfl⟩) l3 rfl ?_
            exact m_reti cd_Mo_post rfl ⟨_, rfl, kk⟩
      · have c14 : ¬ (4 : Int32) ≤ y := c14
        exact absurd hB (fun q => q.elim (fun q => Bool.noConfusion (q.symm.trans (c5))) (fun q => Bool.noConfusion (q.symm.trans (inR_t c9 c14))))
set_option maxRecDepth 100000 in
theorem mo_crashB {sc : tm_X} {d : Nat} {f : Nat → Int32} {A : Nat → Nat → Int32} {x y : Int32} {Q : Int32 → MS → Prop} (hB : inR x 6 = false ∨ inR y 201 = false) (kk : Q (-1) (fset f 21 (f 21 + 1), A)) : mGi sc (d + 2) 251 [.ref 1482, .int x, .int y] (f, A) Q := by
  show mg sc (d + 2) 251 0 [(0, .ref 1482), (1, .int x), (2, .int y)] [] (f, A) _
  generalize elv : ([(0, .ref 1482), (1, .int x), (2, .int y)] : tm_L) = lv
  have l0 : lv.lookup 0 = some (.ref 1482) := by rw [← elv]; rfl
  have l1 : lv.lookup 1 = some (.int x) := by rw [← elv]; rfl
  have l2 : lv.lookup 2 = some (.int y) := by rw [← elv]; rfl
  clear elv
  refine m_ald (pc' := 1) cd_Mo_crash rfl (Or.inr ⟨_, rfl, rfl, rfl⟩) l0 rfl rfl ?_
  refine m_ild (pc' := 2) cd_Mo_crash rfl (Or.inr ⟨_, rfl, rfl, rfl⟩) l1 rfl ?_
  refine m_si (pc' := 5) cd_Mo_crash rfl rfl rfl rfl rfl cd_Mo_isDevice rfl (Nat.le_of_ble_eq_true rfl) (m_isDevice ?_)
  show mg _ _ _ 5 _ [.int (bz (inR x 6)), .ref 1482] _ _
  refine m_if1 (t := 23) (pc' := 8) cd_Mo_crash rfl rfl rfl (fun c5 => ?_) (fun c5 => ?_)
  · have c5 : (inR x 6) = false := bz_f c5
    refine m_k1 (v := 0) (pc' := 24) cd_Mo_crash rfl (by decide) rfl ?_
    refine m_k1 (v := 0) (pc' := 25) cd_Mo_crash rfl (by decide) rfl ?_
    refine m_ild (pc' := 26) cd_Mo_crash rfl (Or.inr ⟨_, rfl, rfl, rfl⟩) l1 rfl ?_
    refine m_si (pc' := 29) cd_Mo_crash rfl rfl rfl rfl rfl cd_Mo_isDevice rfl (Nat.le_of_ble_eq_true rfl) (m_isDevice ?_)
    show mg _ _ _ 29 _ [.int (bz (inR x 6)), .int 0, .int 0, .ref 1482] _ _
    refine m_if1 (t := 36) (pc' := 32) cd_Mo_crash rfl rfl rfl (fun c29 => ?_) (fun c29 => ?_)
    · have c29 : (inR x 6) = false := bz_f c29
      refine m_k1 (v := 0) (pc' := 37) cd_Mo_crash rfl (by decide) rfl ?_
      refine m_ci (pc' := 40) cd_Mo_crash rfl rfl rfl rfl rfl cd_Mo_refused rfl (Nat.le_of_ble_eq_true rfl) (m_refusedN ?_)
      show mg _ _ _ 40 _ [.int (-1)] _ _
      refine m_ist (pc' := 41) cd_Mo_crash rfl (Or.inr ⟨_, rfl, rfl, rfl⟩) (by decide) rfl (fun lv el => ?_)
      have l0 := tm_lk el l0 rfl (by decide)
      have l1 := tm_lk el l1 rfl (by decide)
      have l2 := tm_lk el l2 rfl (by decide)
      have l3 : lv.lookup 3 = some (.int (-1)) := tm_lks el
      clear el
      refine m_ild (pc' := 42) cd_Mo_crash rfl (Or.inr ⟨_, rfl, rfl, rfl⟩) l3 rfl ?_
      refine m_if1 (t := 47) (pc' := 45) cd_Mo_crash rfl rfl rfl (fun c42 => ?_) (fun c42 => ?_)
      · exact absurd (show ((-1) : Int32) = 0 from c42) (by decide)
      · have c42 : ¬ ((-1) : Int32) = 0 := c42
        refine m_ild (pc' := 46) cd_Mo_crash rfl (Or.inr ⟨_, rfl, rfl, rfl⟩) l3 rfl ?_
        exact m_reti cd_Mo_crash rfl ⟨_, rfl, kk⟩
    · have c29 : (inR x 6) = true := bz_t c29
      refine m_ild (pc' := 33) cd_Mo_crash rfl (Or.inr ⟨_, rfl, rfl, rfl⟩) l1 rfl ?_
      refine m_pure (pc' := 37) (st' := [.int x, .int 0, .int 0, .ref 1482]) cd_Mo_crash rfl rfl (fun _ _ => rfl) ?_
      refine m_ci (pc' := 40) cd_Mo_crash rfl rfl rfl rfl rfl cd_Mo_refused rfl (Nat.le_of_ble_eq_true rfl) (m_refusedN ?_)
      show mg _ _ _ 40 _ [.int (-1)] _ _
      refine m_ist (pc' := 41) cd_Mo_crash rfl (Or.inr ⟨_, rfl, rfl, rfl⟩) (by decide) rfl (fun lv el => ?_)
      have l0 := tm_lk el l0 rfl (by decide)
      have l1 := tm_lk el l1 rfl (by decide)
      have l2 := tm_lk el l2 rfl (by decide)
      have l3 : lv.lookup 3 = some (.int (-1)) := tm_lks el
      clear el
      refine m_ild (pc' := 42) cd_Mo_crash rfl (Or.inr ⟨_, rfl, rfl, rfl⟩) l3 rfl ?_
      refine m_if1 (t := 47) (pc' := 45) cd_Mo_crash rfl rfl rfl (fun c42 => ?_) (fun c42 => ?_)
      · exact absurd (show ((-1) : Int32) = 0 from c42) (by decide)
      · have c42 : ¬ ((-1) : Int32) = 0 := c42
        refine m_ild (pc' := 46) cd_Mo_crash rfl (Or.inr ⟨_, rfl, rfl, rfl⟩) l3 rfl ?_
        exact m_reti cd_Mo_crash rfl ⟨_, rfl, kk⟩
  · have c5 : (inR x 6) = true := bz_t c5
    refine m_ild (pc' := 9) cd_Mo_crash rfl (Or.inr ⟨_, rfl, rfl, rfl⟩) l2 rfl ?_
    refine m_if1 (t := 23) (pc' := 12) cd_Mo_crash rfl rfl rfl (fun c9 => ?_) (fun c9 => ?_)
    · have c9 : y < 0 := c9
      refine m_k1 (v := 0) (pc' := 24) cd_Mo_crash rfl (by decide) rfl ?_
      refine m_k1 (v := 0) (pc' := 25) cd_Mo_crash rfl (by decide) rfl ?_
      refine m_ild (pc' := 26) cd_Mo_crash rfl (Or.inr ⟨_, rfl, rfl, rfl⟩) l1 rfl ?_
      refine m_si (pc' := 29) cd_Mo_crash rfl rfl rfl rfl rfl cd_Mo_isDevice rfl (Nat.le_of_ble_eq_true rfl) (m_isDevice ?_)
      show mg _ _ _ 29 _ [.int (bz (inR x 6)), .int 0, .int 0, .ref 1482] _ _
      refine m_if1 (t := 36) (pc' := 32) cd_Mo_crash rfl rfl rfl (fun c29 => ?_) (fun c29 => ?_)
      · have c29 : (inR x 6) = false := bz_f c29
        refine m_k1 (v := 0) (pc' := 37) cd_Mo_crash rfl (by decide) rfl ?_
        refine m_ci (pc' := 40) cd_Mo_crash rfl rfl rfl rfl rfl cd_Mo_refused rfl (Nat.le_of_ble_eq_true rfl) (m_refusedN ?_)
        show mg _ _ _ 40 _ [.int (-1)] _ _
        refine m_ist (pc' := 41) cd_Mo_crash rfl (Or.inr ⟨_, rfl, rfl, rfl⟩) (by decide) rfl (fun lv el => ?_)
        have l0 := tm_lk el l0 rfl (by decide)
        have l1 := tm_lk el l1 rfl (by decide)
        have l2 := tm_lk el l2 rfl (by decide)
        have l3 : lv.lookup 3 = some (.int (-1)) := tm_lks el
        clear el
        refine m_ild (pc' := 42) cd_Mo_crash rfl (Or.inr ⟨_, rfl, rfl, rfl⟩) l3 rfl ?_
        refine m_if1 (t := 47) (pc' := 45) cd_Mo_crash rfl rfl rfl (fun c42 => ?_) (fun c42 => ?_)
        · exact absurd (show ((-1) : Int32) = 0 from c42) (by decide)
        · have c42 : ¬ ((-1) : Int32) = 0 := c42
          refine m_ild (pc' := 46) cd_Mo_crash rfl (Or.inr ⟨_, rfl, rfl, rfl⟩) l3 rfl ?_
          exact m_reti cd_Mo_crash rfl ⟨_, rfl, kk⟩
      · have c29 : (inR x 6) = true := bz_t c29
        refine m_ild (pc' := 33) cd_Mo_crash rfl (Or.inr ⟨_, rfl, rfl, rfl⟩) l1 rfl ?_
        refine m_pure (pc' := 37) (st' := [.int x, .int 0, .int 0, .ref 1482]) cd_Mo_crash rfl rfl (fun _ _ => rfl) ?_
        refine m_ci (pc' := 40) cd_Mo_crash rfl rfl rfl rfl rfl cd_Mo_refused rfl (Nat.le_of_ble_eq_true rfl) (m_refusedN ?_)
        show mg _ _ _ 40 _ [.int (-1)] _ _
        refine m_ist (pc' := 41) cd_Mo_crash rfl (Or.inr ⟨_, rfl, rfl, rfl⟩) (by decide) rfl (fun lv el => ?_)
        have l0 := tm_lk el l0 rfl (by decide)
        have l1 := tm_lk el l1 rfl (by decide)
        have l2 := tm_lk el l2 rfl (by decide)
        have l3 : lv.lookup 3 = some (.int (-1)) := tm_lks el
        clear el
        refine m_ild (pc' := 42) cd_Mo_crash rfl (Or.inr ⟨_, rfl, rfl, rfl⟩) l3 rfl ?_
        refine m_if1 (t := 47) (pc' := 45) cd_Mo_crash rfl rfl rfl (fun c42 => ?_) (fun c42 => ?_)
        · exact absurd (show ((-1) : Int32) = 0 from c42) (by decide)
        · have c42 : ¬ ((-1) : Int32) = 0 := c42
          refine m_ild (pc' := 46) cd_Mo_crash rfl (Or.inr ⟨_, rfl, rfl, rfl⟩) l3 rfl ?_
          exact m_reti cd_Mo_crash rfl ⟨_, rfl, kk⟩
    · have c9 : ¬ y < 0 := c9
      refine m_ild (pc' := 13) cd_Mo_crash rfl (Or.inr ⟨_, rfl, rfl, rfl⟩) l2 rfl ?_
      refine m_k3 (v := 200) (pc' := 16) cd_Mo_crash rfl (by decide) rfl ?_
      refine m_if2 (t := 23) (pc' := 19) cd_Mo_crash rfl rfl rfl (fun c16 => ?_) (fun c16 => ?_)
      · have c16 : (200 : Int32) < y := c16
        refine m_k1 (v := 0) (pc' := 24) cd_Mo_crash rfl (by decide) rfl ?_
        refine m_k1 (v := 0) (pc' := 25) cd_Mo_crash rfl (by decide) rfl ?_
        refine m_ild (pc' := 26) cd_Mo_crash rfl (Or.inr ⟨_, rfl, rfl, rfl⟩) l1 rfl ?_
        refine m_si (pc' := 29) cd_Mo_crash rfl rfl rfl rfl rfl cd_Mo_isDevice rfl (Nat.le_of_ble_eq_true rfl) (m_isDevice ?_)
        show mg _ _ _ 29 _ [.int (bz (inR x 6)), .int 0, .int 0, .ref 1482] _ _
        refine m_if1 (t := 36) (pc' := 32) cd_Mo_crash rfl rfl rfl (fun c29 => ?_) (fun c29 => ?_)
        · have c29 : (inR x 6) = false := bz_f c29
          refine m_k1 (v := 0) (pc' := 37) cd_Mo_crash rfl (by decide) rfl ?_
          refine m_ci (pc' := 40) cd_Mo_crash rfl rfl rfl rfl rfl cd_Mo_refused rfl (Nat.le_of_ble_eq_true rfl) (m_refusedN ?_)
          show mg _ _ _ 40 _ [.int (-1)] _ _
          refine m_ist (pc' := 41) cd_Mo_crash rfl (Or.inr ⟨_, rfl, rfl, rfl⟩) (by decide) rfl (fun lv el => ?_)
          have l0 := tm_lk el l0 rfl (by decide)
          have l1 := tm_lk el l1 rfl (by decide)
          have l2 := tm_lk el l2 rfl (by decide)
          have l3 : lv.lookup 3 = some (.int (-1)) := tm_lks el
          clear el
          refine m_ild (pc' := 42) cd_Mo_crash rfl (Or.inr ⟨_, rfl, rfl, rfl⟩) l3 rfl ?_
          refine m_if1 (t := 47) (pc' := 45) cd_Mo_crash rfl rfl rfl (fun c42 => ?_) (fun c42 => ?_)
          · exact absurd (show ((-1) : Int32) = 0 from c42) (by decide)
          · have c42 : ¬ ((-1) : Int32) = 0 := c42
            refine m_ild (pc' := 46) cd_Mo_crash rfl (Or.inr ⟨_, rfl, rfl, rfl⟩) l3 rfl ?_
            exact m_reti cd_Mo_crash rfl ⟨_, rfl, kk⟩
        · have c29 : (inR x 6) = true := bz_t c29
          refine m_ild (pc' := 33) cd_Mo_crash rfl (Or.inr ⟨_, rfl, rfl, rfl⟩) l1 rfl ?_
          refine m_pure (pc' := 37) (st' := [.int x, .int 0, .int 0, .ref 1482]) cd_Mo_crash rfl rfl (fun _ _ => rfl) ?_
          refine m_ci (pc' := 40) cd_Mo_crash rfl rfl rfl rfl rfl cd_Mo_refused rfl (Nat.le_of_ble_eq_true rfl) (m_refusedN ?_)
          show mg _ _ _ 40 _ [.int (-1)] _ _
          refine m_ist (pc' := 41) cd_Mo_crash rfl (Or.inr ⟨_, rfl, rfl, rfl⟩) (by decide) rfl (fun lv el => ?_)
          have l0 := tm_lk el l0 rfl (by decide)
          have l1 := tm_lk el l1 rfl (by decide)
          have l2 := tm_lk el l2 rfl (by decide)
          have l3 : lv.lookup 3 = some (.int (-1)) := tm_lks el
          clear el
          refine m_ild (pc' := 42) cd_Mo_crash rfl (Or.inr ⟨_, rfl, rfl, rfl⟩) l3 rfl ?_
          refine m_if1 (t := 47) (pc' := 45) cd_Mo_crash rfl rfl rfl (fun c42 => ?_) (fun c42 => ?_)
          · exact absurd (show ((-1) : Int32) = 0 from c42) (by decide)
          · have c42 : ¬ ((-1) : Int32) = 0 := c42
            refine m_ild (pc' := 46) cd_Mo_crash rfl (Or.inr ⟨_, rfl, rfl, rfl⟩) l3 rfl ?_
            exact m_reti cd_Mo_crash rfl ⟨_, rfl, kk⟩
      · have c16 : ¬ (200 : Int32) < y := c16
        exact absurd hB (fun q => q.elim (fun q => Bool.noConfusion (q.symm.trans (c5))) (fun q => Bool.noConfusion (q.symm.trans (inR_le (m := 200) (by decide) c9 (Int32.not_lt.mp c16)))))
set_option maxRecDepth 100000 in
theorem mo_deliverB {sc : tm_X} {d : Nat} {f : Nat → Int32} {A : Nat → Nat → Int32} {x y : Int32} {n : Nat} {Q : Int32 → MS → Prop} (h40 : f 40 = nI n) (hB : inR x 6 = false ∨ inR y (nI n) = false) (kk : Q (-1) (fset f 21 (f 21 + 1), A)) : mGi sc (d + 2) 229 [.ref 1482, .int x, .int y] (f, A) Q := by
  show mg sc (d + 2) 229 0 [(0, .ref 1482), (1, .int x), (2, .int y)] [] (f, A) _
  generalize elv : ([(0, .ref 1482), (1, .int x), (2, .int y)] : tm_L) = lv
  have l0 : lv.lookup 0 = some (.ref 1482) := by rw [← elv]; rfl
  have l1 : lv.lookup 1 = some (.int x) := by rw [← elv]; rfl
  have l2 : lv.lookup 2 = some (.int y) := by rw [← elv]; rfl
  clear elv
  refine m_ald (pc' := 1) cd_Mo_deliver rfl (Or.inr ⟨_, rfl, rfl, rfl⟩) l0 rfl rfl ?_
  refine m_ild (pc' := 2) cd_Mo_deliver rfl (Or.inr ⟨_, rfl, rfl, rfl⟩) l1 rfl ?_
  refine m_si (pc' := 5) cd_Mo_deliver rfl rfl rfl rfl rfl cd_Mo_isDevice rfl (Nat.le_of_ble_eq_true rfl) (m_isDevice ?_)
  show mg _ _ _ 5 _ [.int (bz (inR x 6)), .ref 1482] _ _
  refine m_if1 (t := 24) (pc' := 8) cd_Mo_deliver rfl rfl rfl (fun c5 => ?_) (fun c5 => ?_)
  · have c5 : (inR x 6) = false := bz_f c5
    refine m_k1 (v := 0) (pc' := 25) cd_Mo_deliver rfl (by decide) rfl ?_
    refine m_k1 (v := 0) (pc' := 26) cd_Mo_deliver rfl (by decide) rfl ?_
    refine m_ild (pc' := 27) cd_Mo_deliver rfl (Or.inr ⟨_, rfl, rfl, rfl⟩) l1 rfl ?_
    refine m_si (pc' := 30) cd_Mo_deliver rfl rfl rfl rfl rfl cd_Mo_isDevice rfl (Nat.le_of_ble_eq_true rfl) (m_isDevice ?_)
    show mg _ _ _ 30 _ [.int (bz (inR x 6)), .int 0, .int 0, .ref 1482] _ _
    refine m_if1 (t := 37) (pc' := 33) cd_Mo_deliver rfl rfl rfl (fun c30 => ?_) (fun c30 => ?_)
    · have c30 : (inR x 6) = false := bz_f c30
      refine m_k1 (v := 0) (pc' := 38) cd_Mo_deliver rfl (by decide) rfl ?_
      refine m_ci (pc' := 41) cd_Mo_deliver rfl rfl rfl rfl rfl cd_Mo_refused rfl (Nat.le_of_ble_eq_true rfl) (m_refusedN ?_)
      show mg _ _ _ 41 _ [.int (-1)] _ _
      refine m_ist (pc' := 42) cd_Mo_deliver rfl (Or.inr ⟨_, rfl, rfl, rfl⟩) (by decide) rfl (fun lv el => ?_)
      have l0 := tm_lk el l0 rfl (by decide)
      have l1 := tm_lk el l1 rfl (by decide)
      have l2 := tm_lk el l2 rfl (by decide)
      have l3 : lv.lookup 3 = some (.int (-1)) := tm_lks el
      clear el
      refine m_ild (pc' := 43) cd_Mo_deliver rfl (Or.inr ⟨_, rfl, rfl, rfl⟩) l3 rfl ?_
      refine m_if1 (t := 50) (pc' := 46) cd_Mo_deliver rfl rfl rfl (fun c43 => ?_) (fun c43 => ?_)
      · exact absurd (show ((-1) : Int32) = 0 from c43) (by decide)
      · have c43 : ¬ ((-1) : Int32) = 0 := c43
        refine m_ild (pc' := 47) cd_Mo_deliver rfl (Or.inr ⟨_, rfl, rfl, rfl⟩) l3 rfl ?_
        refine m_pure (pc' := 61) (st' := [.int (-1)]) cd_Mo_deliver rfl rfl (fun _ _ => rfl) ?_
        exact m_reti cd_Mo_deliver rfl ⟨_, rfl, kk⟩
    · have c30 : (inR x 6) = true := bz_t c30
      refine m_ild (pc' := 34) cd_Mo_deliver rfl (Or.inr ⟨_, rfl, rfl, rfl⟩) l1 rfl ?_
      refine m_pure (pc' := 38) (st' := [.int x, .int 0, .int 0, .ref 1482]) cd_Mo_deliver rfl rfl (fun _ _ => rfl) ?_
      refine m_ci (pc' := 41) cd_Mo_deliver rfl rfl rfl rfl rfl cd_Mo_refused rfl (Nat.le_of_ble_eq_true rfl) (m_refusedN ?_)
      show mg _ _ _ 41 _ [.int (-1)] _ _
      refine m_ist (pc' := 42) cd_Mo_deliver rfl (Or.inr ⟨_, rfl, rfl, rfl⟩) (by decide) rfl (fun lv el => ?_)
      have l0 := tm_lk el l0 rfl (by decide)
      have l1 := tm_lk el l1 rfl (by decide)
      have l2 := tm_lk el l2 rfl (by decide)
      have l3 : lv.lookup 3 = some (.int (-1)) := tm_lks el
      clear el
      refine m_ild (pc' := 43) cd_Mo_deliver rfl (Or.inr ⟨_, rfl, rfl, rfl⟩) l3 rfl ?_
      refine m_if1 (t := 50) (pc' := 46) cd_Mo_deliver rfl rfl rfl (fun c43 => ?_) (fun c43 => ?_)
      · exact absurd (show ((-1) : Int32) = 0 from c43) (by decide)
      · have c43 : ¬ ((-1) : Int32) = 0 := c43
        refine m_ild (pc' := 47) cd_Mo_deliver rfl (Or.inr ⟨_, rfl, rfl, rfl⟩) l3 rfl ?_
        refine m_pure (pc' := 61) (st' := [.int (-1)]) cd_Mo_deliver rfl rfl (fun _ _ => rfl) ?_
        exact m_reti cd_Mo_deliver rfl ⟨_, rfl, kk⟩
  · have c5 : (inR x 6) = true := bz_t c5
    refine m_ild (pc' := 9) cd_Mo_deliver rfl (Or.inr ⟨_, rfl, rfl, rfl⟩) l2 rfl ?_
    refine m_if1 (t := 24) (pc' := 12) cd_Mo_deliver rfl rfl rfl (fun c9 => ?_) (fun c9 => ?_)
    · have c9 : y < 0 := c9
      refine m_k1 (v := 0) (pc' := 25) cd_Mo_deliver rfl (by decide) rfl ?_
      refine m_k1 (v := 0) (pc' := 26) cd_Mo_deliver rfl (by decide) rfl ?_
      refine m_ild (pc' := 27) cd_Mo_deliver rfl (Or.inr ⟨_, rfl, rfl, rfl⟩) l1 rfl ?_
      refine m_si (pc' := 30) cd_Mo_deliver rfl rfl rfl rfl rfl cd_Mo_isDevice rfl (Nat.le_of_ble_eq_true rfl) (m_isDevice ?_)
      show mg _ _ _ 30 _ [.int (bz (inR x 6)), .int 0, .int 0, .ref 1482] _ _
      refine m_if1 (t := 37) (pc' := 33) cd_Mo_deliver rfl rfl rfl (fun c30 => ?_) (fun c30 => ?_)
      · have c30 : (inR x 6) = false := bz_f c30
        refine m_k1 (v := 0) (pc' := 38) cd_Mo_deliver rfl (by decide) rfl ?_
        refine m_ci (pc' := 41) cd_Mo_deliver rfl rfl rfl rfl rfl cd_Mo_refused rfl (Nat.le_of_ble_eq_true rfl) (m_refusedN ?_)
        show mg _ _ _ 41 _ [.int (-1)] _ _
        refine m_ist (pc' := 42) cd_Mo_deliver rfl (Or.inr ⟨_, rfl, rfl, rfl⟩) (by decide) rfl (fun lv el => ?_)
        have l0 := tm_lk el l0 rfl (by decide)
        have l1 := tm_lk el l1 rfl (by decide)
        have l2 := tm_lk el l2 rfl (by decide)
        have l3 : lv.lookup 3 = some (.int (-1)) := tm_lks el
        clear el
        refine m_ild (pc' := 43) cd_Mo_deliver rfl (Or.inr ⟨_, rfl, rfl, rfl⟩) l3 rfl ?_
        refine m_if1 (t := 50) (pc' := 46) cd_Mo_deliver rfl rfl rfl (fun c43 => ?_) (fun c43 => ?_)
        · exact absurd (show ((-1) : Int32) = 0 from c43) (by decide)
        · have c43 : ¬ ((-1) : Int32) = 0 := c43
          refine m_ild (pc' := 47) cd_Mo_deliver rfl (Or.inr ⟨_, rfl, rfl, rfl⟩) l3 rfl ?_
          refine m_pure (pc' := 61) (st' := [.int (-1)]) cd_Mo_deliver rfl rfl (fun _ _ => rfl) ?_
          exact m_reti cd_Mo_deliver rfl ⟨_, rfl, kk⟩
      · have c30 : (inR x 6) = true := bz_t c30
        refine m_ild (pc' := 34) cd_Mo_deliver rfl (Or.inr ⟨_, rfl, rfl, rfl⟩) l1 rfl ?_
        refine m_pure (pc' := 38) (st' := [.int x, .int 0, .int 0, .ref 1482]) cd_Mo_deliver rfl rfl (fun _ _ => rfl) ?_
        refine m_ci (pc' := 41) cd_Mo_deliver rfl rfl rfl rfl rfl cd_Mo_refused rfl (Nat.le_of_ble_eq_true rfl) (m_refusedN ?_)
        show mg _ _ _ 41 _ [.int (-1)] _ _
        refine m_ist (pc' := 42) cd_Mo_deliver rfl (Or.inr ⟨_, rfl, rfl, rfl⟩) (by decide) rfl (fun lv el => ?_)
        have l0 := tm_lk el l0 rfl (by decide)
        have l1 := tm_lk el l1 rfl (by decide)
        have l2 := tm_lk el l2 rfl (by decide)
        have l3 : lv.lookup 3 = some (.int (-1)) := tm_lks el
        clear el
        refine m_ild (pc' := 43) cd_Mo_deliver rfl (Or.inr ⟨_, rfl, rfl, rfl⟩) l3 rfl ?_
        refine m_if1 (t := 50) (pc' := 46) cd_Mo_deliver rfl rfl rfl (fun c43 => ?_) (fun c43 => ?_)
        · exact absurd (show ((-1) : Int32) = 0 from c43) (by decide)
        · have c43 : ¬ ((-1) : Int32) = 0 := c43
          refine m_ild (pc' := 47) cd_Mo_deliver rfl (Or.inr ⟨_, rfl, rfl, rfl⟩) l3 rfl ?_
          refine m_pure (pc' := 61) (st' := [.int (-1)]) cd_Mo_deliver rfl rfl (fun _ _ => rfl) ?_
          exact m_reti cd_Mo_deliver rfl ⟨_, rfl, kk⟩
    · have c9 : ¬ y < 0 := c9
      refine m_ild (pc' := 13) cd_Mo_deliver rfl (Or.inr ⟨_, rfl, rfl, rfl⟩) l2 rfl ?_
      refine m_ald (pc' := 14) cd_Mo_deliver rfl (Or.inr ⟨_, rfl, rfl, rfl⟩) l0 rfl rfl ?_
      refine m_fI (k := 40) (x := (nI n)) (pc' := 17) cd_Mo_deliver rfl rfl rfl rfl rfl h40 ?_
      refine m_if2 (t := 24) (pc' := 20) cd_Mo_deliver rfl rfl rfl (fun c17 => ?_) (fun c17 => ?_)
      · have c17 : (nI n) ≤ y := c17
        refine m_k1 (v := 0) (pc' := 25) cd_Mo_deliver rfl (by decide) rfl ?_
        refine m_k1 (v := 0) (pc' := 26) cd_Mo_deliver rfl (by decide) rfl ?_
        refine m_ild (pc' := 27) cd_Mo_deliver rfl (Or.inr ⟨_, rfl, rfl, rfl⟩) l1 rfl ?_
        refine m_si (pc' := 30) cd_Mo_deliver rfl rfl rfl rfl rfl cd_Mo_isDevice rfl (Nat.le_of_ble_eq_true rfl) (m_isDevice ?_)
        show mg _ _ _ 30 _ [.int (bz (inR x 6)), .int 0, .int 0, .ref 1482] _ _
        refine m_if1 (t := 37) (pc' := 33) cd_Mo_deliver rfl rfl rfl (fun c30 => ?_) (fun c30 => ?_)
        · have c30 : (inR x 6) = false := bz_f c30
          refine m_k1 (v := 0) (pc' := 38) cd_Mo_deliver rfl (by decide) rfl ?_
          refine m_ci (pc' := 41) cd_Mo_deliver rfl rfl rfl rfl rfl cd_Mo_refused rfl (Nat.le_of_ble_eq_true rfl) (m_refusedN ?_)
          show mg _ _ _ 41 _ [.int (-1)] _ _
          refine m_ist (pc' := 42) cd_Mo_deliver rfl (Or.inr ⟨_, rfl, rfl, rfl⟩) (by decide) rfl (fun lv el => ?_)
          have l0 := tm_lk el l0 rfl (by decide)
          have l1 := tm_lk el l1 rfl (by decide)
          have l2 := tm_lk el l2 rfl (by decide)
          have l3 : lv.lookup 3 = some (.int (-1)) := tm_lks el
          clear el
          refine m_ild (pc' := 43) cd_Mo_deliver rfl (Or.inr ⟨_, rfl, rfl, rfl⟩) l3 rfl ?_
          refine m_if1 (t := 50) (pc' := 46) cd_Mo_deliver rfl rfl rfl (fun c43 => ?_) (fun c43 => ?_)
          · exact absurd (show ((-1) : Int32) = 0 from c43) (by decide)
          · have c43 : ¬ ((-1) : Int32) = 0 := c43
            refine m_ild (pc' := 47) cd_Mo_deliver rfl (Or.inr ⟨_, rfl, rfl, rfl⟩) l3 rfl ?_
            refine m_pure (pc' := 61) (st' := [.int (-1)]) cd_Mo_deliver rfl rfl (fun _ _ => rfl) ?_
            exact m_reti cd_Mo_deliver rfl ⟨_, rfl, kk⟩
        · have c30 : (inR x 6) = true := bz_t c30
          refine m_ild (pc' := 34) cd_Mo_deliver rfl (Or.inr ⟨_, rfl, rfl, rfl⟩) l1 rfl ?_
          refine m_pure (pc' := 38) (st' := [.int x, .int 0, .int 0, .ref 1482]) cd_Mo_deliver rfl rfl (fun _ _ => rfl) ?_
          refine m_ci (pc' := 41) cd_Mo_deliver rfl rfl rfl rfl rfl cd_Mo_refused rfl (Nat.le_of_ble_eq_true rfl) (m_refusedN ?_)
          show mg _ _ _ 41 _ [.int (-1)] _ _
          refine m_ist (pc' := 42) cd_Mo_deliver rfl (Or.inr ⟨_, rfl, rfl, rfl⟩) (by decide) rfl (fun lv el => ?_)
          have l0 := tm_lk el l0 rfl (by decide)
          have l1 := tm_lk el l1 rfl (by decide)
          have l2 := tm_lk el l2 rfl (by decide)
          have l3 : lv.lookup 3 = some (.int (-1)) := tm_lks el
          clear el
          refine m_ild (pc' := 43) cd_Mo_deliver rfl (Or.inr ⟨_, rfl, rfl, rfl⟩) l3 rfl ?_
          refine m_if1 (t := 50) (pc' := 46) cd_Mo_deliver rfl rfl rfl (fun c43 => ?_) (fun c43 => ?_)
          · exact absurd (show ((-1) : Int32) = 0 from c43) (by decide)
          · have c43 : ¬ ((-1) : Int32) = 0 := c43
            refine m_ild (pc' := 47) cd_Mo_deliver rfl (Or.inr ⟨_, rfl, rfl, rfl⟩) l3 rfl ?_
            refine m_pure (pc' := 61) (st' := [.int (-1)]) cd_Mo_deliver rfl rfl (fun _ _ => rfl) ?_
            exact m_reti cd_Mo_deliver rfl ⟨_, rfl, kk⟩
      · have c17 : ¬ (nI n) ≤ y := c17
        exact absurd hB (fun q => q.elim (fun q => Bool.noConfusion (q.symm.trans (c5))) (fun q => Bool.noConfusion (q.symm.trans (inR_t c9 c17))))
set_option maxRecDepth 100000 in
theorem mo_injectB {sc : tm_X} {d : Nat} {f : Nat → Int32} {A : Nat → Nat → Int32} {T : List Tm} {DL : List (Int32 × Int32)} {G Kw : Tm → Prop} {reg : Nat → Tm} {x y : Int32} {Q : Int32 → MS → Prop} (hM : MT f A T DL G Kw) (hR : ∀ i, i < 32 → tv T (A 45 i) (reg i)) (hB : inR x 6 = false ∨ hl reg y = tz) (kk : Q (-1) (fset f 21 (f 21 + 1), A)) : mGi sc (d + 2) 248 [.ref 1482, .int x, .int y] (f, A) Q := by
  show mg sc (d + 2) 248 0 [(0, .ref 1482), (1, .int x), (2, .int y)] [] (f, A) _
  generalize elv : ([(0, .ref 1482), (1, .int x), (2, .int y)] : tm_L) = lv
  have l0 : lv.lookup 0 = some (.ref 1482) := by rw [← elv]; rfl
  have l1 : lv.lookup 1 = some (.int x) := by rw [← elv]; rfl
  have l2 : lv.lookup 2 = some (.int y) := by rw [← elv]; rfl
  clear elv
  refine m_ald (pc' := 1) cd_Mo_inject rfl (Or.inr ⟨_, rfl, rfl, rfl⟩) l0 rfl rfl ?_
  refine m_ild (pc' := 2) cd_Mo_inject rfl (Or.inr ⟨_, rfl, rfl, rfl⟩) l1 rfl ?_
  refine m_si (pc' := 5) cd_Mo_inject rfl rfl rfl rfl rfl cd_Mo_isDevice rfl (Nat.le_of_ble_eq_true rfl) (m_isDevice ?_)
  show mg _ _ _ 5 _ [.int (bz (inR x 6)), .ref 1482] _ _
  refine m_if1 (t := 20) (pc' := 8) cd_Mo_inject rfl rfl rfl (fun c5 => ?_) (fun c5 => ?_)
  · have c5 : (inR x 6) = false := bz_f c5
    refine m_k1 (v := 0) (pc' := 21) cd_Mo_inject rfl (by decide) rfl ?_
    refine m_k1 (v := 0) (pc' := 22) cd_Mo_inject rfl (by decide) rfl ?_
    refine m_ild (pc' := 23) cd_Mo_inject rfl (Or.inr ⟨_, rfl, rfl, rfl⟩) l1 rfl ?_
    refine m_si (pc' := 26) cd_Mo_inject rfl rfl rfl rfl rfl cd_Mo_isDevice rfl (Nat.le_of_ble_eq_true rfl) (m_isDevice ?_)
    show mg _ _ _ 26 _ [.int (bz (inR x 6)), .int 0, .int 0, .ref 1482] _ _
    refine m_if1 (t := 33) (pc' := 29) cd_Mo_inject rfl rfl rfl (fun c26 => ?_) (fun c26 => ?_)
    · have c26 : (inR x 6) = false := bz_f c26
      refine m_k1 (v := 0) (pc' := 34) cd_Mo_inject rfl (by decide) rfl ?_
      refine m_ci (pc' := 37) cd_Mo_inject rfl rfl rfl rfl rfl cd_Mo_refused rfl (Nat.le_of_ble_eq_true rfl) (m_refusedN ?_)
      show mg _ _ _ 37 _ [.int (-1)] _ _
      refine m_ist (pc' := 38) cd_Mo_inject rfl (Or.inr ⟨_, rfl, rfl, rfl⟩) (by decide) rfl (fun lv el => ?_)
      have l0 := tm_lk el l0 rfl (by decide)
      have l1 := tm_lk el l1 rfl (by decide)
      have l2 := tm_lk el l2 rfl (by decide)
      have l3 : lv.lookup 3 = some (.int (-1)) := tm_lks el
      clear el
      refine m_ild (pc' := 39) cd_Mo_inject rfl (Or.inr ⟨_, rfl, rfl, rfl⟩) l3 rfl ?_
      refine m_if1 (t := 46) (pc' := 42) cd_Mo_inject rfl rfl rfl (fun c39 => ?_) (fun c39 => ?_)
      · exact absurd (show ((-1) : Int32) = 0 from c39) (by decide)
      · have c39 : ¬ ((-1) : Int32) = 0 := c39
        refine m_ild (pc' := 43) cd_Mo_inject rfl (Or.inr ⟨_, rfl, rfl, rfl⟩) l3 rfl ?_
        refine m_pure (pc' := 57) (st' := [.int (-1)]) cd_Mo_inject rfl rfl (fun _ _ => rfl) ?_
        exact m_reti cd_Mo_inject rfl ⟨_, rfl, kk⟩
    · have c26 : (inR x 6) = true := bz_t c26
      refine m_ild (pc' := 30) cd_Mo_inject rfl (Or.inr ⟨_, rfl, rfl, rfl⟩) l1 rfl ?_
      refine m_pure (pc' := 34) (st' := [.int x, .int 0, .int 0, .ref 1482]) cd_Mo_inject rfl rfl (fun _ _ => rfl) ?_
      refine m_ci (pc' := 37) cd_Mo_inject rfl rfl rfl rfl rfl cd_Mo_refused rfl (Nat.le_of_ble_eq_true rfl) (m_refusedN ?_)
      show mg _ _ _ 37 _ [.int (-1)] _ _
      refine m_ist (pc' := 38) cd_Mo_inject rfl (Or.inr ⟨_, rfl, rfl, rfl⟩) (by decide) rfl (fun lv el => ?_)
      have l0 := tm_lk el l0 rfl (by decide)
      have l1 := tm_lk el l1 rfl (by decide)
      have l2 := tm_lk el l2 rfl (by decide)
      have l3 : lv.lookup 3 = some (.int (-1)) := tm_lks el
      clear el
      refine m_ild (pc' := 39) cd_Mo_inject rfl (Or.inr ⟨_, rfl, rfl, rfl⟩) l3 rfl ?_
      refine m_if1 (t := 46) (pc' := 42) cd_Mo_inject rfl rfl rfl (fun c39 => ?_) (fun c39 => ?_)
      · exact absurd (show ((-1) : Int32) = 0 from c39) (by decide)
      · have c39 : ¬ ((-1) : Int32) = 0 := c39
        refine m_ild (pc' := 43) cd_Mo_inject rfl (Or.inr ⟨_, rfl, rfl, rfl⟩) l3 rfl ?_
        refine m_pure (pc' := 57) (st' := [.int (-1)]) cd_Mo_inject rfl rfl (fun _ _ => rfl) ?_
        exact m_reti cd_Mo_inject rfl ⟨_, rfl, kk⟩
  · have c5 : (inR x 6) = true := bz_t c5
    refine m_ald (pc' := 9) cd_Mo_inject rfl (Or.inr ⟨_, rfl, rfl, rfl⟩) l0 rfl rfl ?_
    refine m_ild (pc' := 10) cd_Mo_inject rfl (Or.inr ⟨_, rfl, rfl, rfl⟩) l2 rfl ?_
    refine m_ci (pc' := 13) cd_Mo_inject rfl rfl rfl rfl rfl cd_Mo_isHeld rfl (Nat.le_of_ble_eq_true rfl) (m_held hM hR ?_)
    show mg _ _ _ 13 _ [.int (bz (!tnil (hl reg y))), .ref 1482] _ _
    refine m_if1 (t := 20) (pc' := 16) cd_Mo_inject rfl rfl rfl (fun c13 => ?_) (fun c13 => ?_)
    · have c13 : (!tnil (hl reg y)) = false := bz_f c13
      refine m_k1 (v := 0) (pc' := 21) cd_Mo_inject rfl (by decide) rfl ?_
      refine m_k1 (v := 0) (pc' := 22) cd_Mo_inject rfl (by decide) rfl ?_
      refine m_ild (pc' := 23) cd_Mo_inject rfl (Or.inr ⟨_, rfl, rfl, rfl⟩) l1 rfl ?_
      refine m_si (pc' := 26) cd_Mo_inject rfl rfl rfl rfl rfl cd_Mo_isDevice rfl (Nat.le_of_ble_eq_true rfl) (m_isDevice ?_)
      show mg _ _ _ 26 _ [.int (bz (inR x 6)), .int 0, .int 0, .ref 1482] _ _
      refine m_if1 (t := 33) (pc' := 29) cd_Mo_inject rfl rfl rfl (fun c26 => ?_) (fun c26 => ?_)
      · have c26 : (inR x 6) = false := bz_f c26
        refine m_k1 (v := 0) (pc' := 34) cd_Mo_inject rfl (by decide) rfl ?_
        refine m_ci (pc' := 37) cd_Mo_inject rfl rfl rfl rfl rfl cd_Mo_refused rfl (Nat.le_of_ble_eq_true rfl) (m_refusedN ?_)
        show mg _ _ _ 37 _ [.int (-1)] _ _
        refine m_ist (pc' := 38) cd_Mo_inject rfl (Or.inr ⟨_, rfl, rfl, rfl⟩) (by decide) rfl (fun lv el => ?_)
        have l0 := tm_lk el l0 rfl (by decide)
        have l1 := tm_lk el l1 rfl (by decide)
        have l2 := tm_lk el l2 rfl (by decide)
        have l3 : lv.lookup 3 = some (.int (-1)) := tm_lks el
        clear el
        refine m_ild (pc' := 39) cd_Mo_inject rfl (Or.inr ⟨_, rfl, rfl, rfl⟩) l3 rfl ?_
        refine m_if1 (t := 46) (pc' := 42) cd_Mo_inject rfl rfl rfl (fun c39 => ?_) (fun c39 => ?_)
        · exact absurd (show ((-1) : Int32) = 0 from c39) (by decide)
        · have c39 : ¬ ((-1) : Int32) = 0 := c39
          refine m_ild (pc' := 43) cd_Mo_inject rfl (Or.inr ⟨_, rfl, rfl, rfl⟩) l3 rfl ?_
          refine m_pure (pc' := 57) (st' := [.int (-1)]) cd_Mo_inject rfl rfl (fun _ _ => rfl) ?_
          exact m_reti cd_Mo_inject rfl ⟨_, rfl, kk⟩
      · have c26 : (inR x 6) = true := bz_t c26
        refine m_ild (pc' := 30) cd_Mo_inject rfl (Or.inr ⟨_, rfl, rfl, rfl⟩) l1 rfl ?_
        refine m_pure (pc' := 34) (st' := [.int x, .int 0, .int 0, .ref 1482]) cd_Mo_inject rfl rfl (fun _ _ => rfl) ?_
        refine m_ci (pc' := 37) cd_Mo_inject rfl rfl rfl rfl rfl cd_Mo_refused rfl (Nat.le_of_ble_eq_true rfl) (m_refusedN ?_)
        show mg _ _ _ 37 _ [.int (-1)] _ _
        refine m_ist (pc' := 38) cd_Mo_inject rfl (Or.inr ⟨_, rfl, rfl, rfl⟩) (by decide) rfl (fun lv el => ?_)
        have l0 := tm_lk el l0 rfl (by decide)
        have l1 := tm_lk el l1 rfl (by decide)
        have l2 := tm_lk el l2 rfl (by decide)
        have l3 : lv.lookup 3 = some (.int (-1)) := tm_lks el
        clear el
        refine m_ild (pc' := 39) cd_Mo_inject rfl (Or.inr ⟨_, rfl, rfl, rfl⟩) l3 rfl ?_
        refine m_if1 (t := 46) (pc' := 42) cd_Mo_inject rfl rfl rfl (fun c39 => ?_) (fun c39 => ?_)
        · exact absurd (show ((-1) : Int32) = 0 from c39) (by decide)
        · have c39 : ¬ ((-1) : Int32) = 0 := c39
          refine m_ild (pc' := 43) cd_Mo_inject rfl (Or.inr ⟨_, rfl, rfl, rfl⟩) l3 rfl ?_
          refine m_pure (pc' := 57) (st' := [.int (-1)]) cd_Mo_inject rfl rfl (fun _ _ => rfl) ?_
          exact m_reti cd_Mo_inject rfl ⟨_, rfl, kk⟩
    · have c13 : (!tnil (hl reg y)) = true := bz_t c13
      exact absurd hB (fun q => q.elim (fun q => Bool.noConfusion (q.symm.trans (c5))) (fun q => Bool.noConfusion ((show (!tnil (hl reg y)) = false from by rw [q]; rfl).symm.trans c13)))
set_option maxRecDepth 100000 in
theorem mo_publishD {sc : tm_X} {d : Nat} {f : Nat → Int32} {A : Nat → Nat → Int32} {n m s : Nat} {Q : Int32 → MS → Prop} (h11 : f 11 = nI n) (hn : n ≤ 2960) (h40 : f 40 = nI m) (hm : m ≤ 692) (hs : s < 6) (hdn : A 22 s = 1) (kk : Q (-3) (fset f 21 (f 21 + 1), A)) : mGi sc (d + 3) 199 [.ref 1482, .int (nI s)] (f, A) Q := by
  show mg sc (d + 3) 199 0 [(0, .ref 1482), (1, .int (nI s))] [] (f, A) _
  generalize elv : ([(0, .ref 1482), (1, .int (nI s))] : tm_L) = lv
  have l0 : lv.lookup 0 = some (.ref 1482) := by rw [← elv]; rfl
  have l1 : lv.lookup 1 = some (.int (nI s)) := by rw [← elv]; rfl
  clear elv
  refine m_ald (pc' := 1) cd_Mo_publish rfl (Or.inr ⟨_, rfl, rfl, rfl⟩) l0 rfl rfl ?_
  refine m_ild (pc' := 2) cd_Mo_publish rfl (Or.inr ⟨_, rfl, rfl, rfl⟩) l1 rfl ?_
  refine m_si (pc' := 5) cd_Mo_publish rfl rfl rfl rfl rfl cd_Mo_isDevice rfl (Nat.le_of_ble_eq_true rfl) (m_isDev1 hs ?_)
  show mg _ _ _ 5 _ [.int 1, .ref 1482] _ _
  refine m_k1 (v := 1) (pc' := 6) cd_Mo_publish rfl (by decide) rfl ?_
  refine m_ild (pc' := 7) cd_Mo_publish rfl (Or.inr ⟨_, rfl, rfl, rfl⟩) l1 rfl ?_
  refine m_ci (pc' := 10) cd_Mo_publish rfl rfl rfl rfl rfl cd_Mo_refused rfl (Nat.le_of_ble_eq_true rfl) (m_refused (b := true) (mk := true) (dn := true) (p := s) h11 hn h40 hm hs hdn (fun q => nomatch q) (fun _ _ => ?_) (fun _ q => nomatch q))
  show mg _ _ _ 10 _ [.int (-3)] _ _
  refine m_ist (pc' := 11) cd_Mo_publish rfl (Or.inr ⟨_, rfl, rfl, rfl⟩) (by decide) rfl (fun lv el => ?_)
  have l0 := tm_lk el l0 rfl (by decide)
  have l1 := tm_lk el l1 rfl (by decide)
  have l2 : lv.lookup 2 = some (.int (-3)) := tm_lks el
  clear el
  refine m_ild (pc' := 12) cd_Mo_publish rfl (Or.inr ⟨_, rfl, rfl, rfl⟩) l2 rfl ?_
  refine m_if1 (t := 17) (pc' := 15) cd_Mo_publish rfl rfl rfl (fun c12 => ?_) (fun c12 => ?_)
  · exact absurd (show ((-3) : Int32) = 0 from c12) (by decide)
  · have c12 : ¬ ((-3) : Int32) = 0 := c12
    refine m_ild (pc' := 16) cd_Mo_publish rfl (Or.inr ⟨_, rfl, rfl, rfl⟩) l2 rfl ?_
    exact m_reti cd_Mo_publish rfl ⟨_, rfl, kk⟩
set_option maxRecDepth 100000 in
theorem mo_beginD {sc : tm_X} {d : Nat} {f : Nat → Int32} {A : Nat → Nat → Int32} {n m s p : Nat} {Q : Int32 → MS → Prop} (h11 : f 11 = nI n) (hn : n ≤ 2960) (h40 : f 40 = nI m) (hm : m ≤ 692) (hs : s < 6) (hdn : A 22 s = 1) (hp : p < 6) (hsp : s ≠ p) (kk : Q (-3) (fset f 21 (f 21 + 1), A)) : mGi sc (d + 3) 210 [.ref 1482, .int (nI s), .int (nI p)] (f, A) Q := by
  show mg sc (d + 3) 210 0 [(0, .ref 1482), (1, .int (nI s)), (2, .int (nI p))] [] (f, A) _
  generalize elv : ([(0, .ref 1482), (1, .int (nI s)), (2, .int (nI p))] : tm_L) = lv
  have l0 : lv.lookup 0 = some (.ref 1482) := by rw [← elv]; rfl
  have l1 : lv.lookup 1 = some (.int (nI s)) := by rw [← elv]; rfl
  have l2 : lv.lookup 2 = some (.int (nI p)) := by rw [← elv]; rfl
  clear elv
  refine m_ald (pc' := 1) cd_Mo_begin rfl (Or.inr ⟨_, rfl, rfl, rfl⟩) l0 rfl rfl ?_
  refine m_ild (pc' := 2) cd_Mo_begin rfl (Or.inr ⟨_, rfl, rfl, rfl⟩) l1 rfl ?_
  refine m_si (pc' := 5) cd_Mo_begin rfl rfl rfl rfl rfl cd_Mo_isDevice rfl (Nat.le_of_ble_eq_true rfl) (m_isDev1 hs ?_)
  show mg _ _ _ 5 _ [.int 1, .ref 1482] _ _
  refine m_if1 (t := 24) (pc' := 8) cd_Mo_begin rfl rfl rfl (fun c5 => ?_) (fun c5 => ?_)
  · exact absurd (show (1 : Int32) = 0 from c5) (by decide)
  · have c5 : ¬ (1 : Int32) = 0 := c5
    refine m_ild (pc' := 9) cd_Mo_begin rfl (Or.inr ⟨_, rfl, rfl, rfl⟩) l2 rfl ?_
    refine m_si (pc' := 12) cd_Mo_begin rfl rfl rfl rfl rfl cd_Mo_isDevice rfl (Nat.le_of_ble_eq_true rfl) (m_isDev1 hp ?_)
    show mg _ _ _ 12 _ [.int 1, .ref 1482] _ _
    refine m_if1 (t := 24) (pc' := 15) cd_Mo_begin rfl rfl rfl (fun c12 => ?_) (fun c12 => ?_)
    · exact absurd (show (1 : Int32) = 0 from c12) (by decide)
    · have c12 : ¬ (1 : Int32) = 0 := c12
      refine m_ild (pc' := 16) cd_Mo_begin rfl (Or.inr ⟨_, rfl, rfl, rfl⟩) l1 rfl ?_
      refine m_ild (pc' := 17) cd_Mo_begin rfl (Or.inr ⟨_, rfl, rfl, rfl⟩) l2 rfl ?_
      refine m_if2 (t := 24) (pc' := 20) cd_Mo_begin rfl rfl rfl (fun c17 => ?_) (fun c17 => ?_)
      · have c17 : (nI s) = (nI p) := c17
        exact absurd (nI_cxl (by omega) (by omega) c17) hsp
      · have c17 : ¬ (nI s) = (nI p) := c17
        refine m_k1 (v := 1) (pc' := 21) cd_Mo_begin rfl (by decide) rfl ?_
        refine m_pure (pc' := 25) (st' := [.int 1, .ref 1482]) cd_Mo_begin rfl rfl (fun _ _ => rfl) ?_
        refine m_k1 (v := 1) (pc' := 26) cd_Mo_begin rfl (by decide) rfl ?_
        refine m_ild (pc' := 27) cd_Mo_begin rfl (Or.inr ⟨_, rfl, rfl, rfl⟩) l1 rfl ?_
        refine m_ci (pc' := 30) cd_Mo_begin rfl rfl rfl rfl rfl cd_Mo_refused rfl (Nat.le_of_ble_eq_true rfl) (m_refused (b := true) (mk := true) (dn := true) (p := s) h11 hn h40 hm hs hdn (fun q => nomatch q) (fun _ _ => ?_) (fun _ q => nomatch q))
        show mg _ _ _ 30 _ [.int (-3)] _ _
        refine m_ist (pc' := 31) cd_Mo_begin rfl (Or.inr ⟨_, rfl, rfl, rfl⟩) (by decide) rfl (fun lv el => ?_)
        have l0 := tm_lk el l0 rfl (by decide)
        have l1 := tm_lk el l1 rfl (by decide)
        have l2 := tm_lk el l2 rfl (by decide)
        have l3 : lv.lookup 3 = some (.int (-3)) := tm_lks el
        clear el
        refine m_ild (pc' := 32) cd_Mo_begin rfl (Or.inr ⟨_, rfl, rfl, rfl⟩) l3 rfl ?_
        refine m_if1 (t := 37) (pc' := 35) cd_Mo_begin rfl rfl rfl (fun c32 => ?_) (fun c32 => ?_)
        · exact absurd (show ((-3) : Int32) = 0 from c32) (by decide)
        · have c32 : ¬ ((-3) : Int32) = 0 := c32
          refine m_ild (pc' := 36) cd_Mo_begin rfl (Or.inr ⟨_, rfl, rfl, rfl⟩) l3 rfl ?_
          exact m_reti cd_Mo_begin rfl ⟨_, rfl, kk⟩
set_option maxRecDepth 100000 in
theorem mo_sendD {sc : tm_X} {d : Nat} {f : Nat → Int32} {A : Nat → Nat → Int32} {n m s p : Nat} {Q : Int32 → MS → Prop} (h11 : f 11 = nI n) (hn : n ≤ 2960) (h40 : f 40 = nI m) (hm : m ≤ 692) (hs : s < 6) (hdn : A 22 s = 1) (hp : p < 6) (hsp : s ≠ p) (kk : Q (-3) (fset f 21 (f 21 + 1), A)) : mGi sc (d + 3) 223 [.ref 1482, .int (nI s), .int (nI p)] (f, A) Q := by
  show mg sc (d + 3) 223 0 [(0, .ref 1482), (1, .int (nI s)), (2, .int (nI p))] [] (f, A) _
  generalize elv : ([(0, .ref 1482), (1, .int (nI s)), (2, .int (nI p))] : tm_L) = lv
  have l0 : lv.lookup 0 = some (.ref 1482) := by rw [← elv]; rfl
  have l1 : lv.lookup 1 = some (.int (nI s)) := by rw [← elv]; rfl
  have l2 : lv.lookup 2 = some (.int (nI p)) := by rw [← elv]; rfl
  clear elv
  refine m_ald (pc' := 1) cd_Mo_send rfl (Or.inr ⟨_, rfl, rfl, rfl⟩) l0 rfl rfl ?_
  refine m_ild (pc' := 2) cd_Mo_send rfl (Or.inr ⟨_, rfl, rfl, rfl⟩) l1 rfl ?_
  refine m_si (pc' := 5) cd_Mo_send rfl rfl rfl rfl rfl cd_Mo_isDevice rfl (Nat.le_of_ble_eq_true rfl) (m_isDev1 hs ?_)
  show mg _ _ _ 5 _ [.int 1, .ref 1482] _ _
  refine m_if1 (t := 24) (pc' := 8) cd_Mo_send rfl rfl rfl (fun c5 => ?_) (fun c5 => ?_)
  · exact absurd (show (1 : Int32) = 0 from c5) (by decide)
  · have c5 : ¬ (1 : Int32) = 0 := c5
    refine m_ild (pc' := 9) cd_Mo_send rfl (Or.inr ⟨_, rfl, rfl, rfl⟩) l2 rfl ?_
    refine m_si (pc' := 12) cd_Mo_send rfl rfl rfl rfl rfl cd_Mo_isDevice rfl (Nat.le_of_ble_eq_true rfl) (m_isDev1 hp ?_)
    show mg _ _ _ 12 _ [.int 1, .ref 1482] _ _
    refine m_if1 (t := 24) (pc' := 15) cd_Mo_send rfl rfl rfl (fun c12 => ?_) (fun c12 => ?_)
    · exact absurd (show (1 : Int32) = 0 from c12) (by decide)
    · have c12 : ¬ (1 : Int32) = 0 := c12
      refine m_ild (pc' := 16) cd_Mo_send rfl (Or.inr ⟨_, rfl, rfl, rfl⟩) l1 rfl ?_
      refine m_ild (pc' := 17) cd_Mo_send rfl (Or.inr ⟨_, rfl, rfl, rfl⟩) l2 rfl ?_
      refine m_if2 (t := 24) (pc' := 20) cd_Mo_send rfl rfl rfl (fun c17 => ?_) (fun c17 => ?_)
      · have c17 : (nI s) = (nI p) := c17
        exact absurd (nI_cxl (by omega) (by omega) c17) hsp
      · have c17 : ¬ (nI s) = (nI p) := c17
        refine m_k1 (v := 1) (pc' := 21) cd_Mo_send rfl (by decide) rfl ?_
        refine m_pure (pc' := 25) (st' := [.int 1, .ref 1482]) cd_Mo_send rfl rfl (fun _ _ => rfl) ?_
        refine m_k1 (v := 1) (pc' := 26) cd_Mo_send rfl (by decide) rfl ?_
        refine m_ild (pc' := 27) cd_Mo_send rfl (Or.inr ⟨_, rfl, rfl, rfl⟩) l1 rfl ?_
        refine m_ci (pc' := 30) cd_Mo_send rfl rfl rfl rfl rfl cd_Mo_refused rfl (Nat.le_of_ble_eq_true rfl) (m_refused (b := true) (mk := true) (dn := true) (p := s) h11 hn h40 hm hs hdn (fun q => nomatch q) (fun _ _ => ?_) (fun _ q => nomatch q))
        show mg _ _ _ 30 _ [.int (-3)] _ _
        refine m_ist (pc' := 31) cd_Mo_send rfl (Or.inr ⟨_, rfl, rfl, rfl⟩) (by decide) rfl (fun lv el => ?_)
        have l0 := tm_lk el l0 rfl (by decide)
        have l1 := tm_lk el l1 rfl (by decide)
        have l2 := tm_lk el l2 rfl (by decide)
        have l3 : lv.lookup 3 = some (.int (-3)) := tm_lks el
        clear el
        refine m_ild (pc' := 32) cd_Mo_send rfl (Or.inr ⟨_, rfl, rfl, rfl⟩) l3 rfl ?_
        refine m_if1 (t := 37) (pc' := 35) cd_Mo_send rfl rfl rfl (fun c32 => ?_) (fun c32 => ?_)
        · exact absurd (show ((-3) : Int32) = 0 from c32) (by decide)
        · have c32 : ¬ ((-3) : Int32) = 0 := c32
          refine m_ild (pc' := 36) cd_Mo_send rfl (Or.inr ⟨_, rfl, rfl, rfl⟩) l3 rfl ?_
          exact m_reti cd_Mo_send rfl ⟨_, rfl, kk⟩
set_option maxRecDepth 100000 in
theorem mo_list2D {sc : tm_X} {d : Nat} {f : Nat → Int32} {A : Nat → Nat → Int32} {n m s : Nat} {y : Int32} {Q : Int32 → MS → Prop} (h11 : f 11 = nI n) (hn : n ≤ 2960) (h40 : f 40 = nI m) (hm : m ≤ 692) (hs : s < 6) (hdn : A 22 s = 1) (hg : s < 4) (hy : inR y 64 = true) (kk : Q (-3) (fset f 21 (f 21 + 1), A)) : mGi sc (d + 3) 226 [.ref 1482, .int (nI s), .int y] (f, A) Q := by
  show mg sc (d + 3) 226 0 [(0, .ref 1482), (1, .int (nI s)), (2, .int y)] [] (f, A) _
  generalize elv : ([(0, .ref 1482), (1, .int (nI s)), (2, .int y)] : tm_L) = lv
  have l0 : lv.lookup 0 = some (.ref 1482) := by rw [← elv]; rfl
  have l1 : lv.lookup 1 = some (.int (nI s)) := by rw [← elv]; rfl
  have l2 : lv.lookup 2 = some (.int y) := by rw [← elv]; rfl
  clear elv
  refine m_ald (pc' := 1) cd_Mo_list2 rfl (Or.inr ⟨_, rfl, rfl, rfl⟩) l0 rfl rfl ?_
  refine m_ild (pc' := 2) cd_Mo_list2 rfl (Or.inr ⟨_, rfl, rfl, rfl⟩) l1 rfl ?_
  refine m_if1 (t := 24) (pc' := 5) cd_Mo_list2 rfl rfl rfl (fun c2 => ?_) (fun c2 => ?_)
  · have c2 : (nI s) < 0 := c2
    exact absurd c2 (nI_nlt0 (by omega))
  · have c2 : ¬ (nI s) < 0 := c2
    refine m_ild (pc' := 6) cd_Mo_list2 rfl (Or.inr ⟨_, rfl, rfl, rfl⟩) l1 rfl ?_
    refine m_k1 (v := 4) (pc' := 7) cd_Mo_list2 rfl (by decide) rfl ?_
    refine m_if2 (t := 24) (pc' := 10) cd_Mo_list2 rfl rfl rfl (fun c7 => ?_) (fun c7 => ?_)
    · have c7 : (4 : Int32) ≤ (nI s) := c7
      exact absurd c7 (nI_ge (b := 4) hg (by decide))
    · have c7 : ¬ (4 : Int32) ≤ (nI s) := c7
      refine m_ild (pc' := 11) cd_Mo_list2 rfl (Or.inr ⟨_, rfl, rfl, rfl⟩) l2 rfl ?_
      refine m_if1 (t := 24) (pc' := 14) cd_Mo_list2 rfl rfl rfl (fun c11 => ?_) (fun c11 => ?_)
      · have c11 : y < 0 := c11
        exact absurd (hy.symm.trans (inR_lo c11)) (by decide)
      · have c11 : ¬ y < 0 := c11
        refine m_ild (pc' := 15) cd_Mo_list2 rfl (Or.inr ⟨_, rfl, rfl, rfl⟩) l2 rfl ?_
        refine m_k2 (v := 64) (pc' := 17) cd_Mo_list2 rfl (by decide) rfl ?_
        refine m_if2 (t := 24) (pc' := 20) cd_Mo_list2 rfl rfl rfl (fun c17 => ?_) (fun c17 => ?_)
        · have c17 : (64 : Int32) ≤ y := c17
          exact absurd (hy.symm.trans (inR_hi c17)) (by decide)
        · have c17 : ¬ (64 : Int32) ≤ y := c17
          refine m_k1 (v := 1) (pc' := 21) cd_Mo_list2 rfl (by decide) rfl ?_
          refine m_pure (pc' := 25) (st' := [.int 1, .ref 1482]) cd_Mo_list2 rfl rfl (fun _ _ => rfl) ?_
          refine m_k1 (v := 1) (pc' := 26) cd_Mo_list2 rfl (by decide) rfl ?_
          refine m_ild (pc' := 27) cd_Mo_list2 rfl (Or.inr ⟨_, rfl, rfl, rfl⟩) l1 rfl ?_
          refine m_if1 (t := 35) (pc' := 30) cd_Mo_list2 rfl rfl rfl (fun c27 => ?_) (fun c27 => ?_)
          · have c27 : (nI s) < 0 := c27
            exact absurd c27 (nI_nlt0 (by omega))
          · have c27 : ¬ (nI s) < 0 := c27
            refine m_ild (pc' := 31) cd_Mo_list2 rfl (Or.inr ⟨_, rfl, rfl, rfl⟩) l1 rfl ?_
            refine m_k1 (v := 4) (pc' := 32) cd_Mo_list2 rfl (by decide) rfl ?_
            refine m_if2 (t := 39) (pc' := 35) cd_Mo_list2 rfl rfl rfl (fun c32 => ?_) (fun c32 => ?_)
            · have c32 : (nI s) < 4 := c32
              refine m_ild (pc' := 40) cd_Mo_list2 rfl (Or.inr ⟨_, rfl, rfl, rfl⟩) l1 rfl ?_
              refine m_ci (pc' := 43) cd_Mo_list2 rfl rfl rfl rfl rfl cd_Mo_refused rfl (Nat.le_of_ble_eq_true rfl) (m_refused (b := true) (mk := true) (dn := true) (p := s) h11 hn h40 hm hs hdn (fun q => nomatch q) (fun _ _ => ?_) (fun _ q => nomatch q))
              show mg _ _ _ 43 _ [.int (-3)] _ _
              refine m_ist (pc' := 44) cd_Mo_list2 rfl (Or.inr ⟨_, rfl, rfl, rfl⟩) (by decide) rfl (fun lv el => ?_)
              have l0 := tm_lk el l0 rfl (by decide)
              have l1 := tm_lk el l1 rfl (by decide)
              have l2 := tm_lk el l2 rfl (by decide)
              have l3 : lv.lookup 3 = some (.int (-3)) := tm_lks el
              clear el
              refine m_ild (pc' := 45) cd_Mo_list2 rfl (Or.inr ⟨_, rfl, rfl, rfl⟩) l3 rfl ?_
              refine m_if1 (t := 50) (pc' := 48) cd_Mo_list2 rfl rfl rfl (fun c45 => ?_) (fun c45 => ?_)
              · exact absurd (show ((-3) : Int32) = 0 from c45) (by decide)
              · have c45 : ¬ ((-3) : Int32) = 0 := c45
                refine m_ild (pc' := 49) cd_Mo_list2 rfl (Or.inr ⟨_, rfl, rfl, rfl⟩) l3 rfl ?_
                exact m_reti cd_Mo_list2 rfl ⟨_, rfl, kk⟩
            · have c32 : ¬ (nI s) < 4 := c32
              exact absurd ((nI_ltI (a := s) (b := 4) (by omega) (by decide)).mpr hg) c32
set_option maxRecDepth 100000 in
theorem mo_postD {sc : tm_X} {d : Nat} {f : Nat → Int32} {A : Nat → Nat → Int32} {n m s p : Nat} {Q : Int32 → MS → Prop} (h11 : f 11 = nI n) (hn : n ≤ 2960) (h40 : f 40 = nI m) (hm : m ≤ 692) (hs : s < 6) (hdn : A 22 s = 1) (hg : p < 4) (kk : Q (-3) (fset f 21 (f 21 + 1), A)) : mGi sc (d + 3) 228 [.ref 1482, .int (nI s), .int (nI p)] (f, A) Q := by
  show mg sc (d + 3) 228 0 [(0, .ref 1482), (1, .int (nI s)), (2, .int (nI p))] [] (f, A) _
  generalize elv : ([(0, .ref 1482), (1, .int (nI s)), (2, .int (nI p))] : tm_L) = lv
  have l0 : lv.lookup 0 = some (.ref 1482) := by rw [← elv]; rfl
  have l1 : lv.lookup 1 = some (.int (nI s)) := by rw [← elv]; rfl
  have l2 : lv.lookup 2 = some (.int (nI p)) := by rw [← elv]; rfl
  clear elv
  refine m_ald (pc' := 1) cd_Mo_post rfl (Or.inr ⟨_, rfl, rfl, rfl⟩) l0 rfl rfl ?_
  refine m_ild (pc' := 2) cd_Mo_post rfl (Or.inr ⟨_, rfl, rfl, rfl⟩) l1 rfl ?_
  refine m_si (pc' := 5) cd_Mo_post rfl rfl rfl rfl rfl cd_Mo_isDevice rfl (Nat.le_of_ble_eq_true rfl) (m_isDev1 hs ?_)
  show mg _ _ _ 5 _ [.int 1, .ref 1482] _ _
  refine m_if1 (t := 21) (pc' := 8) cd_Mo_post rfl rfl rfl (fun c5 => ?_) (fun c5 => ?_)
  · exact absurd (show (1 : Int32) = 0 from c5) (by decide)
  · have c5 : ¬ (1 : Int32) = 0 := c5
    refine m_ild (pc' := 9) cd_Mo_post rfl (Or.inr ⟨_, rfl, rfl, rfl⟩) l2 rfl ?_
    refine m_if1 (t := 21) (pc' := 12) cd_Mo_post rfl rfl rfl (fun c9 => ?_) (fun c9 => ?_)
    · have c9 : (nI p) < 0 := c9
      exact absurd c9 (nI_nlt0 (by omega))
    · have c9 : ¬ (nI p) < 0 := c9
      refine m_ild (pc' := 13) cd_Mo_post rfl (Or.inr ⟨_, rfl, rfl, rfl⟩) l2 rfl ?_
      refine m_k1 (v := 4) (pc' := 14) cd_Mo_post rfl (by decide) rfl ?_
      refine m_if2 (t := 21) (pc' := 17) cd_Mo_post rfl rfl rfl (fun c14 => ?_) (fun c14 => ?_)
      · have c14 : (4 : Int32) ≤ (nI p) := c14
        exact absurd c14 (nI_ge (b := 4) hg (by decide))
      · have c14 : ¬ (4 : Int32) ≤ (nI p) := c14
        refine m_k1 (v := 1) (pc' := 18) cd_Mo_post rfl (by decide) rfl ?_
        refine m_pure (pc' := 22) (st' := [.int 1, .ref 1482]) cd_Mo_post rfl rfl (fun _ _ => rfl) ?_
        refine m_k1 (v := 1) (pc' := 23) cd_Mo_post rfl (by decide) rfl ?_
        refine m_ild (pc' := 24) cd_Mo_post rfl (Or.inr ⟨_, rfl, rfl, rfl⟩) l1 rfl ?_
        refine m_si (pc' := 27) cd_Mo_post rfl rfl rfl rfl rfl cd_Mo_isDevice rfl (Nat.le_of_ble_eq_true rfl) (m_isDev1 hs ?_)
        show mg _ _ _ 27 _ [.int 1, .int 1, .int 1, .ref 1482] _ _
        refine m_if1 (t := 34) (pc' := 30) cd_Mo_post rfl rfl rfl (fun c27 => ?_) (fun c27 => ?_)
        · exact absurd (show (1 : Int32) = 0 from c27) (by decide)
        · have c27 : ¬ (1 : Int32) = 0 := c27
          refine m_ild (pc' := 31) cd_Mo_post rfl (Or.inr ⟨_, rfl, rfl, rfl⟩) l1 rfl ?_
          refine m_pure (pc' := 35) (st' := [.int (nI s), .int 1, .int 1, .ref 1482]) cd_Mo_post rfl rfl (fun _ _ => rfl) ?_
          refine m_ci (pc' := 38) cd_Mo_post rfl rfl rfl rfl rfl cd_Mo_refused rfl (Nat.le_of_ble_eq_true rfl) (m_refused (b := true) (mk := true) (dn := true) (p := s) h11 hn h40 hm hs hdn (fun q => nomatch q) (fun _ _ => ?_) (fun _ q => nomatch q))
          show mg _ _ _ 38 _ [.int (-3)] _ _
          refine m_ist (pc' := 39) cd_Mo_post rfl (Or.inr ⟨_, rfl, rfl, rfl⟩) (by decide) rfl (fun lv el => ?_)
          have l0 := tm_lk el l0 rfl (by decide)
          have l1 := tm_lk el l1 rfl (by decide)
          have l2 := tm_lk el l2 rfl (by decide)
          have l3 : lv.lookup 3 = some (.int (-3)) := tm_lks el
          clear el
          refine m_ild (pc' := 40) cd_Mo_post rfl (Or.inr ⟨_, rfl, rfl, rfl⟩) l3 rfl ?_
          refine m_if1 (t := 45) (pc' := 43) cd_Mo_post rfl rfl rfl (fun c40 => ?_) (fun c40 => ?_)
          · exact absurd (show ((-3) : Int32) = 0 from c40) (by decide)
          · have c40 : ¬ ((-3) : Int32) = 0 := c40
            refine m_ild (pc' := 44) cd_Mo_post rfl (Or.inr ⟨_, rfl, rfl, rfl⟩) l3 rfl ?_
            exact m_reti cd_Mo_post rfl ⟨_, rfl, kk⟩
set_option maxRecDepth 100000 in
theorem mo_deliverD {sc : tm_X} {d : Nat} {f : Nat → Int32} {A : Nat → Nat → Int32} {n m s p : Nat} {Q : Int32 → MS → Prop} (h11 : f 11 = nI n) (hn : n ≤ 2960) (h40 : f 40 = nI m) (hm : m ≤ 692) (hs : s < 6) (hdn : A 22 s = 1) (hi : p < m) (kk : Q (-3) (fset f 21 (f 21 + 1), A)) : mGi sc (d + 3) 229 [.ref 1482, .int (nI s), .int (nI p)] (f, A) Q := by
  show mg sc (d + 3) 229 0 [(0, .ref 1482), (1, .int (nI s)), (2, .int (nI p))] [] (f, A) _
  generalize elv : ([(0, .ref 1482), (1, .int (nI s)), (2, .int (nI p))] : tm_L) = lv
  have l0 : lv.lookup 0 = some (.ref 1482) := by rw [← elv]; rfl
  have l1 : lv.lookup 1 = some (.int (nI s)) := by rw [← elv]; rfl
  have l2 : lv.lookup 2 = some (.int (nI p)) := by rw [← elv]; rfl
  clear elv
  refine m_ald (pc' := 1) cd_Mo_deliver rfl (Or.inr ⟨_, rfl, rfl, rfl⟩) l0 rfl rfl ?_
  refine m_ild (pc' := 2) cd_Mo_deliver rfl (Or.inr ⟨_, rfl, rfl, rfl⟩) l1 rfl ?_
  refine m_si (pc' := 5) cd_Mo_deliver rfl rfl rfl rfl rfl cd_Mo_isDevice rfl (Nat.le_of_ble_eq_true rfl) (m_isDev1 hs ?_)
  show mg _ _ _ 5 _ [.int 1, .ref 1482] _ _
  refine m_if1 (t := 24) (pc' := 8) cd_Mo_deliver rfl rfl rfl (fun c5 => ?_) (fun c5 => ?_)
  · exact absurd (show (1 : Int32) = 0 from c5) (by decide)
  · have c5 : ¬ (1 : Int32) = 0 := c5
    refine m_ild (pc' := 9) cd_Mo_deliver rfl (Or.inr ⟨_, rfl, rfl, rfl⟩) l2 rfl ?_
    refine m_if1 (t := 24) (pc' := 12) cd_Mo_deliver rfl rfl rfl (fun c9 => ?_) (fun c9 => ?_)
    · have c9 : (nI p) < 0 := c9
      exact absurd c9 (nI_nlt0 (by omega))
    · have c9 : ¬ (nI p) < 0 := c9
      refine m_ild (pc' := 13) cd_Mo_deliver rfl (Or.inr ⟨_, rfl, rfl, rfl⟩) l2 rfl ?_
      refine m_ald (pc' := 14) cd_Mo_deliver rfl (Or.inr ⟨_, rfl, rfl, rfl⟩) l0 rfl rfl ?_
      refine m_fI (k := 40) (x := (nI m)) (pc' := 17) cd_Mo_deliver rfl rfl rfl rfl rfl h40 ?_
      refine m_if2 (t := 24) (pc' := 20) cd_Mo_deliver rfl rfl rfl (fun c17 => ?_) (fun c17 => ?_)
      · have c17 : (nI m) ≤ (nI p) := c17
        exact absurd c17 (nI_ge hi (by omega))
      · have c17 : ¬ (nI m) ≤ (nI p) := c17
        refine m_k1 (v := 1) (pc' := 21) cd_Mo_deliver rfl (by decide) rfl ?_
        refine m_pure (pc' := 25) (st' := [.int 1, .ref 1482]) cd_Mo_deliver rfl rfl (fun _ _ => rfl) ?_
        refine m_k1 (v := 0) (pc' := 26) cd_Mo_deliver rfl (by decide) rfl ?_
        refine m_ild (pc' := 27) cd_Mo_deliver rfl (Or.inr ⟨_, rfl, rfl, rfl⟩) l1 rfl ?_
        refine m_si (pc' := 30) cd_Mo_deliver rfl rfl rfl rfl rfl cd_Mo_isDevice rfl (Nat.le_of_ble_eq_true rfl) (m_isDev1 hs ?_)
        show mg _ _ _ 30 _ [.int 1, .int 0, .int 1, .ref 1482] _ _
        refine m_if1 (t := 37) (pc' := 33) cd_Mo_deliver rfl rfl rfl (fun c30 => ?_) (fun c30 => ?_)
        · exact absurd (show (1 : Int32) = 0 from c30) (by decide)
        · have c30 : ¬ (1 : Int32) = 0 := c30
          refine m_ild (pc' := 34) cd_Mo_deliver rfl (Or.inr ⟨_, rfl, rfl, rfl⟩) l1 rfl ?_
          refine m_pure (pc' := 38) (st' := [.int (nI s), .int 0, .int 1, .ref 1482]) cd_Mo_deliver rfl rfl (fun _ _ => rfl) ?_
          refine m_ci (pc' := 41) cd_Mo_deliver rfl rfl rfl rfl rfl cd_Mo_refused rfl (Nat.le_of_ble_eq_true rfl) (m_refused (b := true) (mk := false) (dn := true) (p := s) h11 hn h40 hm hs hdn (fun q => nomatch q) (fun _ _ => ?_) (fun _ q => nomatch q))
          show mg _ _ _ 41 _ [.int (-3)] _ _
          refine m_ist (pc' := 42) cd_Mo_deliver rfl (Or.inr ⟨_, rfl, rfl, rfl⟩) (by decide) rfl (fun lv el => ?_)
          have l0 := tm_lk el l0 rfl (by decide)
          have l1 := tm_lk el l1 rfl (by decide)
          have l2 := tm_lk el l2 rfl (by decide)
          have l3 : lv.lookup 3 = some (.int (-3)) := tm_lks el
          clear el
          refine m_ild (pc' := 43) cd_Mo_deliver rfl (Or.inr ⟨_, rfl, rfl, rfl⟩) l3 rfl ?_
          refine m_if1 (t := 50) (pc' := 46) cd_Mo_deliver rfl rfl rfl (fun c43 => ?_) (fun c43 => ?_)
          · exact absurd (show ((-3) : Int32) = 0 from c43) (by decide)
          · have c43 : ¬ ((-3) : Int32) = 0 := c43
            refine m_ild (pc' := 47) cd_Mo_deliver rfl (Or.inr ⟨_, rfl, rfl, rfl⟩) l3 rfl ?_
            refine m_pure (pc' := 61) (st' := [.int (-3)]) cd_Mo_deliver rfl rfl (fun _ _ => rfl) ?_
            exact m_reti cd_Mo_deliver rfl ⟨_, rfl, kk⟩
set_option maxRecDepth 100000 in
theorem mo_injectD {sc : tm_X} {d : Nat} {f : Nat → Int32} {A : Nat → Nat → Int32} {T : List Tm} {DL : List (Int32 × Int32)} {G Kw : Tm → Prop} {reg : Nat → Tm} {n m s : Nat} {y : Int32} {Q : Int32 → MS → Prop} (h11 : f 11 = nI n) (hn : n ≤ 2960) (h40 : f 40 = nI m) (hm : m ≤ 692) (hs : s < 6) (hdn : A 22 s = 1) (hM : MT f A T DL G Kw) (hR : ∀ i, i < 32 → tv T (A 45 i) (reg i)) (hy : hl reg y ≠ tz) (kk : Q (-3) (fset f 21 (f 21 + 1), A)) : mGi sc (d + 3) 248 [.ref 1482, .int (nI s), .int y] (f, A) Q := by
  show mg sc (d + 3) 248 0 [(0, .ref 1482), (1, .int (nI s)), (2, .int y)] [] (f, A) _
  generalize elv : ([(0, .ref 1482), (1, .int (nI s)), (2, .int y)] : tm_L) = lv
  have l0 : lv.lookup 0 = some (.ref 1482) := by rw [← elv]; rfl
  have l1 : lv.lookup 1 = some (.int (nI s)) := by rw [← elv]; rfl
  have l2 : lv.lookup 2 = some (.int y) := by rw [← elv]; rfl
  clear elv
  refine m_ald (pc' := 1) cd_Mo_inject rfl (Or.inr ⟨_, rfl, rfl, rfl⟩) l0 rfl rfl ?_
  refine m_ild (pc' := 2) cd_Mo_inject rfl (Or.inr ⟨_, rfl, rfl, rfl⟩) l1 rfl ?_
  refine m_si (pc' := 5) cd_Mo_inject rfl rfl rfl rfl rfl cd_Mo_isDevice rfl (Nat.le_of_ble_eq_true rfl) (m_isDev1 hs ?_)
  show mg _ _ _ 5 _ [.int 1, .ref 1482] _ _
  refine m_if1 (t := 20) (pc' := 8) cd_Mo_inject rfl rfl rfl (fun c5 => ?_) (fun c5 => ?_)
  · exact absurd (show (1 : Int32) = 0 from c5) (by decide)
  · have c5 : ¬ (1 : Int32) = 0 := c5
    refine m_ald (pc' := 9) cd_Mo_inject rfl (Or.inr ⟨_, rfl, rfl, rfl⟩) l0 rfl rfl ?_
    refine m_ild (pc' := 10) cd_Mo_inject rfl (Or.inr ⟨_, rfl, rfl, rfl⟩) l2 rfl ?_
    refine m_ci (pc' := 13) cd_Mo_inject rfl rfl rfl rfl rfl cd_Mo_isHeld rfl (Nat.le_of_ble_eq_true rfl) (m_held hM hR ?_)
    show mg _ _ _ 13 _ [.int (bz (!tnil (hl reg y))), .ref 1482] _ _
    refine m_if1 (t := 20) (pc' := 16) cd_Mo_inject rfl rfl rfl (fun c13 => ?_) (fun c13 => ?_)
    · have c13 : (!tnil (hl reg y)) = false := bz_f c13
      exact absurd (c13.symm.trans (show (!tnil (hl reg y)) = true by rw [tnil_f hy]; rfl)) (by decide)
    · have c13 : (!tnil (hl reg y)) = true := bz_t c13
      refine m_k1 (v := 1) (pc' := 17) cd_Mo_inject rfl (by decide) rfl ?_
      refine m_pure (pc' := 21) (st' := [.int 1, .ref 1482]) cd_Mo_inject rfl rfl (fun _ _ => rfl) ?_
      refine m_k1 (v := 0) (pc' := 22) cd_Mo_inject rfl (by decide) rfl ?_
      refine m_ild (pc' := 23) cd_Mo_inject rfl (Or.inr ⟨_, rfl, rfl, rfl⟩) l1 rfl ?_
      refine m_si (pc' := 26) cd_Mo_inject rfl rfl rfl rfl rfl cd_Mo_isDevice rfl (Nat.le_of_ble_eq_true rfl) (m_isDev1 hs ?_)
      show mg _ _ _ 26 _ [.int 1, .int 0, .int 1, .ref 1482] _ _
      refine m_if1 (t := 33) (pc' := 29) cd_Mo_inject rfl rfl rfl (fun c26 => ?_) (fun c26 => ?_)
      · exact absurd (show (1 : Int32) = 0 from c26) (by decide)
      · have c26 : ¬ (1 : Int32) = 0 := c26
        refine m_ild (pc' := 30) cd_Mo_inject rfl (Or.inr ⟨_, rfl, rfl, rfl⟩) l1 rfl ?_
        refine m_pure (pc' := 34) (st' := [.int (nI s), .int 0, .int 1, .ref 1482]) cd_Mo_inject rfl rfl (fun _ _ => rfl) ?_
        refine m_ci (pc' := 37) cd_Mo_inject rfl rfl rfl rfl rfl cd_Mo_refused rfl (Nat.le_of_ble_eq_true rfl) (m_refused (b := true) (mk := false) (dn := true) (p := s) h11 hn h40 hm hs hdn (fun q => nomatch q) (fun _ _ => ?_) (fun _ q => nomatch q))
        show mg _ _ _ 37 _ [.int (-3)] _ _
        refine m_ist (pc' := 38) cd_Mo_inject rfl (Or.inr ⟨_, rfl, rfl, rfl⟩) (by decide) rfl (fun lv el => ?_)
        have l0 := tm_lk el l0 rfl (by decide)
        have l1 := tm_lk el l1 rfl (by decide)
        have l2 := tm_lk el l2 rfl (by decide)
        have l3 : lv.lookup 3 = some (.int (-3)) := tm_lks el
        clear el
        refine m_ild (pc' := 39) cd_Mo_inject rfl (Or.inr ⟨_, rfl, rfl, rfl⟩) l3 rfl ?_
        refine m_if1 (t := 46) (pc' := 42) cd_Mo_inject rfl rfl rfl (fun c39 => ?_) (fun c39 => ?_)
        · exact absurd (show ((-3) : Int32) = 0 from c39) (by decide)
        · have c39 : ¬ ((-3) : Int32) = 0 := c39
          refine m_ild (pc' := 43) cd_Mo_inject rfl (Or.inr ⟨_, rfl, rfl, rfl⟩) l3 rfl ?_
          refine m_pure (pc' := 57) (st' := [.int (-3)]) cd_Mo_inject rfl rfl (fun _ _ => rfl) ?_
          exact m_reti cd_Mo_inject rfl ⟨_, rfl, kk⟩
set_option maxRecDepth 100000 in
theorem mo_crashD {sc : tm_X} {d : Nat} {f : Nat → Int32} {A : Nat → Nat → Int32} {n m s p : Nat} {Q : Int32 → MS → Prop} (h11 : f 11 = nI n) (hn : n ≤ 2960) (h40 : f 40 = nI m) (hm : m ≤ 692) (hs : s < 6) (hdn : A 22 s = 1) (hj : p ≤ 200) (kk : Q (-3) (fset f 21 (f 21 + 1), A)) : mGi sc (d + 3) 251 [.ref 1482, .int (nI s), .int (nI p)] (f, A) Q := by
  show mg sc (d + 3) 251 0 [(0, .ref 1482), (1, .int (nI s)), (2, .int (nI p))] [] (f, A) _
  generalize elv : ([(0, .ref 1482), (1, .int (nI s)), (2, .int (nI p))] : tm_L) = lv
  have l0 : lv.lookup 0 = some (.ref 1482) := by rw [← elv]; rfl
  have l1 : lv.lookup 1 = some (.int (nI s)) := by rw [← elv]; rfl
  have l2 : lv.lookup 2 = some (.int (nI p)) := by rw [← elv]; rfl
  clear elv
  refine m_ald (pc' := 1) cd_Mo_crash rfl (Or.inr ⟨_, rfl, rfl, rfl⟩) l0 rfl rfl ?_
  refine m_ild (pc' := 2) cd_Mo_crash rfl (Or.inr ⟨_, rfl, rfl, rfl⟩) l1 rfl ?_
  refine m_si (pc' := 5) cd_Mo_crash rfl rfl rfl rfl rfl cd_Mo_isDevice rfl (Nat.le_of_ble_eq_true rfl) (m_isDev1 hs ?_)
  show mg _ _ _ 5 _ [.int 1, .ref 1482] _ _
  refine m_if1 (t := 23) (pc' := 8) cd_Mo_crash rfl rfl rfl (fun c5 => ?_) (fun c5 => ?_)
  · exact absurd (show (1 : Int32) = 0 from c5) (by decide)
  · have c5 : ¬ (1 : Int32) = 0 := c5
    refine m_ild (pc' := 9) cd_Mo_crash rfl (Or.inr ⟨_, rfl, rfl, rfl⟩) l2 rfl ?_
    refine m_if1 (t := 23) (pc' := 12) cd_Mo_crash rfl rfl rfl (fun c9 => ?_) (fun c9 => ?_)
    · have c9 : (nI p) < 0 := c9
      exact absurd c9 (nI_nlt0 (by omega))
    · have c9 : ¬ (nI p) < 0 := c9
      refine m_ild (pc' := 13) cd_Mo_crash rfl (Or.inr ⟨_, rfl, rfl, rfl⟩) l2 rfl ?_
      refine m_k3 (v := 200) (pc' := 16) cd_Mo_crash rfl (by decide) rfl ?_
      refine m_if2 (t := 23) (pc' := 19) cd_Mo_crash rfl rfl rfl (fun c16 => ?_) (fun c16 => ?_)
      · have c16 : (200 : Int32) < (nI p) := c16
        exact absurd c16 (Int32.not_lt.mpr (nI_le (b := 200) hj (by decide)))
      · have c16 : ¬ (200 : Int32) < (nI p) := c16
        refine m_k1 (v := 1) (pc' := 20) cd_Mo_crash rfl (by decide) rfl ?_
        refine m_pure (pc' := 24) (st' := [.int 1, .ref 1482]) cd_Mo_crash rfl rfl (fun _ _ => rfl) ?_
        refine m_k1 (v := 0) (pc' := 25) cd_Mo_crash rfl (by decide) rfl ?_
        refine m_ild (pc' := 26) cd_Mo_crash rfl (Or.inr ⟨_, rfl, rfl, rfl⟩) l1 rfl ?_
        refine m_si (pc' := 29) cd_Mo_crash rfl rfl rfl rfl rfl cd_Mo_isDevice rfl (Nat.le_of_ble_eq_true rfl) (m_isDev1 hs ?_)
        show mg _ _ _ 29 _ [.int 1, .int 0, .int 1, .ref 1482] _ _
        refine m_if1 (t := 36) (pc' := 32) cd_Mo_crash rfl rfl rfl (fun c29 => ?_) (fun c29 => ?_)
        · exact absurd (show (1 : Int32) = 0 from c29) (by decide)
        · have c29 : ¬ (1 : Int32) = 0 := c29
          refine m_ild (pc' := 33) cd_Mo_crash rfl (Or.inr ⟨_, rfl, rfl, rfl⟩) l1 rfl ?_
          refine m_pure (pc' := 37) (st' := [.int (nI s), .int 0, .int 1, .ref 1482]) cd_Mo_crash rfl rfl (fun _ _ => rfl) ?_
          refine m_ci (pc' := 40) cd_Mo_crash rfl rfl rfl rfl rfl cd_Mo_refused rfl (Nat.le_of_ble_eq_true rfl) (m_refused (b := true) (mk := false) (dn := true) (p := s) h11 hn h40 hm hs hdn (fun q => nomatch q) (fun _ _ => ?_) (fun _ q => nomatch q))
          show mg _ _ _ 40 _ [.int (-3)] _ _
          refine m_ist (pc' := 41) cd_Mo_crash rfl (Or.inr ⟨_, rfl, rfl, rfl⟩) (by decide) rfl (fun lv el => ?_)
          have l0 := tm_lk el l0 rfl (by decide)
          have l1 := tm_lk el l1 rfl (by decide)
          have l2 := tm_lk el l2 rfl (by decide)
          have l3 : lv.lookup 3 = some (.int (-3)) := tm_lks el
          clear el
          refine m_ild (pc' := 42) cd_Mo_crash rfl (Or.inr ⟨_, rfl, rfl, rfl⟩) l3 rfl ?_
          refine m_if1 (t := 47) (pc' := 45) cd_Mo_crash rfl rfl rfl (fun c42 => ?_) (fun c42 => ?_)
          · exact absurd (show ((-3) : Int32) = 0 from c42) (by decide)
          · have c42 : ¬ ((-3) : Int32) = 0 := c42
            refine m_ild (pc' := 46) cd_Mo_crash rfl (Or.inr ⟨_, rfl, rfl, rfl⟩) l3 rfl ?_
            exact m_reti cd_Mo_crash rfl ⟨_, rfl, kk⟩
set_option maxRecDepth 100000 in
theorem mo_crash {sc : tm_X} {d : Nat} {f : Nat → Int32} {A : Nat → Nat → Int32} {n m s p : Nat} {Q : Int32 → MS → Prop} (h11 : f 11 = nI n) (hn : n ≤ 2960) (h40 : f 40 = nI m) (hm : m ≤ 692) (hs : s < 6) (hdn : A 22 s = 0) (hj : p ≤ 200) (kk : Q 1 (fset f 21 (f 21 + 1), fset A 23 (upd (A 23) s (nI p)))) : mGi sc (d + 3) 251 [.ref 1482, .int (nI s), .int (nI p)] (f, A) Q := by
  show mg sc (d + 3) 251 0 [(0, .ref 1482), (1, .int (nI s)), (2, .int (nI p))] [] (f, A) _
  generalize elv : ([(0, .ref 1482), (1, .int (nI s)), (2, .int (nI p))] : tm_L) = lv
  have l0 : lv.lookup 0 = some (.ref 1482) := by rw [← elv]; rfl
  have l1 : lv.lookup 1 = some (.int (nI s)) := by rw [← elv]; rfl
  have l2 : lv.lookup 2 = some (.int (nI p)) := by rw [← elv]; rfl
  clear elv
  refine m_ald (pc' := 1) cd_Mo_crash rfl (Or.inr ⟨_, rfl, rfl, rfl⟩) l0 rfl rfl ?_
  refine m_ild (pc' := 2) cd_Mo_crash rfl (Or.inr ⟨_, rfl, rfl, rfl⟩) l1 rfl ?_
  refine m_si (pc' := 5) cd_Mo_crash rfl rfl rfl rfl rfl cd_Mo_isDevice rfl (Nat.le_of_ble_eq_true rfl) (m_isDev1 hs ?_)
  show mg _ _ _ 5 _ [.int 1, .ref 1482] _ _
  refine m_if1 (t := 23) (pc' := 8) cd_Mo_crash rfl rfl rfl (fun c5 => ?_) (fun c5 => ?_)
  · exact absurd (show (1 : Int32) = 0 from c5) (by decide)
  · have c5 : ¬ (1 : Int32) = 0 := c5
    refine m_ild (pc' := 9) cd_Mo_crash rfl (Or.inr ⟨_, rfl, rfl, rfl⟩) l2 rfl ?_
    refine m_if1 (t := 23) (pc' := 12) cd_Mo_crash rfl rfl rfl (fun c9 => ?_) (fun c9 => ?_)
    · have c9 : (nI p) < 0 := c9
      exact absurd c9 (nI_nlt0 (by omega))
    · have c9 : ¬ (nI p) < 0 := c9
      refine m_ild (pc' := 13) cd_Mo_crash rfl (Or.inr ⟨_, rfl, rfl, rfl⟩) l2 rfl ?_
      refine m_k3 (v := 200) (pc' := 16) cd_Mo_crash rfl (by decide) rfl ?_
      refine m_if2 (t := 23) (pc' := 19) cd_Mo_crash rfl rfl rfl (fun c16 => ?_) (fun c16 => ?_)
      · have c16 : (200 : Int32) < (nI p) := c16
        exact absurd c16 (Int32.not_lt.mpr (nI_le (b := 200) hj (by decide)))
      · have c16 : ¬ (200 : Int32) < (nI p) := c16
        refine m_k1 (v := 1) (pc' := 20) cd_Mo_crash rfl (by decide) rfl ?_
        refine m_pure (pc' := 24) (st' := [.int 1, .ref 1482]) cd_Mo_crash rfl rfl (fun _ _ => rfl) ?_
        refine m_k1 (v := 0) (pc' := 25) cd_Mo_crash rfl (by decide) rfl ?_
        refine m_ild (pc' := 26) cd_Mo_crash rfl (Or.inr ⟨_, rfl, rfl, rfl⟩) l1 rfl ?_
        refine m_si (pc' := 29) cd_Mo_crash rfl rfl rfl rfl rfl cd_Mo_isDevice rfl (Nat.le_of_ble_eq_true rfl) (m_isDev1 hs ?_)
        show mg _ _ _ 29 _ [.int 1, .int 0, .int 1, .ref 1482] _ _
        refine m_if1 (t := 36) (pc' := 32) cd_Mo_crash rfl rfl rfl (fun c29 => ?_) (fun c29 => ?_)
        · exact absurd (show (1 : Int32) = 0 from c29) (by decide)
        · have c29 : ¬ (1 : Int32) = 0 := c29
          refine m_ild (pc' := 33) cd_Mo_crash rfl (Or.inr ⟨_, rfl, rfl, rfl⟩) l1 rfl ?_
          refine m_pure (pc' := 37) (st' := [.int (nI s), .int 0, .int 1, .ref 1482]) cd_Mo_crash rfl rfl (fun _ _ => rfl) ?_
          refine m_ci (pc' := 40) cd_Mo_crash rfl rfl rfl rfl rfl cd_Mo_refused rfl (Nat.le_of_ble_eq_true rfl) (m_refused (b := true) (mk := false) (dn := false) (p := s) h11 hn h40 hm hs hdn (fun q => nomatch q) (fun _ q => nomatch q) (fun _ _ => ?_))
          show mg _ _ _ 40 _ [.int 0] _ _
          refine m_ist (pc' := 41) cd_Mo_crash rfl (Or.inr ⟨_, rfl, rfl, rfl⟩) (by decide) rfl (fun lv el => ?_)
          have l0 := tm_lk el l0 rfl (by decide)
          have l1 := tm_lk el l1 rfl (by decide)
          have l2 := tm_lk el l2 rfl (by decide)
          have l3 : lv.lookup 3 = some (.int 0) := tm_lks el
          clear el
          refine m_ild (pc' := 42) cd_Mo_crash rfl (Or.inr ⟨_, rfl, rfl, rfl⟩) l3 rfl ?_
          refine m_if1 (t := 47) (pc' := 45) cd_Mo_crash rfl rfl rfl (fun c42 => ?_) (fun c42 => ?_)
          · have c42 : (0 : Int32) = 0 := c42
            refine m_ald (pc' := 48) cd_Mo_crash rfl (Or.inr ⟨_, rfl, rfl, rfl⟩) l0 rfl rfl ?_
            refine m_fR (r := 22) (a := 23) (ad := 1505) (pc' := 51) rfl rfl cd_Mo_crash rfl rfl rfl rfl rfl ?_
            refine m_ild (pc' := 52) cd_Mo_crash rfl (Or.inr ⟨_, rfl, rfl, rfl⟩) l1 rfl ?_
            refine m_ild (pc' := 53) cd_Mo_crash rfl (Or.inr ⟨_, rfl, rfl, rfl⟩) l2 rfl ?_
            refine m_aS (r := 22) (a := 23) (g := (A 23)) (p := s) (pc' := 54) rfl rfl cd_Mo_crash rfl rfl rfl (vp_in_nI (by omega) (by decide)) (nI_clamp (by omega)) ?_
            refine m_k1 (v := 1) (pc' := 55) cd_Mo_crash rfl (by decide) rfl ?_
            exact m_reti cd_Mo_crash rfl ⟨_, rfl, kk⟩
          · exact absurd (show ¬ (0 : Int32) = 0 from c42) (by decide)
set_option maxRecDepth 100000 in
theorem mo_deliver {sc : tm_X} {d : Nat} {f : Nat → Int32} {A : Nat → Nat → Int32} {T : List Tm} {DL : List (Int32 × Int32)} {G Kw : Tm → Prop} {dev : Nat → DV} {sto : Nat → ST} {ws : List (Tm × Int32)} {dir reg : Nat → Tm} {seen : List Tm} {ls : List RL} {lo dt db rt fl ll tl tf tg tm : Nat → Int32} {ck fo du : Int32} {id : Tm} {K0 K1 : PK} {on : List (Tm × Int32)} {lnu : Int32} {se : Nat → List SS} {me : Nat → MM} {p0 : Bool} {P O : EN2} {c : Option Nat} {ids : Nat → Tm} {q wi : Nat} {lw : Int32} {X : Tm} {Q : Int32 → MS → Prop} (hM : MT f A T DL G Kw) (hS : RS f A T DL dev sto ws dir reg seen ls lo (dt, db, rt, fl, ll, tl, tf, tg, tm, ck, fo, du)) (h42 : T.length + 42 ≤ 4000) (hr : rc (A 1) T.length < 1000) (hws : ws.length ≤ 692) (hq : q < 6) (he : ws[wi]? = some (X, lw)) (eids : ids = fun q => (dev q).1) (kid : ∀ q, q < 6 → kd (ids q) = 1) (eD : dev q = (id, K0, K1, on, lnu, se, me)) (hz0 : K0.1 = tz ↔ K0.2.1 = 0) (hz1 : K1.1 = tz ↔ K1.2.1 = 0) (z0 : 0 < K0.2.1 ↔ K0.1 ≠ tz) (z1 : 0 < K1.2.1 ↔ K1.1 ≠ tz) (d0 : 0 < K0.2.1 → kd K0.1 = 1) (d1 : 0 < K1.2.1 → kd K1.1 = 1) (dn : ∀ e, e ∈ on → kd e.1 = 1) (hse : ∀ (p k : Nat) (S : SS), (se p)[k]? = some S → kd S.2.2.2.1 = 1 ∧ ∃ nn, nn ≤ 10000 ∧ S.1.2.2.1 = nI nn) (hme : ∀ (g p k : Nat) (S : GV), (mgv (me g) p)[k]? = some S → S.1.1 ≠ tz ∧ (∃ nn, nn ≤ 10000 ∧ S.1.2.2.1 = nI nn) ∧ ∀ e, e ∈ S.1.2.2.2 → e.1 = S.1.1) (hv0 : ∀ g, (me g).1 = 0 → (me g).2.1 = 0) (hlo : ∀ m, m < DL.length → lo m = -1 ∨ ∃ i e, ls[i]? = some e ∧ lo m = nI i) (hst : sto q = (p0, P, O, c, false)) (hen : 0 ≤ (ar_spec (id, K0, K1, on, lnu, se, me) ids q X).1 → (dv_en (ar_spec (id, K0, K1, on, lnu, se, me) ids q X).2.1).length ≤ 536) (hdl : DL.length ≤ 2960) (kN : (ar_spec (id, K0, K1, on, lnu, se, me) ids q X).1 < 0 → ∀ f1 A1, MT f1 A1 T DL G Kw → f1 16 = f 16 → RS f1 A1 T DL dev sto ws dir reg seen ls lo (dt, db, rt, fl, ll, tl, tf, tg, tm, ck + 1, fo, du) → Q (ar_spec (id, K0, K1, on, lnu, se, me) ids q X).1 (f1, A1)) (k0 : 0 ≤ (ar_spec (id, K0, K1, on, lnu, se, me) ids q X).1 → (st_commit p0 P c (dv_en (ar_spec (id, K0, K1, on, lnu, se, me) ids q X).2.1)).1 = 0 → ∀ f1 A1 T1, T <+: T1 → T1.length ≤ T.length + 42 → rc (A1 1) T1.length ≤ rc (A 1) T.length →  MT f1 A1 T1 DL G Kw → f1 16 = f 16 → RS f1 A1 T1 DL dev (fset sto q (st_commit p0 P c (dv_en (ar_spec (id, K0, K1, on, lnu, se, me) ids q X).2.1)).2) ws dir reg seen ls lo (dt, db, rt, fl, ll, tl, tf, tg, tm, ck + 1, fo, du) → Q (-4) (f1, A1)) (k1 : 0 ≤ (ar_spec (id, K0, K1, on, lnu, se, me) ids q X).1 → (st_commit p0 P c (dv_en (ar_spec (id, K0, K1, on, lnu, se, me) ids q X).2.1)).1 = 1 → ∀ f1 A1 T1, T <+: T1 → T1.length ≤ T.length + 42 → rc (A1 1) T1.length ≤ rc (A 1) T.length →  MT f1 A1 T1 DL G Kw → f1 16 = f 16 → RS f1 A1 T1 DL (fset dev q (ar_spec (id, K0, K1, on, lnu, se, me) ids q X).2.1) (fset sto q (st_commit p0 P c (dv_en (ar_spec (id, K0, K1, on, lnu, se, me) ids q X).2.1)).2) ws dir reg seen ls lo (dt, db, rt, fl, ll, tl, tf, tg, tm, ck + 1, fo, du) → Q (-4) (f1, A1)) (k2 : 0 ≤ (ar_spec (id, K0, K1, on, lnu, se, me) ids q X).1 → (ar_spec (id, K0, K1, on, lnu, se, me) ids q X).1 ≠ 1 → (st_commit p0 P c (dv_en (ar_spec (id, K0, K1, on, lnu, se, me) ids q X).2.1)).1 = 2 → ∀ f1 A1 T1, T <+: T1 → T1.length ≤ T.length + 42 → rc (A1 1) T1.length ≤ rc (A 1) T.length →  MT f1 A1 T1 DL G Kw → (f1 16 = 1 ∨ f1 16 = f 16) → RS f1 A1 T1 DL (fset dev q (ar_spec (id, K0, K1, on, lnu, se, me) ids q X).2.1) (fset sto q (st_commit p0 P c (dv_en (ar_spec (id, K0, K1, on, lnu, se, me) ids q X).2.1)).2) ws dir reg seen ls lo (dt, db, rt, fl, ll, tl, tf, tg, tm, ck + 1, fo, du) → Q (ar_spec (id, K0, K1, on, lnu, se, me) ids q X).1 (f1, A1)) (k3 : (ar_spec (id, K0, K1, on, lnu, se, me) ids q X).1 = 1 → (st_commit p0 P c (dv_en (ar_spec (id, K0, K1, on, lnu, se, me) ids q X).2.1)).1 = 2 → ∀ f1 A1 T1, T <+: T1 → T1.length ≤ T.length + 42 → rc (A1 1) T1.length ≤ rc (A 1) T.length →  MT f1 A1 T1 DL G Kw → (f1 16 = 1 ∨ f1 16 = f 16) → RS f1 A1 T1 DL (fset dev q (ar_spec (id, K0, K1, on, lnu, se, me) ids q X).2.1) (fset sto q (st_commit p0 P c (dv_en (ar_spec (id, K0, K1, on, lnu, se, me) ids q X).2.1)).2) ws dir reg seen (rt_ls ls lo q (ar_spec (id, K0, K1, on, lnu, se, me) ids q X).2.2.2.1 (ar_spec (id, K0, K1, on, lnu, se, me) ids q X).2.2.2.2.1 (ar_spec (id, K0, K1, on, lnu, se, me) ids q X).2.2.2.2.2 (ck + 1)) lo (dt, db, rt, fl, ll, (upd tl q (rt_l lo (ar_spec (id, K0, K1, on, lnu, se, me) ids q X).2.2.2.2.1)), (upd tf q (ar_spec (id, K0, K1, on, lnu, se, me) ids q X).2.2.1), (upd tg q (ar_spec (id, K0, K1, on, lnu, se, me) ids q X).2.2.2.1), (upd tm q (tm q + 1)), ck + 1, (rt_fo ls lo fl q (ar_spec (id, K0, K1, on, lnu, se, me) ids q X).2.2.1 (ar_spec (id, K0, K1, on, lnu, se, me) ids q X).2.2.2.1 (ar_spec (id, K0, K1, on, lnu, se, me) ids q X).2.2.2.2.1 fo), (rt_du ls lo fl q (ar_spec (id, K0, K1, on, lnu, se, me) ids q X).2.2.1 (ar_spec (id, K0, K1, on, lnu, se, me) ids q X).2.2.2.2.1 du)) → Q 1 (f1, A1)) : mGi sc (d + 9) 229 [.ref 1482, .int (nI q), .int (nI wi)] (f, A) Q := by
  have hq0 := hS.1.2.2 q hq
  rw [hst] at hq0
  have hdn := hq0.1.2.2.1
  have h40 := hS.2.1.1.1.1
  have h11 : f 11 = nI DL.length := hS.2.2.2.1.1
  have hTl := MT_len hM
  have hwi := (List.getElem?_eq_some_iff.mp he).1
  obtain ⟨ti, eti, hX⟩ := (hS.2.1.1.2 wi _ he).1
  show mg sc (d + 9) 229 0 [(0, .ref 1482), (1, .int (nI q)), (2, .int (nI wi))] [] (f, A) _
  generalize elv : ([(0, .ref 1482), (1, .int (nI q)), (2, .int (nI wi))] : tm_L) = lv
  have l0 : lv.lookup 0 = some (.ref 1482) := by rw [← elv]; rfl
  have l1 : lv.lookup 1 = some (.int (nI q)) := by rw [← elv]; rfl
  have l2 : lv.lookup 2 = some (.int (nI wi)) := by rw [← elv]; rfl
  clear elv
  refine m_ald (pc' := 1) cd_Mo_deliver rfl (Or.inr ⟨_, rfl, rfl, rfl⟩) l0 rfl rfl ?_
  refine m_ild (pc' := 2) cd_Mo_deliver rfl (Or.inr ⟨_, rfl, rfl, rfl⟩) l1 rfl ?_
  refine m_si (pc' := 5) cd_Mo_deliver rfl rfl rfl rfl rfl cd_Mo_isDevice rfl (Nat.le_of_ble_eq_true rfl) (m_isDev1 hq ?_)
  show mg _ _ _ 5 _ [.int 1, .ref 1482] _ _
  refine m_if1 (t := 24) (pc' := 8) cd_Mo_deliver rfl rfl rfl (fun c5 => ?_) (fun c5 => ?_)
  · exact absurd (show (1 : Int32) = 0 from c5) (by decide)
  · have c5 : ¬ (1 : Int32) = 0 := c5
    refine m_ild (pc' := 9) cd_Mo_deliver rfl (Or.inr ⟨_, rfl, rfl, rfl⟩) l2 rfl ?_
    refine m_if1 (t := 24) (pc' := 12) cd_Mo_deliver rfl rfl rfl (fun c9 => ?_) (fun c9 => ?_)
    · have c9 : (nI wi) < 0 := c9
      exact absurd c9 (nI_nlt0 (by omega))
    · have c9 : ¬ (nI wi) < 0 := c9
      refine m_ild (pc' := 13) cd_Mo_deliver rfl (Or.inr ⟨_, rfl, rfl, rfl⟩) l2 rfl ?_
      refine m_ald (pc' := 14) cd_Mo_deliver rfl (Or.inr ⟨_, rfl, rfl, rfl⟩) l0 rfl rfl ?_
      refine m_fI (k := 40) (x := (nI ws.length)) (pc' := 17) cd_Mo_deliver rfl rfl rfl rfl rfl h40 ?_
      refine m_if2 (t := 24) (pc' := 20) cd_Mo_deliver rfl rfl rfl (fun c17 => ?_) (fun c17 => ?_)
      · have c17 : (nI ws.length) ≤ (nI wi) := c17
        exact absurd c17 (nI_ge hwi (by omega))
      · have c17 : ¬ (nI ws.length) ≤ (nI wi) := c17
        refine m_k1 (v := 1) (pc' := 21) cd_Mo_deliver rfl (by decide) rfl ?_
        refine m_pure (pc' := 25) (st' := [.int 1, .ref 1482]) cd_Mo_deliver rfl rfl (fun _ _ => rfl) ?_
        refine m_k1 (v := 0) (pc' := 26) cd_Mo_deliver rfl (by decide) rfl ?_
        refine m_ild (pc' := 27) cd_Mo_deliver rfl (Or.inr ⟨_, rfl, rfl, rfl⟩) l1 rfl ?_
        refine m_si (pc' := 30) cd_Mo_deliver rfl rfl rfl rfl rfl cd_Mo_isDevice rfl (Nat.le_of_ble_eq_true rfl) (m_isDev1 hq ?_)
        show mg _ _ _ 30 _ [.int 1, .int 0, .int 1, .ref 1482] _ _
        refine m_if1 (t := 37) (pc' := 33) cd_Mo_deliver rfl rfl rfl (fun c30 => ?_) (fun c30 => ?_)
        · exact absurd (show (1 : Int32) = 0 from c30) (by decide)
        · have c30 : ¬ (1 : Int32) = 0 := c30
          refine m_ild (pc' := 34) cd_Mo_deliver rfl (Or.inr ⟨_, rfl, rfl, rfl⟩) l1 rfl ?_
          refine m_pure (pc' := 38) (st' := [.int (nI q), .int 0, .int 1, .ref 1482]) cd_Mo_deliver rfl rfl (fun _ _ => rfl) ?_
          refine m_ci (pc' := 41) cd_Mo_deliver rfl rfl rfl rfl rfl cd_Mo_refused rfl (Nat.le_of_ble_eq_true rfl) (m_refused (b := true) (mk := false) (dn := false) (p := q) h11 hdl h40 hws hq hdn (fun q => nomatch q) (fun _ q => nomatch q) (fun _ _ => ?_))
          show mg _ _ _ 41 _ [.int 0] _ _
          refine m_ist (pc' := 42) cd_Mo_deliver rfl (Or.inr ⟨_, rfl, rfl, rfl⟩) (by decide) rfl (fun lv el => ?_)
          have l0 := tm_lk el l0 rfl (by decide)
          have l1 := tm_lk el l1 rfl (by decide)
          have l2 := tm_lk el l2 rfl (by decide)
          have l3 : lv.lookup 3 = some (.int 0) := tm_lks el
          clear el
          refine m_ild (pc' := 43) cd_Mo_deliver rfl (Or.inr ⟨_, rfl, rfl, rfl⟩) l3 rfl ?_
          refine m_if1 (t := 50) (pc' := 46) cd_Mo_deliver rfl rfl rfl (fun c43 => ?_) (fun c43 => ?_)
          · have c43 : (0 : Int32) = 0 := c43
            refine m_ald (pc' := 51) cd_Mo_deliver rfl (Or.inr ⟨_, rfl, rfl, rfl⟩) l0 rfl rfl ?_
            refine m_ild (pc' := 52) cd_Mo_deliver rfl (Or.inr ⟨_, rfl, rfl, rfl⟩) l1 rfl ?_
            refine m_ald (pc' := 53) cd_Mo_deliver rfl (Or.inr ⟨_, rfl, rfl, rfl⟩) l0 rfl rfl ?_
            refine m_fR (r := 27) (a := 28) (ad := 1510) (pc' := 56) rfl rfl cd_Mo_deliver rfl rfl rfl rfl rfl ?_
            refine m_ild (pc' := 57) cd_Mo_deliver rfl (Or.inr ⟨_, rfl, rfl, rfl⟩) l2 rfl ?_
            refine m_aI (r := 27) (a := 28) (g := (A 28)) (x := nI ti) (pc' := 58) rfl rfl cd_Mo_deliver rfl rfl rfl (vp_in_nI (by omega) (by decide)) ((congrArg (A 28) (nI_clamp (by omega))).trans eti) ?_
            refine m_ci (pc' := 61) cd_Mo_deliver rfl rfl rfl rfl rfl cd_Mo_comes rfl (Nat.le_of_ble_eq_true rfl) (mo_comes (f := fset f 21 (f 21 + 1)) (ck := ck + 1) (by exact MT_i hM rfl rfl rfl rfl rfl rfl rfl rfl rfl rfl) (RS_ck hS) h42 hr hws hq hX eids kid eD hz0 hz1 z0 z1 d0 d1 dn hse hme hv0 hlo hst hen (fun hn f1 A1 q1 q2 q3 => ?_) (fun hn hc f1 A1 T1 p1 q1 s1 q2 q3 q4 => ?_) (fun hn hc f1 A1 T1 p1 q1 s1 q2 q3 q4 => ?_) (fun hn h1 hc f1 A1 T1 p1 q1 s1 q2 q3 q4 => ?_) (fun h1 hc f1 A1 T1 p1 q1 s1 q2 q3 q4 => ?_))
            · skip
              show mg _ _ _ 61 _ [.int ((ar_spec (id, K0, K1, on, lnu, se, me) ids q X).1)] _ _
              exact m_reti cd_Mo_deliver rfl ⟨_, rfl, (kN hn f1 A1 q1 q2 q3)⟩
            · skip
              show mg _ _ _ 61 _ [.int (-4)] _ _
              exact m_reti cd_Mo_deliver rfl ⟨_, rfl, (k0 hn hc f1 A1 T1 p1 q1 s1 q2 q3 q4)⟩
            · skip
              show mg _ _ _ 61 _ [.int (-4)] _ _
              exact m_reti cd_Mo_deliver rfl ⟨_, rfl, (k1 hn hc f1 A1 T1 p1 q1 s1 q2 q3 q4)⟩
            · skip
              show mg _ _ _ 61 _ [.int ((ar_spec (id, K0, K1, on, lnu, se, me) ids q X).1)] _ _
              exact m_reti cd_Mo_deliver rfl ⟨_, rfl, (k2 hn h1 hc f1 A1 T1 p1 q1 s1 q2 q3 q4)⟩
            · skip
              show mg _ _ _ 61 _ [.int 1] _ _
              exact m_reti cd_Mo_deliver rfl ⟨_, rfl, (k3 h1 hc f1 A1 T1 p1 q1 s1 q2 q3 q4)⟩
          · exact absurd (show ¬ (0 : Int32) = 0 from c43) (by decide)
set_option maxRecDepth 100000 in
theorem mo_inject {sc : tm_X} {d : Nat} {f : Nat → Int32} {A : Nat → Nat → Int32} {T : List Tm} {DL : List (Int32 × Int32)} {G Kw : Tm → Prop} {dev : Nat → DV} {sto : Nat → ST} {ws : List (Tm × Int32)} {dir reg : Nat → Tm} {seen : List Tm} {ls : List RL} {lo dt db rt fl ll tl tf tg tm : Nat → Int32} {ck fo du : Int32} {id : Tm} {K0 K1 : PK} {on : List (Tm × Int32)} {lnu : Int32} {se : Nat → List SS} {me : Nat → MM} {p0 : Bool} {P O : EN2} {c : Option Nat} {ids : Nat → Tm} {q : Nat} {y : Int32} {X : Tm} {Q : Int32 → MS → Prop} (hM : MT f A T DL G Kw) (hS : RS f A T DL dev sto ws dir reg seen ls lo (dt, db, rt, fl, ll, tl, tf, tg, tm, ck, fo, du)) (h42 : T.length + 42 ≤ 4000) (hr : rc (A 1) T.length < 1000) (hws : ws.length ≤ 692) (hq : q < 6) (hRg : hl reg y = X) (hXz : X ≠ tz) (eids : ids = fun q => (dev q).1) (kid : ∀ q, q < 6 → kd (ids q) = 1) (eD : dev q = (id, K0, K1, on, lnu, se, me)) (hz0 : K0.1 = tz ↔ K0.2.1 = 0) (hz1 : K1.1 = tz ↔ K1.2.1 = 0) (z0 : 0 < K0.2.1 ↔ K0.1 ≠ tz) (z1 : 0 < K1.2.1 ↔ K1.1 ≠ tz) (d0 : 0 < K0.2.1 → kd K0.1 = 1) (d1 : 0 < K1.2.1 → kd K1.1 = 1) (dn : ∀ e, e ∈ on → kd e.1 = 1) (hse : ∀ (p k : Nat) (S : SS), (se p)[k]? = some S → kd S.2.2.2.1 = 1 ∧ ∃ nn, nn ≤ 10000 ∧ S.1.2.2.1 = nI nn) (hme : ∀ (g p k : Nat) (S : GV), (mgv (me g) p)[k]? = some S → S.1.1 ≠ tz ∧ (∃ nn, nn ≤ 10000 ∧ S.1.2.2.1 = nI nn) ∧ ∀ e, e ∈ S.1.2.2.2 → e.1 = S.1.1) (hv0 : ∀ g, (me g).1 = 0 → (me g).2.1 = 0) (hlo : ∀ m, m < DL.length → lo m = -1 ∨ ∃ i e, ls[i]? = some e ∧ lo m = nI i) (hst : sto q = (p0, P, O, c, false)) (hen : 0 ≤ (ar_spec (id, K0, K1, on, lnu, se, me) ids q X).1 → (dv_en (ar_spec (id, K0, K1, on, lnu, se, me) ids q X).2.1).length ≤ 536) (hdl : DL.length ≤ 2960) (kN : (ar_spec (id, K0, K1, on, lnu, se, me) ids q X).1 < 0 → ∀ f1 A1, MT f1 A1 T DL G Kw → f1 16 = f 16 → RS f1 A1 T DL dev sto ws dir reg seen ls lo (dt, db, rt, fl, ll, tl, tf, tg, tm, ck + 1, fo, du) → Q (ar_spec (id, K0, K1, on, lnu, se, me) ids q X).1 (f1, A1)) (k0 : 0 ≤ (ar_spec (id, K0, K1, on, lnu, se, me) ids q X).1 → (st_commit p0 P c (dv_en (ar_spec (id, K0, K1, on, lnu, se, me) ids q X).2.1)).1 = 0 → ∀ f1 A1 T1, T <+: T1 → T1.length ≤ T.length + 42 → rc (A1 1) T1.length ≤ rc (A 1) T.length →  MT f1 A1 T1 DL G Kw → f1 16 = f 16 → RS f1 A1 T1 DL dev (fset sto q (st_commit p0 P c (dv_en (ar_spec (id, K0, K1, on, lnu, se, me) ids q X).2.1)).2) ws dir reg seen ls lo (dt, db, rt, fl, ll, tl, tf, tg, tm, ck + 1, fo, du) → Q (-4) (f1, A1)) (k1 : 0 ≤ (ar_spec (id, K0, K1, on, lnu, se, me) ids q X).1 → (st_commit p0 P c (dv_en (ar_spec (id, K0, K1, on, lnu, se, me) ids q X).2.1)).1 = 1 → ∀ f1 A1 T1, T <+: T1 → T1.length ≤ T.length + 42 → rc (A1 1) T1.length ≤ rc (A 1) T.length →  MT f1 A1 T1 DL G Kw → f1 16 = f 16 → RS f1 A1 T1 DL (fset dev q (ar_spec (id, K0, K1, on, lnu, se, me) ids q X).2.1) (fset sto q (st_commit p0 P c (dv_en (ar_spec (id, K0, K1, on, lnu, se, me) ids q X).2.1)).2) ws dir reg seen ls lo (dt, db, rt, fl, ll, tl, tf, tg, tm, ck + 1, fo, du) → Q (-4) (f1, A1)) (k2 : 0 ≤ (ar_spec (id, K0, K1, on, lnu, se, me) ids q X).1 → (ar_spec (id, K0, K1, on, lnu, se, me) ids q X).1 ≠ 1 → (st_commit p0 P c (dv_en (ar_spec (id, K0, K1, on, lnu, se, me) ids q X).2.1)).1 = 2 → ∀ f1 A1 T1, T <+: T1 → T1.length ≤ T.length + 42 → rc (A1 1) T1.length ≤ rc (A 1) T.length →  MT f1 A1 T1 DL G Kw → (f1 16 = 1 ∨ f1 16 = f 16) → RS f1 A1 T1 DL (fset dev q (ar_spec (id, K0, K1, on, lnu, se, me) ids q X).2.1) (fset sto q (st_commit p0 P c (dv_en (ar_spec (id, K0, K1, on, lnu, se, me) ids q X).2.1)).2) ws dir reg seen ls lo (dt, db, rt, fl, ll, tl, tf, tg, tm, ck + 1, fo, du) → Q (ar_spec (id, K0, K1, on, lnu, se, me) ids q X).1 (f1, A1)) (k3 : (ar_spec (id, K0, K1, on, lnu, se, me) ids q X).1 = 1 → (st_commit p0 P c (dv_en (ar_spec (id, K0, K1, on, lnu, se, me) ids q X).2.1)).1 = 2 → ∀ f1 A1 T1, T <+: T1 → T1.length ≤ T.length + 42 → rc (A1 1) T1.length ≤ rc (A 1) T.length →  MT f1 A1 T1 DL G Kw → (f1 16 = 1 ∨ f1 16 = f 16) → RS f1 A1 T1 DL (fset dev q (ar_spec (id, K0, K1, on, lnu, se, me) ids q X).2.1) (fset sto q (st_commit p0 P c (dv_en (ar_spec (id, K0, K1, on, lnu, se, me) ids q X).2.1)).2) ws dir reg seen (rt_ls ls lo q (ar_spec (id, K0, K1, on, lnu, se, me) ids q X).2.2.2.1 (ar_spec (id, K0, K1, on, lnu, se, me) ids q X).2.2.2.2.1 (ar_spec (id, K0, K1, on, lnu, se, me) ids q X).2.2.2.2.2 (ck + 1)) lo (dt, db, rt, fl, ll, (upd tl q (rt_l lo (ar_spec (id, K0, K1, on, lnu, se, me) ids q X).2.2.2.2.1)), (upd tf q (ar_spec (id, K0, K1, on, lnu, se, me) ids q X).2.2.1), (upd tg q (ar_spec (id, K0, K1, on, lnu, se, me) ids q X).2.2.2.1), (upd tm q (tm q + 1)), ck + 1, (rt_fo ls lo fl q (ar_spec (id, K0, K1, on, lnu, se, me) ids q X).2.2.1 (ar_spec (id, K0, K1, on, lnu, se, me) ids q X).2.2.2.1 (ar_spec (id, K0, K1, on, lnu, se, me) ids q X).2.2.2.2.1 fo), (rt_du ls lo fl q (ar_spec (id, K0, K1, on, lnu, se, me) ids q X).2.2.1 (ar_spec (id, K0, K1, on, lnu, se, me) ids q X).2.2.2.2.1 du)) → Q 1 (f1, A1)) : mGi sc (d + 9) 248 [.ref 1482, .int (nI q), .int y] (f, A) Q := by
  have hq0 := hS.1.2.2 q hq
  rw [hst] at hq0
  have hdn := hq0.1.2.2.1
  have h40 := hS.2.1.1.1.1
  have h11 : f 11 = nI DL.length := hS.2.2.2.1.1
  have hTl := MT_len hM
  have hR := hS.2.1.2.2.1
  have hyh : hl reg y ≠ tz := by rw [hRg]; exact hXz
  obtain ⟨i1, hi1, ey⟩ : ∃ i, i < 32 ∧ y = nI i := by
    cases hin : inR y 32 with
    | true => exact inR_of (n := 32) (by decide) hin
    | false => exact absurd (hl_out hin) hyh
  subst ey
  have hXr : reg i1 = X := by rw [← hRg, hl_in hi1]
  obtain ⟨ti, eti, hX⟩ := hR i1 hi1
  rw [hXr] at hX
  show mg sc (d + 9) 248 0 [(0, .ref 1482), (1, .int (nI q)), (2, .int (nI i1))] [] (f, A) _
  generalize elv : ([(0, .ref 1482), (1, .int (nI q)), (2, .int (nI i1))] : tm_L) = lv
  have l0 : lv.lookup 0 = some (.ref 1482) := by rw [← elv]; rfl
  have l1 : lv.lookup 1 = some (.int (nI q)) := by rw [← elv]; rfl
  have l2 : lv.lookup 2 = some (.int (nI i1)) := by rw [← elv]; rfl
  clear elv
  refine m_ald (pc' := 1) cd_Mo_inject rfl (Or.inr ⟨_, rfl, rfl, rfl⟩) l0 rfl rfl ?_
  refine m_ild (pc' := 2) cd_Mo_inject rfl (Or.inr ⟨_, rfl, rfl, rfl⟩) l1 rfl ?_
  refine m_si (pc' := 5) cd_Mo_inject rfl rfl rfl rfl rfl cd_Mo_isDevice rfl (Nat.le_of_ble_eq_true rfl) (m_isDev1 hq ?_)
  show mg _ _ _ 5 _ [.int 1, .ref 1482] _ _
  refine m_if1 (t := 20) (pc' := 8) cd_Mo_inject rfl rfl rfl (fun c5 => ?_) (fun c5 => ?_)
  · exact absurd (show (1 : Int32) = 0 from c5) (by decide)
  · have c5 : ¬ (1 : Int32) = 0 := c5
    refine m_ald (pc' := 9) cd_Mo_inject rfl (Or.inr ⟨_, rfl, rfl, rfl⟩) l0 rfl rfl ?_
    refine m_ild (pc' := 10) cd_Mo_inject rfl (Or.inr ⟨_, rfl, rfl, rfl⟩) l2 rfl ?_
    refine m_ci (pc' := 13) cd_Mo_inject rfl rfl rfl rfl rfl cd_Mo_isHeld rfl (Nat.le_of_ble_eq_true rfl) (m_held hM hR ?_)
    show mg _ _ _ 13 _ [.int (bz (!tnil (hl reg (nI i1)))), .ref 1482] _ _
    refine m_if1 (t := 20) (pc' := 16) cd_Mo_inject rfl rfl rfl (fun c13 => ?_) (fun c13 => ?_)
    · have c13 : (!tnil (hl reg (nI i1))) = false := bz_f c13
      exact absurd (c13.symm.trans (show (!tnil (hl reg (nI i1))) = true by rw [tnil_f hyh]; rfl)) (by decide)
    · have c13 : (!tnil (hl reg (nI i1))) = true := bz_t c13
      refine m_k1 (v := 1) (pc' := 17) cd_Mo_inject rfl (by decide) rfl ?_
      refine m_pure (pc' := 21) (st' := [.int 1, .ref 1482]) cd_Mo_inject rfl rfl (fun _ _ => rfl) ?_
      refine m_k1 (v := 0) (pc' := 22) cd_Mo_inject rfl (by decide) rfl ?_
      refine m_ild (pc' := 23) cd_Mo_inject rfl (Or.inr ⟨_, rfl, rfl, rfl⟩) l1 rfl ?_
      refine m_si (pc' := 26) cd_Mo_inject rfl rfl rfl rfl rfl cd_Mo_isDevice rfl (Nat.le_of_ble_eq_true rfl) (m_isDev1 hq ?_)
      show mg _ _ _ 26 _ [.int 1, .int 0, .int 1, .ref 1482] _ _
      refine m_if1 (t := 33) (pc' := 29) cd_Mo_inject rfl rfl rfl (fun c26 => ?_) (fun c26 => ?_)
      · exact absurd (show (1 : Int32) = 0 from c26) (by decide)
      · have c26 : ¬ (1 : Int32) = 0 := c26
        refine m_ild (pc' := 30) cd_Mo_inject rfl (Or.inr ⟨_, rfl, rfl, rfl⟩) l1 rfl ?_
        refine m_pure (pc' := 34) (st' := [.int (nI q), .int 0, .int 1, .ref 1482]) cd_Mo_inject rfl rfl (fun _ _ => rfl) ?_
        refine m_ci (pc' := 37) cd_Mo_inject rfl rfl rfl rfl rfl cd_Mo_refused rfl (Nat.le_of_ble_eq_true rfl) (m_refused (b := true) (mk := false) (dn := false) (p := q) h11 hdl h40 hws hq hdn (fun q => nomatch q) (fun _ q => nomatch q) (fun _ _ => ?_))
        show mg _ _ _ 37 _ [.int 0] _ _
        refine m_ist (pc' := 38) cd_Mo_inject rfl (Or.inr ⟨_, rfl, rfl, rfl⟩) (by decide) rfl (fun lv el => ?_)
        have l0 := tm_lk el l0 rfl (by decide)
        have l1 := tm_lk el l1 rfl (by decide)
        have l2 := tm_lk el l2 rfl (by decide)
        have l3 : lv.lookup 3 = some (.int 0) := tm_lks el
        clear el
        refine m_ild (pc' := 39) cd_Mo_inject rfl (Or.inr ⟨_, rfl, rfl, rfl⟩) l3 rfl ?_
        refine m_if1 (t := 46) (pc' := 42) cd_Mo_inject rfl rfl rfl (fun c39 => ?_) (fun c39 => ?_)
        · have c39 : (0 : Int32) = 0 := c39
          refine m_ald (pc' := 47) cd_Mo_inject rfl (Or.inr ⟨_, rfl, rfl, rfl⟩) l0 rfl rfl ?_
          refine m_ild (pc' := 48) cd_Mo_inject rfl (Or.inr ⟨_, rfl, rfl, rfl⟩) l1 rfl ?_
          refine m_ald (pc' := 49) cd_Mo_inject rfl (Or.inr ⟨_, rfl, rfl, rfl⟩) l0 rfl rfl ?_
          refine m_fR (r := 44) (a := 45) (ad := 1527) (pc' := 52) rfl rfl cd_Mo_inject rfl rfl rfl rfl rfl ?_
          refine m_ild (pc' := 53) cd_Mo_inject rfl (Or.inr ⟨_, rfl, rfl, rfl⟩) l2 rfl ?_
          refine m_aI (r := 44) (a := 45) (g := (A 45)) (x := nI ti) (pc' := 54) rfl rfl cd_Mo_inject rfl rfl rfl (vp_in_nI (by omega) (by decide)) ((congrArg (A 45) (nI_clamp (by omega))).trans eti) ?_
          refine m_ci (pc' := 57) cd_Mo_inject rfl rfl rfl rfl rfl cd_Mo_comes rfl (Nat.le_of_ble_eq_true rfl) (mo_comes (f := fset f 21 (f 21 + 1)) (ck := ck + 1) (by exact MT_i hM rfl rfl rfl rfl rfl rfl rfl rfl rfl rfl) (RS_ck hS) h42 hr hws hq hX eids kid eD hz0 hz1 z0 z1 d0 d1 dn hse hme hv0 hlo hst hen (fun hn f1 A1 q1 q2 q3 => ?_) (fun hn hc f1 A1 T1 p1 q1 s1 q2 q3 q4 => ?_) (fun hn hc f1 A1 T1 p1 q1 s1 q2 q3 q4 => ?_) (fun hn h1 hc f1 A1 T1 p1 q1 s1 q2 q3 q4 => ?_) (fun h1 hc f1 A1 T1 p1 q1 s1 q2 q3 q4 => ?_))
          · skip
            show mg _ _ _ 57 _ [.int ((ar_spec (id, K0, K1, on, lnu, se, me) ids q X).1)] _ _
            exact m_reti cd_Mo_inject rfl ⟨_, rfl, (kN hn f1 A1 q1 q2 q3)⟩
          · skip
            show mg _ _ _ 57 _ [.int (-4)] _ _
            exact m_reti cd_Mo_inject rfl ⟨_, rfl, (k0 hn hc f1 A1 T1 p1 q1 s1 q2 q3 q4)⟩
          · skip
            show mg _ _ _ 57 _ [.int (-4)] _ _
            exact m_reti cd_Mo_inject rfl ⟨_, rfl, (k1 hn hc f1 A1 T1 p1 q1 s1 q2 q3 q4)⟩
          · skip
            show mg _ _ _ 57 _ [.int ((ar_spec (id, K0, K1, on, lnu, se, me) ids q X).1)] _ _
            exact m_reti cd_Mo_inject rfl ⟨_, rfl, (k2 hn h1 hc f1 A1 T1 p1 q1 s1 q2 q3 q4)⟩
          · skip
            show mg _ _ _ 57 _ [.int 1] _ _
            exact m_reti cd_Mo_inject rfl ⟨_, rfl, (k3 h1 hc f1 A1 T1 p1 q1 s1 q2 q3 q4)⟩
        · exact absurd (show ¬ (0 : Int32) = 0 from c39) (by decide)
