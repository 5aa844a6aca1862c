/-! The reference: registers held, set; what is told of them -/
theorem m_isReg1 {sc : tm_X} {d : Nat} {f : Nat → Int32} {A : Nat → Nat → Int32} {s : Nat} {Q : Int32 → MS → Prop} (h : s < 32) (kk : Q 1 (f, A)) : mGi sc (d + 0) 250 [.int (nI s)] (f, A) Q := m_isRegister (by rw [show inR (nI s) 32 = true from inR_nI (n := 32) h (by decide)]; exact kk)
theorem m_isReg0 {sc : tm_X} {d : Nat} {f : Nat → Int32} {A : Nat → Nat → Int32} {x : Int32} {Q : Int32 → MS → Prop} (h : inR x 32 = false) (kk : Q 0 (f, A)) : mGi sc (d + 0) 250 [.int x] (f, A) Q := m_isRegister (by rw [h]; exact kk)
set_option maxRecDepth 100000 in
theorem m_held1 {sc : tm_X} {d : Nat} {f : Nat → Int32} {A : Nat → Nat → Int32} {T : List Tm} {DL : List (Int32 × Int32)} {G Kw : Tm → Prop} {reg : Nat → Tm} {i : Nat} {Q : Int32 → MS → Prop} (hM : MT f A T DL G Kw) (hR : ∀ i, i < 32 → tv T (A 45 i) (reg i)) (hi : i < 32) (kk : Q (bz (!tnil (reg i))) (f, A)) : mGi sc (d + 1) 249 [.ref 1482, .int (nI i)] (f, A) Q := by
  have hx := hR i hi
  show mg sc (d + 1) 249 0 [(0, .ref 1482), (1, .int (nI i))] [] (f, A) _
  generalize elv : ([(0, .ref 1482), (1, .int (nI i))] : tm_L) = lv
  have l0 : lv.lookup 0 = some (.ref 1482) := by rw [← elv]; rfl
  have l1 : lv.lookup 1 = some (.int (nI i)) := by rw [← elv]; rfl
  clear elv
  refine m_ild (pc' := 1) cd_Mo_isHeld rfl (Or.inr ⟨_, rfl, rfl, rfl⟩) l1 rfl ?_
  refine m_si (pc' := 4) cd_Mo_isHeld rfl rfl rfl rfl rfl cd_Mo_isRegister rfl (Nat.le_of_ble_eq_true rfl) (m_isReg1 hi ?_)
  show mg _ _ _ 4 _ [.int 1] _ _
  refine m_if1 (t := 20) (pc' := 7) cd_Mo_isHeld rfl rfl rfl (fun c4 => ?_) (fun c4 => ?_)
  · exact absurd (show (1 : Int32) = 0 from c4) (by decide)
  · have c4 : ¬ (1 : Int32) = 0 := c4
    refine m_ald (pc' := 8) cd_Mo_isHeld rfl (Or.inr ⟨_, rfl, rfl, rfl⟩) l0 rfl rfl ?_
    refine m_fR (r := 44) (a := 45) (ad := 1527) (pc' := 11) rfl rfl cd_Mo_isHeld rfl rfl rfl rfl rfl ?_
    refine m_ild (pc' := 12) cd_Mo_isHeld rfl (Or.inr ⟨_, rfl, rfl, rfl⟩) l1 rfl ?_
    refine m_aI (r := 44) (a := 45) (g := (A 45)) (x := ((A 45) i)) (pc' := 13) rfl rfl cd_Mo_isHeld rfl rfl rfl (vp_in_nI (by omega) (by decide)) (congrArg (A 45) (nI_clamp (by omega))) ?_
    refine m_if1 (t := 20) (pc' := 16) cd_Mo_isHeld rfl rfl rfl (fun c13 => ?_) (fun c13 => ?_)
    · have c13 : ((A 45) i) = 0 := c13
      refine m_k1 (v := 0) (pc' := 21) cd_Mo_isHeld rfl (by decide) rfl ?_
      exact m_retz cd_Mo_isHeld rfl (Or.inl rfl) ⟨_, rfl, (by rw [tnil_iff.mpr ((MT_0 hM hx).mp c13)] at kk; exact kk)⟩
    · have c13 : ¬ ((A 45) i) = 0 := c13
      refine m_k1 (v := 1) (pc' := 17) cd_Mo_isHeld rfl (by decide) rfl ?_
      refine m_pure (pc' := 21) (st' := [.int 1]) cd_Mo_isHeld rfl rfl (fun _ _ => rfl) ?_
      exact m_retz cd_Mo_isHeld rfl (Or.inr rfl) ⟨_, rfl, (by rw [tnil_f (fun q => c13 ((MT_0 hM hx).mpr q))] at kk; exact kk)⟩
set_option maxRecDepth 100000 in
theorem m_held0 {sc : tm_X} {d : Nat} {f : Nat → Int32} {A : Nat → Nat → Int32} {x : Int32} {Q : Int32 → MS → Prop} (hx : inR x 32 = false) (kk : Q 0 (f, A)) : mGi sc (d + 1) 249 [.ref 1482, .int x] (f, A) Q := by
  show mg sc (d + 1) 249 0 [(0, .ref 1482), (1, .int x)] [] (f, A) _
  generalize elv : ([(0, .ref 1482), (1, .int x)] : tm_L) = lv
  have l0 : lv.lookup 0 = some (.ref 1482) := by rw [← elv]; rfl
  have l1 : lv.lookup 1 = some (.int x) := by rw [← elv]; rfl
  clear elv
  refine m_ild (pc' := 1) cd_Mo_isHeld rfl (Or.inr ⟨_, rfl, rfl, rfl⟩) l1 rfl ?_
  refine m_si (pc' := 4) cd_Mo_isHeld rfl rfl rfl rfl rfl cd_Mo_isRegister rfl (Nat.le_of_ble_eq_true rfl) (m_isReg0 hx ?_)
  show mg _ _ _ 4 _ [.int 0] _ _
  refine m_if1 (t := 20) (pc' := 7) cd_Mo_isHeld rfl rfl rfl (fun c4 => ?_) (fun c4 => ?_)
  · have c4 : (0 : Int32) = 0 := c4
    refine m_k1 (v := 0) (pc' := 21) cd_Mo_isHeld rfl (by decide) rfl ?_
    exact m_retz cd_Mo_isHeld rfl (Or.inl rfl) ⟨_, rfl, kk⟩
  · exact absurd (show ¬ (0 : Int32) = 0 from c4) (by decide)
theorem m_held {sc : tm_X} {d : Nat} {f : Nat → Int32} {A : Nat → Nat → Int32} {T : List Tm} {DL : List (Int32 × Int32)} {G Kw : Tm → Prop} {reg : Nat → Tm} {x : Int32} {Q : Int32 → MS → Prop} (hM : MT f A T DL G Kw) (hR : ∀ i, i < 32 → tv T (A 45 i) (reg i))  (kk : Q (bz (!tnil (hl reg x))) (f, A)) : mGi sc (d + 1) 249 [.ref 1482, .int x] (f, A) Q := by
  by_cases h : inR x 32 = true
  · obtain ⟨i, hi, ex⟩ := inR_of (n := 32) (by decide) h
    subst ex
    exact m_held1 hM hR hi (by rw [hl_in hi] at kk; exact kk)
  · have h0 : inR x 32 = false := by simpa using h
    exact m_held0 h0 (by rw [hl_out h0] at kk; exact kk)
set_option maxRecDepth 100000 in
theorem m_set1 {sc : tm_X} {d : Nat} {f : Nat → Int32} {A : Nat → Nat → Int32} {T : List Tm} {DL : List (Int32 × Int32)} {G Kw : Tm → Prop} {reg : Nat → Tm} {i : Nat} {t : Int32} {X : Tm} {Q : Int32 → MS → Prop} (hM : MT f A T DL G Kw) (hR : ∀ i, i < 32 → tv T (A 45 i) (reg i)) (hi : i < 32) (ht : tv T t X) (k0 : X = tz → Q (-1) (f, A)) (kk : X ≠ tz → Q 1 (f, fset A 45 (upd (A 45) i t))) : mGi sc (d + 1) 255 [.ref 1482, .int (nI i), .int t] (f, A) Q := by
  show mg sc (d + 1) 255 0 [(0, .ref 1482), (1, .int (nI i)), (2, .int t)] [] (f, A) _
  generalize elv : ([(0, .ref 1482), (1, .int (nI i)), (2, .int t)] : tm_L) = lv
  have l0 : lv.lookup 0 = some (.ref 1482) := by rw [← elv]; rfl
  have l1 : lv.lookup 1 = some (.int (nI i)) := by rw [← elv]; rfl
  have l2 : lv.lookup 2 = some (.int t) := by rw [← elv]; rfl
  clear elv
  refine m_ild (pc' := 1) cd_Mo_set rfl (Or.inr ⟨_, rfl, rfl, rfl⟩) l1 rfl ?_
  refine m_si (pc' := 4) cd_Mo_set rfl rfl rfl rfl rfl cd_Mo_isRegister rfl (Nat.le_of_ble_eq_true rfl) (m_isReg1 hi ?_)
  show mg _ _ _ 4 _ [.int 1] _ _
  refine m_if1 (t := 11) (pc' := 7) cd_Mo_set rfl rfl rfl (fun c4 => ?_) (fun c4 => ?_)
  · exact absurd (show (1 : Int32) = 0 from c4) (by decide)
  · have c4 : ¬ (1 : Int32) = 0 := c4
    refine m_ild (pc' := 8) cd_Mo_set rfl (Or.inr ⟨_, rfl, rfl, rfl⟩) l2 rfl ?_
    refine m_if1 (t := 13) (pc' := 11) cd_Mo_set rfl rfl rfl (fun c8 => ?_) (fun c8 => ?_)
    · have c8 : ¬ t = 0 := c8
      refine m_ald (pc' := 14) cd_Mo_set rfl (Or.inr ⟨_, rfl, rfl, rfl⟩) l0 rfl rfl ?_
      refine m_fR (r := 44) (a := 45) (ad := 1527) (pc' := 17) rfl rfl cd_Mo_set rfl rfl rfl rfl rfl ?_
      refine m_ild (pc' := 18) cd_Mo_set rfl (Or.inr ⟨_, rfl, rfl, rfl⟩) l1 rfl ?_
      refine m_ild (pc' := 19) cd_Mo_set rfl (Or.inr ⟨_, rfl, rfl, rfl⟩) l2 rfl ?_
      refine m_aS (r := 44) (a := 45) (g := (A 45)) (p := i) (pc' := 20) rfl rfl cd_Mo_set rfl rfl rfl (vp_in_nI (by omega) (by decide)) (nI_clamp (by omega)) ?_
      refine m_k1 (v := 1) (pc' := 21) cd_Mo_set rfl (by decide) rfl ?_
      exact m_reti cd_Mo_set rfl ⟨_, rfl, kk (fun q => c8 ((MT_0 hM ht).mpr q))⟩
    · have c8 : t = 0 := Classical.not_not.mp c8
      refine m_k1 (v := (-1)) (pc' := 12) cd_Mo_set rfl (by decide) rfl ?_
      exact m_reti cd_Mo_set rfl ⟨_, rfl, k0 ((MT_0 hM ht).mp c8)⟩
set_option maxRecDepth 100000 in
theorem m_set0 {sc : tm_X} {d : Nat} {f : Nat → Int32} {A : Nat → Nat → Int32} {x t : Int32} {Q : Int32 → MS → Prop} (hx : inR x 32 = false) (kk : Q (-1) (f, A)) : mGi sc (d + 1) 255 [.ref 1482, .int x, .int t] (f, A) Q := by
  show mg sc (d + 1) 255 0 [(0, .ref 1482), (1, .int x), (2, .int t)] [] (f, A) _
  generalize elv : ([(0, .ref 1482), (1, .int x), (2, .int t)] : tm_L) = lv
  have l0 : lv.lookup 0 = some (.ref 1482) := by rw [← elv]; rfl
  have l1 : lv.lookup 1 = some (.int x) := by rw [← elv]; rfl
  have l2 : lv.lookup 2 = some (.int t) := by rw [← elv]; rfl
  clear elv
  refine m_ild (pc' := 1) cd_Mo_set rfl (Or.inr ⟨_, rfl, rfl, rfl⟩) l1 rfl ?_
  refine m_si (pc' := 4) cd_Mo_set rfl rfl rfl rfl rfl cd_Mo_isRegister rfl (Nat.le_of_ble_eq_true rfl) (m_isReg0 hx ?_)
  show mg _ _ _ 4 _ [.int 0] _ _
  refine m_if1 (t := 11) (pc' := 7) cd_Mo_set rfl rfl rfl (fun c4 => ?_) (fun c4 => ?_)
  · have c4 : (0 : Int32) = 0 := c4
    refine m_k1 (v := (-1)) (pc' := 12) cd_Mo_set rfl (by decide) rfl ?_
    exact m_reti cd_Mo_set rfl ⟨_, rfl, kk⟩
  · exact absurd (show ¬ (0 : Int32) = 0 from c4) (by decide)
/-- set as the class keeps -/
theorem m_set {sc : tm_X} {d : Nat} {f : Nat → Int32} {A : Nat → Nat → Int32} {T : List Tm} {DL : List (Int32 × Int32)} {G Kw : Tm → Prop} {reg : Nat → Tm} {x t : Int32} {X : Tm} {Q : Int32 → MS → Prop} (hM : MT f A T DL G Kw) (hR : ∀ i, i < 32 → tv T (A 45 i) (reg i))  (ht : tv T t X) (kk : ∀ g, (∀ i, i < 32 → tv T (g i) ((kp reg x X).2 i)) → Q (kp reg x X).1 (f, fset A 45 g)) : mGi sc (d + 1) 255 [.ref 1482, .int x, .int t] (f, A) Q := by
  by_cases h : inR x 32 = true
  · obtain ⟨i, hi, ex⟩ := inR_of (n := 32) (by decide) h
    subst ex
    refine m_set1 hM hR hi ht (fun q => ?_) (fun q => ?_)
    · have e : kp reg (nI i) X = (-1, reg) := if_neg (fun k => by rw [q] at k; exact absurd k.2 (by decide))
      rw [e] at kk
      have k2 := kk (A 45) hR
      rw [fset_id] at k2
      exact k2
    · have e : kp reg (nI i) X = (1, fset reg i X) := (if_pos ⟨h, tnil_f q⟩).trans (by rw [nI_clamp (by omega)])
      rw [e] at kk
      refine kk _ (fun j hj => ?_)
      by_cases c : j = i
      · rw [c, upd_same]
        show tv T t (fset reg i X i)
        rw [fset_same]; exact ht
      · rw [upd_ne c]
        show tv T (A 45 j) (fset reg i X j)
        rw [fset_ne c]; exact hR j hj
  · have h0 : inR x 32 = false := by simpa using h
    refine m_set0 h0 ?_
    have e : kp reg x X = (-1, reg) := if_neg (fun k => h k.1)
    rw [e] at kk
    have k2 := kk (A 45) hR
    rw [fset_id] at k2
    exact k2
set_option maxRecDepth 100000 in
theorem m_forged {sc : tm_X} {d : Nat} {f : Nat → Int32} {A : Nat → Nat → Int32}  {Q : Int32 → MS → Prop} (kk : Q (f 53) (f, A)) : mGi sc (d + 0) 283 [.ref 1482] (f, A) Q := by
  show mg sc (d + 0) 283 0 [(0, .ref 1482)] [] (f, A) _
  generalize elv : ([(0, .ref 1482)] : tm_L) = lv
  have l0 : lv.lookup 0 = some (.ref 1482) := by rw [← elv]; rfl
  clear elv
  refine m_ald (pc' := 1) cd_Mo_forged rfl (Or.inr ⟨_, rfl, rfl, rfl⟩) l0 rfl rfl ?_
  refine m_fI (k := 53) (x := (f 53)) (pc' := 4) cd_Mo_forged rfl rfl rfl rfl rfl rfl ?_
  exact m_reti cd_Mo_forged rfl ⟨_, rfl, kk⟩
set_option maxRecDepth 100000 in
theorem m_doubled {sc : tm_X} {d : Nat} {f : Nat → Int32} {A : Nat → Nat → Int32}  {Q : Int32 → MS → Prop} (kk : Q (f 54) (f, A)) : mGi sc (d + 0) 284 [.ref 1482] (f, A) Q := by
  show mg sc (d + 0) 284 0 [(0, .ref 1482)] [] (f, A) _
  generalize elv : ([(0, .ref 1482)] : tm_L) = lv
  have l0 : lv.lookup 0 = some (.ref 1482) := by rw [← elv]; rfl
  clear elv
  refine m_ald (pc' := 1) cd_Mo_doubled rfl (Or.inr ⟨_, rfl, rfl, rfl⟩) l0 rfl rfl ?_
  refine m_fI (k := 54) (x := (f 54)) (pc' := 4) cd_Mo_doubled rfl rfl rfl rfl rfl rfl ?_
  exact m_reti cd_Mo_doubled rfl ⟨_, rfl, kk⟩
set_option maxRecDepth 100000 in
theorem m_count {sc : tm_X} {d : Nat} {f : Nat → Int32} {A : Nat → Nat → Int32} {x : Int32} {Q : Int32 → MS → Prop} (kk : Q (if x = 0 then f 40 else if x = 1 then f 43 else if x = 2 then f 11 else -1) (f, A)) : mGi sc (d + 0) 282 [.ref 1482, .int x] (f, A) Q := by
  show mg sc (d + 0) 282 0 [(0, .ref 1482), (1, .int x)] [] (f, A) _
  generalize elv : ([(0, .ref 1482), (1, .int x)] : tm_L) = lv
  have l0 : lv.lookup 0 = some (.ref 1482) := by rw [← elv]; rfl
  have l1 : lv.lookup 1 = some (.int x) := by rw [← elv]; rfl
  clear elv
  refine m_ild (pc' := 1) cd_Mo_count rfl (Or.inr ⟨_, rfl, rfl, rfl⟩) l1 rfl ?_
  refine m_if1 (t := 11) (pc' := 4) cd_Mo_count rfl rfl rfl (fun c1 => ?_) (fun c1 => ?_)
  · have c1 : ¬ x = 0 := c1
    refine m_ild (pc' := 12) cd_Mo_count rfl (Or.inr ⟨_, rfl, rfl, rfl⟩) l1 rfl ?_
    refine m_k1 (v := 1) (pc' := 13) cd_Mo_count rfl (by decide) rfl ?_
    refine m_if2 (t := 23) (pc' := 16) cd_Mo_count rfl rfl rfl (fun c13 => ?_) (fun c13 => ?_)
    · have c13 : ¬ x = 1 := c13
      refine m_ild (pc' := 24) cd_Mo_count rfl (Or.inr ⟨_, rfl, rfl, rfl⟩) l1 rfl ?_
      refine m_k1 (v := 2) (pc' := 25) cd_Mo_count rfl (by decide) rfl ?_
      refine m_if2 (t := 35) (pc' := 28) cd_Mo_count rfl rfl rfl (fun c25 => ?_) (fun c25 => ?_)
      · have c25 : ¬ x = 2 := c25
        refine m_k1 (v := (-1)) (pc' := 36) cd_Mo_count rfl (by decide) rfl ?_
        exact m_reti cd_Mo_count rfl ⟨_, rfl, (by rw [if_neg c1, if_neg c13, if_neg c25] at kk; exact kk)⟩
      · have c25 : x = 2 := Classical.not_not.mp c25
        refine m_ald (pc' := 29) cd_Mo_count rfl (Or.inr ⟨_, rfl, rfl, rfl⟩) l0 rfl rfl ?_
        refine m_fI (k := 11) (x := (f 11)) (pc' := 32) cd_Mo_count rfl rfl rfl rfl rfl rfl ?_
        refine m_pure (pc' := 36) (st' := [.int ((f 11))]) cd_Mo_count rfl rfl (fun _ _ => rfl) ?_
        exact m_reti cd_Mo_count rfl ⟨_, rfl, (by rw [if_neg c1, if_neg c13, if_pos c25] at kk; exact kk)⟩
    · have c13 : x = 1 := Classical.not_not.mp c13
      refine m_ald (pc' := 17) cd_Mo_count rfl (Or.inr ⟨_, rfl, rfl, rfl⟩) l0 rfl rfl ?_
      refine m_fI (k := 43) (x := (f 43)) (pc' := 20) cd_Mo_count rfl rfl rfl rfl rfl rfl ?_
      refine m_pure (pc' := 36) (st' := [.int ((f 43))]) cd_Mo_count rfl rfl (fun _ _ => rfl) ?_
      exact m_reti cd_Mo_count rfl ⟨_, rfl, (by rw [if_neg c1, if_pos c13] at kk; exact kk)⟩
  · have c1 : x = 0 := Classical.not_not.mp c1
    refine m_ald (pc' := 5) cd_Mo_count rfl (Or.inr ⟨_, rfl, rfl, rfl⟩) l0 rfl rfl ?_
    refine m_fI (k := 40) (x := (f 40)) (pc' := 8) cd_Mo_count rfl rfl rfl rfl rfl rfl ?_
    refine m_pure (pc' := 36) (st' := [.int ((f 40))]) cd_Mo_count rfl rfl (fun _ _ => rfl) ?_
    exact m_reti cd_Mo_count rfl ⟨_, rfl, (by rw [if_pos c1] at kk; exact kk)⟩
