/-! The reference: mixed, hashOf, slot, alike, term -/
set_option maxRecDepth 100000 in
theorem m_mixed {sc : tm_X} {d : Nat} {f : Nat → Int32} {A : Nat → Nat → Int32} {h v : Int32} {Q : Int32 → MS → Prop} (kk : Q (mxd h v) (f, A)) : mGi sc (d + 0) 186 [.int h, .int v] (f, A) Q := by
  show mg sc (d + 0) 186 0 [(0, .int h), (1, .int v)] [] (f, A) _
  generalize elv : ([(0, .int h), (1, .int v)] : tm_L) = lv
  have l0 : lv.lookup 0 = some (.int h) := by rw [← elv]; rfl
  have l1 : lv.lookup 1 = some (.int v) := by rw [← elv]; rfl
  clear elv
  refine m_ild (pc' := 1) cd_Mo_mixed rfl (Or.inr ⟨_, rfl, rfl, rfl⟩) l0 rfl ?_
  refine m_ild (pc' := 2) cd_Mo_mixed rfl (Or.inr ⟨_, rfl, rfl, rfl⟩) l1 rfl ?_
  refine m_pure (pc' := 3) (st' := [.int (h ^^^ v)]) cd_Mo_mixed rfl rfl (fun _ _ => rfl) ?_
  refine m_ldc (pc' := 5) cd_Mo_mixed rfl rfl rfl ?_
  refine m_pure (pc' := 6) (st' := [.int ((h ^^^ v) * (-1640531535))]) cd_Mo_mixed rfl rfl (fun _ _ => rfl) ?_
  refine m_ist (pc' := 7) cd_Mo_mixed rfl (Or.inr ⟨_, rfl, rfl, rfl⟩) (by decide) rfl (fun lv el => ?_)
  have l0 := tm_lk el l0 rfl (by decide)
  have l1 := tm_lk el l1 rfl (by decide)
  have l2 : lv.lookup 2 = some (.int ((h ^^^ v) * (-1640531535))) := tm_lks el
  clear el
  refine m_ild (pc' := 8) cd_Mo_mixed rfl (Or.inr ⟨_, rfl, rfl, rfl⟩) l2 rfl ?_
  refine m_ild (pc' := 9) cd_Mo_mixed rfl (Or.inr ⟨_, rfl, rfl, rfl⟩) l2 rfl ?_
  refine m_k2 (v := 15) (pc' := 11) cd_Mo_mixed rfl (by decide) rfl ?_
  refine m_pure (pc' := 12) (st' := [.int ((((h ^^^ v) * (-1640531535)).toUInt32 >>> ((15 : Int32).toUInt32 &&& Int32.toUInt32 31)).toInt32), .int ((h ^^^ v) * (-1640531535))]) cd_Mo_mixed rfl rfl (fun _ _ => rfl) ?_
  refine m_pure (pc' := 13) (st' := [.int (((h ^^^ v) * (-1640531535)) ^^^ ((((h ^^^ v) * (-1640531535)).toUInt32 >>> ((15 : Int32).toUInt32 &&& Int32.toUInt32 31)).toInt32))]) cd_Mo_mixed rfl rfl (fun _ _ => rfl) ?_
  exact m_reti cd_Mo_mixed rfl ⟨_, rfl, kk⟩
set_option maxRecDepth 100000 in
theorem m_hashOf {sc : tm_X} {d : Nat} {f : Nat → Int32} {A : Nat → Nat → Int32} {t u : Nat} {Q : Int32 → MS → Prop} (ht : t < 4096) (hu : A 1 t = 7 → A 3 t = nI u ∧ u < 1024) (kk : Q (hky (A 1 t) (A 2 t) (if A 1 t = 7 then 0 else A 3 t) (A 4 t) (fun k => A 7 (8 * u + k))) (f, A)) : mGi sc (d + 1) 185 [.ref 1482, .int (nI t)] (f, A) Q := by
  show mg sc (d + 1) 185 0 [(0, .ref 1482), (1, .int (nI t))] [] (f, A) _
  generalize elv : ([(0, .ref 1482), (1, .int (nI t))] : tm_L) = lv
  have l0 : lv.lookup 0 = some (.ref 1482) := by rw [← elv]; rfl
  have l1 : lv.lookup 1 = some (.int (nI t)) := by rw [← elv]; rfl
  clear elv
  refine m_ald (pc' := 1) cd_Mo_hashOf rfl (Or.inr ⟨_, rfl, rfl, rfl⟩) l0 rfl rfl ?_
  refine m_fR (r := 0) (a := 1) (ad := 1483) (pc' := 4) rfl rfl cd_Mo_hashOf rfl rfl rfl rfl rfl ?_
  refine m_ild (pc' := 5) cd_Mo_hashOf rfl (Or.inr ⟨_, rfl, rfl, rfl⟩) l1 rfl ?_
  refine m_aI (r := 0) (a := 1) (g := (A 1)) (x := ((A 1) t)) (pc' := 6) rfl rfl cd_Mo_hashOf rfl rfl rfl (vp_in_nI (by omega) (by decide)) (congrArg (A 1) (nI_clamp (by omega))) ?_
  refine m_ald (pc' := 7) cd_Mo_hashOf rfl (Or.inr ⟨_, rfl, rfl, rfl⟩) l0 rfl rfl ?_
  refine m_fR (r := 1) (a := 2) (ad := 1484) (pc' := 10) rfl rfl cd_Mo_hashOf rfl rfl rfl rfl rfl ?_
  refine m_ild (pc' := 11) cd_Mo_hashOf rfl (Or.inr ⟨_, rfl, rfl, rfl⟩) l1 rfl ?_
  refine m_aI (r := 1) (a := 2) (g := (A 2)) (x := ((A 2) t)) (pc' := 12) rfl rfl cd_Mo_hashOf rfl rfl rfl (vp_in_nI (by omega) (by decide)) (congrArg (A 2) (nI_clamp (by omega))) ?_
  refine m_si (pc' := 15) cd_Mo_hashOf rfl rfl rfl rfl rfl cd_Mo_mixed rfl (Nat.le_of_ble_eq_true rfl) (m_mixed ?_)
  show mg _ _ _ 15 _ [.int (mxd ((A 1) t) ((A 2) t))] _ _
  refine m_ist (pc' := 16) cd_Mo_hashOf rfl (Or.inr ⟨_, rfl, rfl, rfl⟩) (by decide) rfl (fun lv el => ?_)
  have l0 := tm_lk el l0 rfl (by decide)
  have l1 := tm_lk el l1 rfl (by decide)
  have l2 : lv.lookup 2 = some (.int (mxd ((A 1) t) ((A 2) t))) := tm_lks el
  clear el
  refine m_ald (pc' := 17) cd_Mo_hashOf rfl (Or.inr ⟨_, rfl, rfl, rfl⟩) l0 rfl rfl ?_
  refine m_fR (r := 0) (a := 1) (ad := 1483) (pc' := 20) rfl rfl cd_Mo_hashOf rfl rfl rfl rfl rfl ?_
  refine m_ild (pc' := 21) cd_Mo_hashOf rfl (Or.inr ⟨_, rfl, rfl, rfl⟩) l1 rfl ?_
  refine m_aI (r := 0) (a := 1) (g := (A 1)) (x := ((A 1) t)) (pc' := 22) rfl rfl cd_Mo_hashOf rfl rfl rfl (vp_in_nI (by omega) (by decide)) (congrArg (A 1) (nI_clamp (by omega))) ?_
  refine m_k2 (v := 7) (pc' := 24) cd_Mo_hashOf rfl (by decide) rfl ?_
  refine m_if2 (t := 47) (pc' := 27) cd_Mo_hashOf rfl rfl rfl (fun c24 => ?_) (fun c24 => ?_)
  · have c24 : ((A 1) t) = 7 := c24
    have hu1 := hu c24
    refine m_k1 (v := 0) (pc' := 48) cd_Mo_hashOf rfl (by decide) rfl ?_
    refine m_ist (pc' := 49) cd_Mo_hashOf rfl (Or.inr ⟨_, rfl, rfl, rfl⟩) (by decide) rfl (fun lv el => ?_)
    have l0 := tm_lk el l0 rfl (by decide)
    have l1 := tm_lk el l1 rfl (by decide)
    have l2 := tm_lk el l2 rfl (by decide)
    have l3 : lv.lookup 3 = some (.int 0) := tm_lks el
    clear el
    refine m_ild (pc' := 50) cd_Mo_hashOf rfl (Or.inr ⟨_, rfl, rfl, rfl⟩) l3 rfl ?_
    refine m_k2 (v := 8) (pc' := 52) cd_Mo_hashOf rfl (by decide) rfl ?_
    refine m_if2 (t := 82) (pc' := 55) cd_Mo_hashOf rfl rfl rfl (fun c52 => ?_) (fun c52 => ?_)
    · exact absurd (show (8 : Int32) ≤ 0 from c52) (by decide)
    · have c52 : ¬ (8 : Int32) ≤ 0 := c52
      refine m_ild (pc' := 56) cd_Mo_hashOf rfl (Or.inr ⟨_, rfl, rfl, rfl⟩) l2 rfl ?_
      refine m_ald (pc' := 57) cd_Mo_hashOf rfl (Or.inr ⟨_, rfl, rfl, rfl⟩) l0 rfl rfl ?_
      refine m_fR (r := 6) (a := 7) (ad := 1489) (pc' := 60) rfl rfl cd_Mo_hashOf rfl rfl rfl rfl rfl ?_
      refine m_k2 (v := 8) (pc' := 62) cd_Mo_hashOf rfl (by decide) rfl ?_
      refine m_ald (pc' := 63) cd_Mo_hashOf rfl (Or.inr ⟨_, rfl, rfl, rfl⟩) l0 rfl rfl ?_
      refine m_fR (r := 2) (a := 3) (ad := 1485) (pc' := 66) rfl rfl cd_Mo_hashOf rfl rfl rfl rfl rfl ?_
      refine m_ild (pc' := 67) cd_Mo_hashOf rfl (Or.inr ⟨_, rfl, rfl, rfl⟩) l1 rfl ?_
      refine m_aI (r := 2) (a := 3) (g := (A 3)) (x := (nI u)) (pc' := 68) rfl rfl cd_Mo_hashOf rfl rfl rfl (vp_in_nI (by omega) (by decide)) (by rw [(nI_clamp (by omega))]; exact hu1.1) ?_
      refine m_pure (pc' := 69) (st' := [.int ((8 : Int32) * (nI u)), .ref 1489, .int (mxd ((A 1) t) ((A 2) t))]) cd_Mo_hashOf rfl rfl (fun _ _ => rfl) ?_
      refine m_eq (show ((8 : Int32) * (nI u) : Int32) = nI (8 * u) from pk_mul 8 u) ?_
      refine m_ild (pc' := 70) cd_Mo_hashOf rfl (Or.inr ⟨_, rfl, rfl, rfl⟩) l3 rfl ?_
      refine m_pure (pc' := 71) (st' := [.int ((nI (8 * u)) + 0), .ref 1489, .int (mxd ((A 1) t) ((A 2) t))]) cd_Mo_hashOf rfl rfl (fun _ _ => rfl) ?_
      refine m_eq (show ((nI (8 * u)) + 0 : Int32) = nI ((8 * u) + 0) from nI_add (8 * u) 0) ?_
      refine m_aI (r := 6) (a := 7) (g := (A 7)) (x := ((A 7) ((8 * u) + 0))) (pc' := 72) rfl rfl cd_Mo_hashOf rfl rfl rfl (vp_in_nI (by omega) (by decide)) (congrArg (A 7) (nI_clamp (by omega))) ?_
      refine m_si (pc' := 75) cd_Mo_hashOf rfl rfl rfl rfl rfl cd_Mo_mixed rfl (Nat.le_of_ble_eq_true rfl) (m_mixed ?_)
      show mg _ _ _ 75 _ [.int (mxd (mxd ((A 1) t) ((A 2) t)) ((A 7) ((8 * u) + 0)))] _ _
      refine m_ist (pc' := 76) cd_Mo_hashOf rfl (Or.inr ⟨_, rfl, rfl, rfl⟩) (by decide) rfl (fun lv el => ?_)
      have l0 := tm_lk el l0 rfl (by decide)
      have l1 := tm_lk el l1 rfl (by decide)
      have l3 := tm_lk el l3 rfl (by decide)
      have l2 : lv.lookup 2 = some (.int (mxd (mxd ((A 1) t) ((A 2) t)) ((A 7) ((8 * u) + 0)))) := tm_lks el
      clear el
      refine m_inc (y := 1) (pc' := 79) cd_Mo_hashOf rfl l3 (by decide) (by decide) rfl (fun lv el => ?_)
      have l0 := tm_lk el l0 rfl (by decide)
      have l1 := tm_lk el l1 rfl (by decide)
      have l2 := tm_lk el l2 rfl (by decide)
      have l3 : lv.lookup 3 = some (.int 1) := tm_lks el
      clear el
      refine m_pure (pc' := 49) (st' := []) cd_Mo_hashOf rfl rfl (fun _ _ => rfl) ?_
      refine m_ild (pc' := 50) cd_Mo_hashOf rfl (Or.inr ⟨_, rfl, rfl, rfl⟩) l3 rfl ?_
      refine m_k2 (v := 8) (pc' := 52) cd_Mo_hashOf rfl (by decide) rfl ?_
      refine m_if2 (t := 82) (pc' := 55) cd_Mo_hashOf rfl rfl rfl (fun c52 => ?_) (fun c52 => ?_)
      · exact absurd (show (8 : Int32) ≤ 1 from c52) (by decide)
      · have c52 : ¬ (8 : Int32) ≤ 1 := c52
        refine m_ild (pc' := 56) cd_Mo_hashOf rfl (Or.inr ⟨_, rfl, rfl, rfl⟩) l2 rfl ?_
        refine m_ald (pc' := 57) cd_Mo_hashOf rfl (Or.inr ⟨_, rfl, rfl, rfl⟩) l0 rfl rfl ?_
        refine m_fR (r := 6) (a := 7) (ad := 1489) (pc' := 60) rfl rfl cd_Mo_hashOf rfl rfl rfl rfl rfl ?_
        refine m_k2 (v := 8) (pc' := 62) cd_Mo_hashOf rfl (by decide) rfl ?_
        refine m_ald (pc' := 63) cd_Mo_hashOf rfl (Or.inr ⟨_, rfl, rfl, rfl⟩) l0 rfl rfl ?_
        refine m_fR (r := 2) (a := 3) (ad := 1485) (pc' := 66) rfl rfl cd_Mo_hashOf rfl rfl rfl rfl rfl ?_
        refine m_ild (pc' := 67) cd_Mo_hashOf rfl (Or.inr ⟨_, rfl, rfl, rfl⟩) l1 rfl ?_
        refine m_aI (r := 2) (a := 3) (g := (A 3)) (x := (nI u)) (pc' := 68) rfl rfl cd_Mo_hashOf rfl rfl rfl (vp_in_nI (by omega) (by decide)) (by rw [(nI_clamp (by omega))]; exact hu1.1) ?_
        refine m_pure (pc' := 69) (st' := [.int ((8 : Int32) * (nI u)), .ref 1489, .int (mxd (mxd ((A 1) t) ((A 2) t)) ((A 7) ((8 * u) + 0)))]) cd_Mo_hashOf rfl rfl (fun _ _ => rfl) ?_
        refine m_eq (show ((8 : Int32) * (nI u) : Int32) = nI (8 * u) from pk_mul 8 u) ?_
        refine m_ild (pc' := 70) cd_Mo_hashOf rfl (Or.inr ⟨_, rfl, rfl, rfl⟩) l3 rfl ?_
        refine m_pure (pc' := 71) (st' := [.int ((nI (8 * u)) + 1), .ref 1489, .int (mxd (mxd ((A 1) t) ((A 2) t)) ((A 7) ((8 * u) + 0)))]) cd_Mo_hashOf rfl rfl (fun _ _ => rfl) ?_
        refine m_eq (show ((nI (8 * u)) + 1 : Int32) = nI ((8 * u) + 1) from nI_add (8 * u) 1) ?_
        refine m_aI (r := 6) (a := 7) (g := (A 7)) (x := ((A 7) ((8 * u) + 1))) (pc' := 72) rfl rfl cd_Mo_hashOf rfl rfl rfl (vp_in_nI (by omega) (by decide)) (congrArg (A 7) (nI_clamp (by omega))) ?_
        refine m_si (pc' := 75) cd_Mo_hashOf rfl rfl rfl rfl rfl cd_Mo_mixed rfl (Nat.le_of_ble_eq_true rfl) (m_mixed ?_)
        show mg _ _ _ 75 _ [.int (mxd (mxd (mxd ((A 1) t) ((A 2) t)) ((A 7) ((8 * u) + 0))) ((A 7) ((8 * u) + 1)))] _ _
        refine m_ist (pc' := 76) cd_Mo_hashOf rfl (Or.inr ⟨_, rfl, rfl, rfl⟩) (by decide) rfl (fun lv el => ?_)
        have l0 := tm_lk el l0 rfl (by decide)
        have l1 := tm_lk el l1 rfl (by decide)
        have l3 := tm_lk el l3 rfl (by decide)
        have l2 : lv.lookup 2 = some (.int (mxd (mxd (mxd ((A 1) t) ((A 2) t)) ((A 7) ((8 * u) + 0))) ((A 7) ((8 * u) + 1)))) := tm_lks el
        clear el
        refine m_inc (y := 2) (pc' := 79) cd_Mo_hashOf rfl l3 (by decide) (by decide) rfl (fun lv el => ?_)
        have l0 := tm_lk el l0 rfl (by decide)
        have l1 := tm_lk el l1 rfl (by decide)
        have l2 := tm_lk el l2 rfl (by decide)
        have l3 : lv.lookup 3 = some (.int 2) := tm_lks el
        clear el
        refine m_pure (pc' := 49) (st' := []) cd_Mo_hashOf rfl rfl (fun _ _ => rfl) ?_
        refine m_ild (pc' := 50) cd_Mo_hashOf rfl (Or.inr ⟨_, rfl, rfl, rfl⟩) l3 rfl ?_
        refine m_k2 (v := 8) (pc' := 52) cd_Mo_hashOf rfl (by decide) rfl ?_
        refine m_if2 (t := 82) (pc' := 55) cd_Mo_hashOf rfl rfl rfl (fun c52 => ?_) (fun c52 => ?_)
        · exact absurd (show (8 : Int32) ≤ 2 from c52) (by decide)
        · have c52 : ¬ (8 : Int32) ≤ 2 := c52
          refine m_ild (pc' := 56) cd_Mo_hashOf rfl (Or.inr ⟨_, rfl, rfl, rfl⟩) l2 rfl ?_
          refine m_ald (pc' := 57) cd_Mo_hashOf rfl (Or.inr ⟨_, rfl, rfl, rfl⟩) l0 rfl rfl ?_
          refine m_fR (r := 6) (a := 7) (ad := 1489) (pc' := 60) rfl rfl cd_Mo_hashOf rfl rfl rfl rfl rfl ?_
          refine m_k2 (v := 8) (pc' := 62) cd_Mo_hashOf rfl (by decide) rfl ?_
          refine m_ald (pc' := 63) cd_Mo_hashOf rfl (Or.inr ⟨_, rfl, rfl, rfl⟩) l0 rfl rfl ?_
          refine m_fR (r := 2) (a := 3) (ad := 1485) (pc' := 66) rfl rfl cd_Mo_hashOf rfl rfl rfl rfl rfl ?_
          refine m_ild (pc' := 67) cd_Mo_hashOf rfl (Or.inr ⟨_, rfl, rfl, rfl⟩) l1 rfl ?_
          refine m_aI (r := 2) (a := 3) (g := (A 3)) (x := (nI u)) (pc' := 68) rfl rfl cd_Mo_hashOf rfl rfl rfl (vp_in_nI (by omega) (by decide)) (by rw [(nI_clamp (by omega))]; exact hu1.1) ?_
          refine m_pure (pc' := 69) (st' := [.int ((8 : Int32) * (nI u)), .ref 1489, .int (mxd (mxd (mxd ((A 1) t) ((A 2) t)) ((A 7) ((8 * u) + 0))) ((A 7) ((8 * u) + 1)))]) cd_Mo_hashOf rfl rfl (fun _ _ => rfl) ?_
          refine m_eq (show ((8 : Int32) * (nI u) : Int32) = nI (8 * u) from pk_mul 8 u) ?_
          refine m_ild (pc' := 70) cd_Mo_hashOf rfl (Or.inr ⟨_, rfl, rfl, rfl⟩) l3 rfl ?_
          refine m_pure (pc' := 71) (st' := [.int ((nI (8 * u)) + 2), .ref 1489, .int (mxd (mxd (mxd ((A 1) t) ((A 2) t)) ((A 7) ((8 * u) + 0))) ((A 7) ((8 * u) + 1)))]) cd_Mo_hashOf rfl rfl (fun _ _ => rfl) ?_
          refine m_eq (show ((nI (8 * u)) + 2 : Int32) = nI ((8 * u) + 2) from nI_add (8 * u) 2) ?_
          refine m_aI (r := 6) (a := 7) (g := (A 7)) (x := ((A 7) ((8 * u) + 2))) (pc' := 72) rfl rfl cd_Mo_hashOf rfl rfl rfl (vp_in_nI (by omega) (by decide)) (congrArg (A 7) (nI_clamp (by omega))) ?_
          refine m_si (pc' := 75) cd_Mo_hashOf rfl rfl rfl rfl rfl cd_Mo_mixed rfl (Nat.le_of_ble_eq_true rfl) (m_mixed ?_)
          show mg _ _ _ 75 _ [.int (mxd (mxd (mxd (mxd ((A 1) t) ((A 2) t)) ((A 7) ((8 * u) + 0))) ((A 7) ((8 * u) + 1))) ((A 7) ((8 * u) + 2)))] _ _
          refine m_ist (pc' := 76) cd_Mo_hashOf rfl (Or.inr ⟨_, rfl, rfl, rfl⟩) (by decide) rfl (fun lv el => ?_)
          have l0 := tm_lk el l0 rfl (by decide)
          have l1 := tm_lk el l1 rfl (by decide)
          have l3 := tm_lk el l3 rfl (by decide)
          have l2 : lv.lookup 2 = some (.int (mxd (mxd (mxd (mxd ((A 1) t) ((A 2) t)) ((A 7) ((8 * u) + 0))) ((A 7) ((8 * u) + 1))) ((A 7) ((8 * u) + 2)))) := tm_lks el
          clear el
          refine m_inc (y := 3) (pc' := 79) cd_Mo_hashOf rfl l3 (by decide) (by decide) rfl (fun lv el => ?_)
          have l0 := tm_lk el l0 rfl (by decide)
          have l1 := tm_lk el l1 rfl (by decide)
          have l2 := tm_lk el l2 rfl (by decide)
          have l3 : lv.lookup 3 = some (.int 3) := tm_lks el
          clear el
          refine m_pure (pc' := 49) (st' := []) cd_Mo_hashOf rfl rfl (fun _ _ => rfl) ?_
          refine m_ild (pc' := 50) cd_Mo_hashOf rfl (Or.inr ⟨_, rfl, rfl, rfl⟩) l3 rfl ?_
          refine m_k2 (v := 8) (pc' := 52) cd_Mo_hashOf rfl (by decide) rfl ?_
          refine m_if2 (t := 82) (pc' := 55) cd_Mo_hashOf rfl rfl rfl (fun c52 => ?_) (fun c52 => ?_)
          · exact absurd (show (8 : Int32) ≤ 3 from c52) (by decide)
          · have c52 : ¬ (8 : Int32) ≤ 3 := c52
            refine m_ild (pc' := 56) cd_Mo_hashOf rfl (Or.inr ⟨_, rfl, rfl, rfl⟩) l2 rfl ?_
            refine m_ald (pc' := 57) cd_Mo_hashOf rfl (Or.inr ⟨_, rfl, rfl, rfl⟩) l0 rfl rfl ?_
            refine m_fR (r := 6) (a := 7) (ad := 1489) (pc' := 60) rfl rfl cd_Mo_hashOf rfl rfl rfl rfl rfl ?_
            refine m_k2 (v := 8) (pc' := 62) cd_Mo_hashOf rfl (by decide) rfl ?_
            refine m_ald (pc' := 63) cd_Mo_hashOf rfl (Or.inr ⟨_, rfl, rfl, rfl⟩) l0 rfl rfl ?_
            refine m_fR (r := 2) (a := 3) (ad := 1485) (pc' := 66) rfl rfl cd_Mo_hashOf rfl rfl rfl rfl rfl ?_
            refine m_ild (pc' := 67) cd_Mo_hashOf rfl (Or.inr ⟨_, rfl, rfl, rfl⟩) l1 rfl ?_
            refine m_aI (r := 2) (a := 3) (g := (A 3)) (x := (nI u)) (pc' := 68) rfl rfl cd_Mo_hashOf rfl rfl rfl (vp_in_nI (by omega) (by decide)) (by rw [(nI_clamp (by omega))]; exact hu1.1) ?_
            refine m_pure (pc' := 69) (st' := [.int ((8 : Int32) * (nI u)), .ref 1489, .int (mxd (mxd (mxd (mxd ((A 1) t) ((A 2) t)) ((A 7) ((8 * u) + 0))) ((A 7) ((8 * u) + 1))) ((A 7) ((8 * u) + 2)))]) cd_Mo_hashOf rfl rfl (fun _ _ => rfl) ?_
            refine m_eq (show ((8 : Int32) * (nI u) : Int32) = nI (8 * u) from pk_mul 8 u) ?_
            refine m_ild (pc' := 70) cd_Mo_hashOf rfl (Or.inr ⟨_, rfl, rfl, rfl⟩) l3 rfl ?_
            refine m_pure (pc' := 71) (st' := [.int ((nI (8 * u)) + 3), .ref 1489, .int (mxd (mxd (mxd (mxd ((A 1) t) ((A 2) t)) ((A 7) ((8 * u) + 0))) ((A 7) ((8 * u) + 1))) ((A 7) ((8 * u) + 2)))]) cd_Mo_hashOf rfl rfl (fun _ _ => rfl) ?_
            refine m_eq (show ((nI (8 * u)) + 3 : Int32) = nI ((8 * u) + 3) from nI_add (8 * u) 3) ?_
            refine m_aI (r := 6) (a := 7) (g := (A 7)) (x := ((A 7) ((8 * u) + 3))) (pc' := 72) rfl rfl cd_Mo_hashOf rfl rfl rfl (vp_in_nI (by omega) (by decide)) (congrArg (A 7) (nI_clamp (by omega))) ?_
            refine m_si (pc' := 75) cd_Mo_hashOf rfl rfl rfl rfl rfl cd_Mo_mixed rfl (Nat.le_of_ble_eq_true rfl) (m_mixed ?_)
            show mg _ _ _ 75 _ [.int (mxd (mxd (mxd (mxd (mxd ((A 1) t) ((A 2) t)) ((A 7) ((8 * u) + 0))) ((A 7) ((8 * u) + 1))) ((A 7) ((8 * u) + 2))) ((A 7) ((8 * u) + 3)))] _ _
            refine m_ist (pc' := 76) cd_Mo_hashOf rfl (Or.inr ⟨_, rfl, rfl, rfl⟩) (by decide) rfl (fun lv el => ?_)
            have l0 := tm_lk el l0 rfl (by decide)
            have l1 := tm_lk el l1 rfl (by decide)
            have l3 := tm_lk el l3 rfl (by decide)
            have l2 : lv.lookup 2 = some (.int (mxd (mxd (mxd (mxd (mxd ((A 1) t) ((A 2) t)) ((A 7) ((8 * u) + 0))) ((A 7) ((8 * u) + 1))) ((A 7) ((8 * u) + 2))) ((A 7) ((8 * u) + 3)))) := tm_lks el
            clear el
            refine m_inc (y := 4) (pc' := 79) cd_Mo_hashOf rfl l3 (by decide) (by decide) rfl (fun lv el => ?_)
            have l0 := tm_lk el l0 rfl (by decide)
            have l1 := tm_lk el l1 rfl (by decide)
            have l2 := tm_lk el l2 rfl (by decide)
            have l3 : lv.lookup 3 = some (.int 4) := tm_lks el
            clear el
            refine m_pure (pc' := 49) (st' := []) cd_Mo_hashOf rfl rfl (fun _ _ => rfl) ?_
            refine m_ild (pc' := 50) cd_Mo_hashOf rfl (Or.inr ⟨_, rfl, rfl, rfl⟩) l3 rfl ?_
            refine m_k2 (v := 8) (pc' := 52) cd_Mo_hashOf rfl (by decide) rfl ?_
            refine m_if2 (t := 82) (pc' := 55) cd_Mo_hashOf rfl rfl rfl (fun c52 => ?_) (fun c52 => ?_)
            · exact absurd (show (8 : Int32) ≤ 4 from c52) (by decide)
            · have c52 : ¬ (8 : Int32) ≤ 4 := c52
              refine m_ild (pc' := 56) cd_Mo_hashOf rfl (Or.inr ⟨_, rfl, rfl, rfl⟩) l2 rfl ?_
              refine m_ald (pc' := 57) cd_Mo_hashOf rfl (Or.inr ⟨_, rfl, rfl, rfl⟩) l0 rfl rfl ?_
              refine m_fR (r := 6) (a := 7) (ad := 1489) (pc' := 60) rfl rfl cd_Mo_hashOf rfl rfl rfl rfl rfl ?_
              refine m_k2 (v := 8) (pc' := 62) cd_Mo_hashOf rfl (by decide) rfl ?_
              refine m_ald (pc' := 63) cd_Mo_hashOf rfl (Or.inr ⟨_, rfl, rfl, rfl⟩) l0 rfl rfl ?_
              refine m_fR (r := 2) (a := 3) (ad := 1485) (pc' := 66) rfl rfl cd_Mo_hashOf rfl rfl rfl rfl rfl ?_
              refine m_ild (pc' := 67) cd_Mo_hashOf rfl (Or.inr ⟨_, rfl, rfl, rfl⟩) l1 rfl ?_
              refine m_aI (r := 2) (a := 3) (g := (A 3)) (x := (nI u)) (pc' := 68) rfl rfl cd_Mo_hashOf rfl rfl rfl (vp_in_nI (by omega) (by decide)) (by rw [(nI_clamp (by omega))]; exact hu1.1) ?_
              refine m_pure (pc' := 69) (st' := [.int ((8 : Int32) * (nI u)), .ref 1489, .int (mxd (mxd (mxd (mxd (mxd ((A 1) t) ((A 2) t)) ((A 7) ((8 * u) + 0))) ((A 7) ((8 * u) + 1))) ((A 7) ((8 * u) + 2))) ((A 7) ((8 * u) + 3)))]) cd_Mo_hashOf rfl rfl (fun _ _ => rfl) ?_
              refine m_eq (show ((8 : Int32) * (nI u) : Int32) = nI (8 * u) from pk_mul 8 u) ?_
              refine m_ild (pc' := 70) cd_Mo_hashOf rfl (Or.inr ⟨_, rfl, rfl, rfl⟩) l3 rfl ?_
              refine m_pure (pc' := 71) (st' := [.int ((nI (8 * u)) + 4), .ref 1489, .int (mxd (mxd (mxd (mxd (mxd ((A 1) t) ((A 2) t)) ((A 7) ((8 * u) + 0))) ((A 7) ((8 * u) + 1))) ((A 7) ((8 * u) + 2))) ((A 7) ((8 * u) + 3)))]) cd_Mo_hashOf rfl rfl (fun _ _ => rfl) ?_
              refine m_eq (show ((nI (8 * u)) + 4 : Int32) = nI ((8 * u) + 4) from nI_add (8 * u) 4) ?_
              refine m_aI (r := 6) (a := 7) (g := (A 7)) (x := ((A 7) ((8 * u) + 4))) (pc' := 72) rfl rfl cd_Mo_hashOf rfl rfl rfl (vp_in_nI (by omega) (by decide)) (congrArg (A 7) (nI_clamp (by omega))) ?_
              refine m_si (pc' := 75) cd_Mo_hashOf rfl rfl rfl rfl rfl cd_Mo_mixed rfl (Nat.le_of_ble_eq_true rfl) (m_mixed ?_)
              show mg _ _ _ 75 _ [.int (mxd (mxd (mxd (mxd (mxd (mxd ((A 1) t) ((A 2) t)) ((A 7) ((8 * u) + 0))) ((A 7) ((8 * u) + 1))) ((A 7) ((8 * u) + 2))) ((A 7) ((8 * u) + 3))) ((A 7) ((8 * u) + 4)))] _ _
              refine m_ist (pc' := 76) cd_Mo_hashOf rfl (Or.inr ⟨_, rfl, rfl, rfl⟩) (by decide) rfl (fun lv el => ?_)
              have l0 := tm_lk el l0 rfl (by decide)
              have l1 := tm_lk el l1 rfl (by decide)
              have l3 := tm_lk el l3 rfl (by decide)
              have l2 : lv.lookup 2 = some (.int (mxd (mxd (mxd (mxd (mxd (mxd ((A 1) t) ((A 2) t)) ((A 7) ((8 * u) + 0))) ((A 7) ((8 * u) + 1))) ((A 7) ((8 * u) + 2))) ((A 7) ((8 * u) + 3))) ((A 7) ((8 * u) + 4)))) := tm_lks el
              clear el
              refine m_inc (y := 5) (pc' := 79) cd_Mo_hashOf rfl l3 (by decide) (by decide) rfl (fun lv el => ?_)
              have l0 := tm_lk el l0 rfl (by decide)
              have l1 := tm_lk el l1 rfl (by decide)
              have l2 := tm_lk el l2 rfl (by decide)
              have l3 : lv.lookup 3 = some (.int 5) := tm_lks el
              clear el
              refine m_pure (pc' := 49) (st' := []) cd_Mo_hashOf rfl rfl (fun _ _ => rfl) ?_
              refine m_ild (pc' := 50) cd_Mo_hashOf rfl (Or.inr ⟨_, rfl, rfl, rfl⟩) l3 rfl ?_
              refine m_k2 (v := 8) (pc' := 52) cd_Mo_hashOf rfl (by decide) rfl ?_
              refine m_if2 (t := 82) (pc' := 55) cd_Mo_hashOf rfl rfl rfl (fun c52 => ?_) (fun c52 => ?_)
              · exact absurd (show (8 : Int32) ≤ 5 from c52) (by decide)
              · have c52 : ¬ (8 : Int32) ≤ 5 := c52
                refine m_ild (pc' := 56) cd_Mo_hashOf rfl (Or.inr ⟨_, rfl, rfl, rfl⟩) l2 rfl ?_
                refine m_ald (pc' := 57) cd_Mo_hashOf rfl (Or.inr ⟨_, rfl, rfl, rfl⟩) l0 rfl rfl ?_
                refine m_fR (r := 6) (a := 7) (ad := 1489) (pc' := 60) rfl rfl cd_Mo_hashOf rfl rfl rfl rfl rfl ?_
                refine m_k2 (v := 8) (pc' := 62) cd_Mo_hashOf rfl (by decide) rfl ?_
                refine m_ald (pc' := 63) cd_Mo_hashOf rfl (Or.inr ⟨_, rfl, rfl, rfl⟩) l0 rfl rfl ?_
                refine m_fR (r := 2) (a := 3) (ad := 1485) (pc' := 66) rfl rfl cd_Mo_hashOf rfl rfl rfl rfl rfl ?_
                refine m_ild (pc' := 67) cd_Mo_hashOf rfl (Or.inr ⟨_, rfl, rfl, rfl⟩) l1 rfl ?_
                refine m_aI (r := 2) (a := 3) (g := (A 3)) (x := (nI u)) (pc' := 68) rfl rfl cd_Mo_hashOf rfl rfl rfl (vp_in_nI (by omega) (by decide)) (by rw [(nI_clamp (by omega))]; exact hu1.1) ?_
                refine m_pure (pc' := 69) (st' := [.int ((8 : Int32) * (nI u)), .ref 1489, .int (mxd (mxd (mxd (mxd (mxd (mxd ((A 1) t) ((A 2) t)) ((A 7) ((8 * u) + 0))) ((A 7) ((8 * u) + 1))) ((A 7) ((8 * u) + 2))) ((A 7) ((8 * u) + 3))) ((A 7) ((8 * u) + 4)))]) cd_Mo_hashOf rfl rfl (fun _ _ => rfl) ?_
                refine m_eq (show ((8 : Int32) * (nI u) : Int32) = nI (8 * u) from pk_mul 8 u) ?_
                refine m_ild (pc' := 70) cd_Mo_hashOf rfl (Or.inr ⟨_, rfl, rfl, rfl⟩) l3 rfl ?_
                refine m_pure (pc' := 71) (st' := [.int ((nI (8 * u)) + 5), .ref 1489, .int (mxd (mxd (mxd (mxd (mxd (mxd ((A 1) t) ((A 2) t)) ((A 7) ((8 * u) + 0))) ((A 7) ((8 * u) + 1))) ((A 7) ((8 * u) + 2))) ((A 7) ((8 * u) + 3))) ((A 7) ((8 * u) + 4)))]) cd_Mo_hashOf rfl rfl (fun _ _ => rfl) ?_
                refine m_eq (show ((nI (8 * u)) + 5 : Int32) = nI ((8 * u) + 5) from nI_add (8 * u) 5) ?_
                refine m_aI (r := 6) (a := 7) (g := (A 7)) (x := ((A 7) ((8 * u) + 5))) (pc' := 72) rfl rfl cd_Mo_hashOf rfl rfl rfl (vp_in_nI (by omega) (by decide)) (congrArg (A 7) (nI_clamp (by omega))) ?_
                refine m_si (pc' := 75) cd_Mo_hashOf rfl rfl rfl rfl rfl cd_Mo_mixed rfl (Nat.le_of_ble_eq_true rfl) (m_mixed ?_)
                show mg _ _ _ 75 _ [.int (mxd (mxd (mxd (mxd (mxd (mxd (mxd ((A 1) t) ((A 2) t)) ((A 7) ((8 * u) + 0))) ((A 7) ((8 * u) + 1))) ((A 7) ((8 * u) + 2))) ((A 7) ((8 * u) + 3))) ((A 7) ((8 * u) + 4))) ((A 7) ((8 * u) + 5)))] _ _
                refine m_ist (pc' := 76) cd_Mo_hashOf rfl (Or.inr ⟨_, rfl, rfl, rfl⟩) (by decide) rfl (fun lv el => ?_)
                have l0 := tm_lk el l0 rfl (by decide)
                have l1 := tm_lk el l1 rfl (by decide)
                have l3 := tm_lk el l3 rfl (by decide)
                have l2 : lv.lookup 2 = some (.int (mxd (mxd (mxd (mxd (mxd (mxd (mxd ((A 1) t) ((A 2) t)) ((A 7) ((8 * u) + 0))) ((A 7) ((8 * u) + 1))) ((A 7) ((8 * u) + 2))) ((A 7) ((8 * u) + 3))) ((A 7) ((8 * u) + 4))) ((A 7) ((8 * u) + 5)))) := tm_lks el
                clear el
                refine m_inc (y := 6) (pc' := 79) cd_Mo_hashOf rfl l3 (by decide) (by decide) rfl (fun lv el => ?_)
                have l0 := tm_lk el l0 rfl (by decide)
                have l1 := tm_lk el l1 rfl (by decide)
                have l2 := tm_lk el l2 rfl (by decide)
                have l3 : lv.lookup 3 = some (.int 6) := tm_lks el
                clear el
                refine m_pure (pc' := 49) (st' := []) cd_Mo_hashOf rfl rfl (fun _ _ => rfl) ?_
                refine m_ild (pc' := 50) cd_Mo_hashOf rfl (Or.inr ⟨_, rfl, rfl, rfl⟩) l3 rfl ?_
                refine m_k2 (v := 8) (pc' := 52) cd_Mo_hashOf rfl (by decide) rfl ?_
                refine m_if2 (t := 82) (pc' := 55) cd_Mo_hashOf rfl rfl rfl (fun c52 => ?_) (fun c52 => ?_)
                · exact absurd (show (8 : Int32) ≤ 6 from c52) (by decide)
                · have c52 : ¬ (8 : Int32) ≤ 6 := c52
                  refine m_ild (pc' := 56) cd_Mo_hashOf rfl (Or.inr ⟨_, rfl, rfl, rfl⟩) l2 rfl ?_
                  refine m_ald (pc' := 57) cd_Mo_hashOf rfl (Or.inr ⟨_, rfl, rfl, rfl⟩) l0 rfl rfl ?_
                  refine m_fR (r := 6) (a := 7) (ad := 1489) (pc' := 60) rfl rfl cd_Mo_hashOf rfl rfl rfl rfl rfl ?_
                  refine m_k2 (v := 8) (pc' := 62) cd_Mo_hashOf rfl (by decide) rfl ?_
                  refine m_ald (pc' := 63) cd_Mo_hashOf rfl (Or.inr ⟨_, rfl, rfl, rfl⟩) l0 rfl rfl ?_
                  refine m_fR (r := 2) (a := 3) (ad := 1485) (pc' := 66) rfl rfl cd_Mo_hashOf rfl rfl rfl rfl rfl ?_
                  refine m_ild (pc' := 67) cd_Mo_hashOf rfl (Or.inr ⟨_, rfl, rfl, rfl⟩) l1 rfl ?_
                  refine m_aI (r := 2) (a := 3) (g := (A 3)) (x := (nI u)) (pc' := 68) rfl rfl cd_Mo_hashOf rfl rfl rfl (vp_in_nI (by omega) (by decide)) (by rw [(nI_clamp (by omega))]; exact hu1.1) ?_
                  refine m_pure (pc' := 69) (st' := [.int ((8 : Int32) * (nI u)), .ref 1489, .int (mxd (mxd (mxd (mxd (mxd (mxd (mxd ((A 1) t) ((A 2) t)) ((A 7) ((8 * u) + 0))) ((A 7) ((8 * u) + 1))) ((A 7) ((8 * u) + 2))) ((A 7) ((8 * u) + 3))) ((A 7) ((8 * u) + 4))) ((A 7) ((8 * u) + 5)))]) cd_Mo_hashOf rfl rfl (fun _ _ => rfl) ?_
                  refine m_eq (show ((8 : Int32) * (nI u) : Int32) = nI (8 * u) from pk_mul 8 u) ?_
                  refine m_ild (pc' := 70) cd_Mo_hashOf rfl (Or.inr ⟨_, rfl, rfl, rfl⟩) l3 rfl ?_
                  refine m_pure (pc' := 71) (st' := [.int ((nI (8 * u)) + 6), .ref 1489, .int (mxd (mxd (mxd (mxd (mxd (mxd (mxd ((A 1) t) ((A 2) t)) ((A 7) ((8 * u) + 0))) ((A 7) ((8 * u) + 1))) ((A 7) ((8 * u) + 2))) ((A 7) ((8 * u) + 3))) ((A 7) ((8 * u) + 4))) ((A 7) ((8 * u) + 5)))]) cd_Mo_hashOf rfl rfl (fun _ _ => rfl) ?_
                  refine m_eq (show ((nI (8 * u)) + 6 : Int32) = nI ((8 * u) + 6) from nI_add (8 * u) 6) ?_
                  refine m_aI (r := 6) (a := 7) (g := (A 7)) (x := ((A 7) ((8 * u) + 6))) (pc' := 72) rfl rfl cd_Mo_hashOf rfl rfl rfl (vp_in_nI (by omega) (by decide)) (congrArg (A 7) (nI_clamp (by omega))) ?_
                  refine m_si (pc' := 75) cd_Mo_hashOf rfl rfl rfl rfl rfl cd_Mo_mixed rfl (Nat.le_of_ble_eq_true rfl) (m_mixed ?_)
                  show mg _ _ _ 75 _ [.int (mxd (mxd (mxd (mxd (mxd (mxd (mxd (mxd ((A 1) t) ((A 2) t)) ((A 7) ((8 * u) + 0))) ((A 7) ((8 * u) + 1))) ((A 7) ((8 * u) + 2))) ((A 7) ((8 * u) + 3))) ((A 7) ((8 * u) + 4))) ((A 7) ((8 * u) + 5))) ((A 7) ((8 * u) + 6)))] _ _
                  refine m_ist (pc' := 76) cd_Mo_hashOf rfl (Or.inr ⟨_, rfl, rfl, rfl⟩) (by decide) rfl (fun lv el => ?_)
                  have l0 := tm_lk el l0 rfl (by decide)
                  have l1 := tm_lk el l1 rfl (by decide)
                  have l3 := tm_lk el l3 rfl (by decide)
                  have l2 : lv.lookup 2 = some (.int (mxd (mxd (mxd (mxd (mxd (mxd (mxd (mxd ((A 1) t) ((A 2) t)) ((A 7) ((8 * u) + 0))) ((A 7) ((8 * u) + 1))) ((A 7) ((8 * u) + 2))) ((A 7) ((8 * u) + 3))) ((A 7) ((8 * u) + 4))) ((A 7) ((8 * u) + 5))) ((A 7) ((8 * u) + 6)))) := tm_lks el
                  clear el
                  refine m_inc (y := 7) (pc' := 79) cd_Mo_hashOf rfl l3 (by decide) (by decide) rfl (fun lv el => ?_)
                  have l0 := tm_lk el l0 rfl (by decide)
                  have l1 := tm_lk el l1 rfl (by decide)
                  have l2 := tm_lk el l2 rfl (by decide)
                  have l3 : lv.lookup 3 = some (.int 7) := tm_lks el
                  clear el
                  refine m_pure (pc' := 49) (st' := []) cd_Mo_hashOf rfl rfl (fun _ _ => rfl) ?_
                  refine m_ild (pc' := 50) cd_Mo_hashOf rfl (Or.inr ⟨_, rfl, rfl, rfl⟩) l3 rfl ?_
                  refine m_k2 (v := 8) (pc' := 52) cd_Mo_hashOf rfl (by decide) rfl ?_
                  refine m_if2 (t := 82) (pc' := 55) cd_Mo_hashOf rfl rfl rfl (fun c52 => ?_) (fun c52 => ?_)
                  · exact absurd (show (8 : Int32) ≤ 7 from c52) (by decide)
                  · have c52 : ¬ (8 : Int32) ≤ 7 := c52
                    refine m_ild (pc' := 56) cd_Mo_hashOf rfl (Or.inr ⟨_, rfl, rfl, rfl⟩) l2 rfl ?_
                    refine m_ald (pc' := 57) cd_Mo_hashOf rfl (Or.inr ⟨_, rfl, rfl, rfl⟩) l0 rfl rfl ?_
                    refine m_fR (r := 6) (a := 7) (ad := 1489) (pc' := 60) rfl rfl cd_Mo_hashOf rfl rfl rfl rfl rfl ?_
                    refine m_k2 (v := 8) (pc' := 62) cd_Mo_hashOf rfl (by decide) rfl ?_
                    refine m_ald (pc' := 63) cd_Mo_hashOf rfl (Or.inr ⟨_, rfl, rfl, rfl⟩) l0 rfl rfl ?_
                    refine m_fR (r := 2) (a := 3) (ad := 1485) (pc' := 66) rfl rfl cd_Mo_hashOf rfl rfl rfl rfl rfl ?_
                    refine m_ild (pc' := 67) cd_Mo_hashOf rfl (Or.inr ⟨_, rfl, rfl, rfl⟩) l1 rfl ?_
                    refine m_aI (r := 2) (a := 3) (g := (A 3)) (x := (nI u)) (pc' := 68) rfl rfl cd_Mo_hashOf rfl rfl rfl (vp_in_nI (by omega) (by decide)) (by rw [(nI_clamp (by omega))]; exact hu1.1) ?_
                    refine m_pure (pc' := 69) (st' := [.int ((8 : Int32) * (nI u)), .ref 1489, .int (mxd (mxd (mxd (mxd (mxd (mxd (mxd (mxd ((A 1) t) ((A 2) t)) ((A 7) ((8 * u) + 0))) ((A 7) ((8 * u) + 1))) ((A 7) ((8 * u) + 2))) ((A 7) ((8 * u) + 3))) ((A 7) ((8 * u) + 4))) ((A 7) ((8 * u) + 5))) ((A 7) ((8 * u) + 6)))]) cd_Mo_hashOf rfl rfl (fun _ _ => rfl) ?_
                    refine m_eq (show ((8 : Int32) * (nI u) : Int32) = nI (8 * u) from pk_mul 8 u) ?_
                    refine m_ild (pc' := 70) cd_Mo_hashOf rfl (Or.inr ⟨_, rfl, rfl, rfl⟩) l3 rfl ?_
                    refine m_pure (pc' := 71) (st' := [.int ((nI (8 * u)) + 7), .ref 1489, .int (mxd (mxd (mxd (mxd (mxd (mxd (mxd (mxd ((A 1) t) ((A 2) t)) ((A 7) ((8 * u) + 0))) ((A 7) ((8 * u) + 1))) ((A 7) ((8 * u) + 2))) ((A 7) ((8 * u) + 3))) ((A 7) ((8 * u) + 4))) ((A 7) ((8 * u) + 5))) ((A 7) ((8 * u) + 6)))]) cd_Mo_hashOf rfl rfl (fun _ _ => rfl) ?_
                    refine m_eq (show ((nI (8 * u)) + 7 : Int32) = nI ((8 * u) + 7) from nI_add (8 * u) 7) ?_
                    refine m_aI (r := 6) (a := 7) (g := (A 7)) (x := ((A 7) ((8 * u) + 7))) (pc' := 72) rfl rfl cd_Mo_hashOf rfl rfl rfl (vp_in_nI (by omega) (by decide)) (congrArg (A 7) (nI_clamp (by omega))) ?_
                    refine m_si (pc' := 75) cd_Mo_hashOf rfl rfl rfl rfl rfl cd_Mo_mixed rfl (Nat.le_of_ble_eq_true rfl) (m_mixed ?_)
                    show mg _ _ _ 75 _ [.int (mxd (mxd (mxd (mxd (mxd (mxd (mxd (mxd (mxd ((A 1) t) ((A 2) t)) ((A 7) ((8 * u) + 0))) ((A 7) ((8 * u) + 1))) ((A 7) ((8 * u) + 2))) ((A 7) ((8 * u) + 3))) ((A 7) ((8 * u) + 4))) ((A 7) ((8 * u) + 5))) ((A 7) ((8 * u) + 6))) ((A 7) ((8 * u) + 7)))] _ _
                    refine m_ist (pc' := 76) cd_Mo_hashOf rfl (Or.inr ⟨_, rfl, rfl, rfl⟩) (by decide) rfl (fun lv el => ?_)
                    have l0 := tm_lk el l0 rfl (by decide)
                    have l1 := tm_lk el l1 rfl (by decide)
                    have l3 := tm_lk el l3 rfl (by decide)
                    have l2 : lv.lookup 2 = some (.int (mxd (mxd (mxd (mxd (mxd (mxd (mxd (mxd (mxd ((A 1) t) ((A 2) t)) ((A 7) ((8 * u) + 0))) ((A 7) ((8 * u) + 1))) ((A 7) ((8 * u) + 2))) ((A 7) ((8 * u) + 3))) ((A 7) ((8 * u) + 4))) ((A 7) ((8 * u) + 5))) ((A 7) ((8 * u) + 6))) ((A 7) ((8 * u) + 7)))) := tm_lks el
                    clear el
                    refine m_inc (y := 8) (pc' := 79) cd_Mo_hashOf rfl l3 (by decide) (by decide) rfl (fun lv el => ?_)
                    have l0 := tm_lk el l0 rfl (by decide)
                    have l1 := tm_lk el l1 rfl (by decide)
                    have l2 := tm_lk el l2 rfl (by decide)
                    have l3 : lv.lookup 3 = some (.int 8) := tm_lks el
                    clear el
                    refine m_pure (pc' := 49) (st' := []) cd_Mo_hashOf rfl rfl (fun _ _ => rfl) ?_
                    refine m_ild (pc' := 50) cd_Mo_hashOf rfl (Or.inr ⟨_, rfl, rfl, rfl⟩) l3 rfl ?_
                    refine m_k2 (v := 8) (pc' := 52) cd_Mo_hashOf rfl (by decide) rfl ?_
                    refine m_if2 (t := 82) (pc' := 55) cd_Mo_hashOf rfl rfl rfl (fun c52 => ?_) (fun c52 => ?_)
                    · have c52 : (8 : Int32) ≤ 8 := c52
                      refine m_ild (pc' := 83) cd_Mo_hashOf rfl (Or.inr ⟨_, rfl, rfl, rfl⟩) l2 rfl ?_
                      exact m_reti cd_Mo_hashOf rfl ⟨_, rfl, (by unfold hky at kk; rw [if_pos c24] at kk; exact kk)⟩
                    · exact absurd (show ¬ (8 : Int32) ≤ 8 from c52) (by decide)
  · have c24 : ¬ ((A 1) t) = 7 := c24
    refine m_ild (pc' := 28) cd_Mo_hashOf rfl (Or.inr ⟨_, rfl, rfl, rfl⟩) l2 rfl ?_
    refine m_ald (pc' := 29) cd_Mo_hashOf rfl (Or.inr ⟨_, rfl, rfl, rfl⟩) l0 rfl rfl ?_
    refine m_fR (r := 2) (a := 3) (ad := 1485) (pc' := 32) rfl rfl cd_Mo_hashOf rfl rfl rfl rfl rfl ?_
    refine m_ild (pc' := 33) cd_Mo_hashOf rfl (Or.inr ⟨_, rfl, rfl, rfl⟩) l1 rfl ?_
    refine m_aI (r := 2) (a := 3) (g := (A 3)) (x := ((A 3) t)) (pc' := 34) rfl rfl cd_Mo_hashOf rfl rfl rfl (vp_in_nI (by omega) (by decide)) (congrArg (A 3) (nI_clamp (by omega))) ?_
    refine m_si (pc' := 37) cd_Mo_hashOf rfl rfl rfl rfl rfl cd_Mo_mixed rfl (Nat.le_of_ble_eq_true rfl) (m_mixed ?_)
    show mg _ _ _ 37 _ [.int (mxd (mxd ((A 1) t) ((A 2) t)) ((A 3) t))] _ _
    refine m_ald (pc' := 38) cd_Mo_hashOf rfl (Or.inr ⟨_, rfl, rfl, rfl⟩) l0 rfl rfl ?_
    refine m_fR (r := 3) (a := 4) (ad := 1486) (pc' := 41) rfl rfl cd_Mo_hashOf rfl rfl rfl rfl rfl ?_
    refine m_ild (pc' := 42) cd_Mo_hashOf rfl (Or.inr ⟨_, rfl, rfl, rfl⟩) l1 rfl ?_
    refine m_aI (r := 3) (a := 4) (g := (A 4)) (x := ((A 4) t)) (pc' := 43) rfl rfl cd_Mo_hashOf rfl rfl rfl (vp_in_nI (by omega) (by decide)) (congrArg (A 4) (nI_clamp (by omega))) ?_
    refine m_si (pc' := 46) cd_Mo_hashOf rfl rfl rfl rfl rfl cd_Mo_mixed rfl (Nat.le_of_ble_eq_true rfl) (m_mixed ?_)
    show mg _ _ _ 46 _ [.int (mxd (mxd (mxd ((A 1) t) ((A 2) t)) ((A 3) t)) ((A 4) t))] _ _
    exact m_reti cd_Mo_hashOf rfl ⟨_, rfl, (by unfold hky at kk; rw [if_neg c24, if_neg c24] at kk; exact kk)⟩
set_option maxRecDepth 100000 in
theorem l_slot {sc : tm_X} {d : Nat} {f : Nat → Int32} {A : Nat → Nat → Int32} {t e h : Nat} {Q : Int32 → MS → Prop} (he : e < 8192) (ht : A 8 ((h + e) % 8192) = nI t) (ht0 : 0 < t) (ht1 : t < 4096) (hk : ∀ k, k < e → ∃ u, 0 < u ∧ u < t ∧ A 8 ((h + k) % 8192) = nI u) (kk : Q (nI ((h + e) % 8192)) (f, A)) : ∀ (m k : Nat), k + m = e → ∀ lv : tm_L, lv.lookup 0 = some (.ref 1482) → lv.lookup 1 = some (.int (nI t)) → lv.lookup 2 = some (.int (nI ((h + k) % 8192))) → mg sc (d + 1) 184 14 lv [] (f, A) (fun r s' => ∃ x, r = some (.int x) ∧ Q x s') := by
  intro m
  induction m with
  | zero =>
    intro k hke lv l0 l1 l2
    have hk2 : k = e := by omega
    subst hk2
    have hb := Nat.mod_lt (h + k) (show 0 < 8192 by decide)
    refine m_ald (pc' := 15) cd_Mo_slot rfl (Or.inr ⟨_, rfl, rfl, rfl⟩) l0 rfl rfl ?_
    refine m_fR (r := 7) (a := 8) (ad := 1490) (pc' := 18) rfl rfl cd_Mo_slot rfl rfl rfl rfl rfl ?_
    refine m_ild (pc' := 19) cd_Mo_slot rfl (Or.inr ⟨_, rfl, rfl, rfl⟩) l2 rfl ?_
    refine m_aI (r := 7) (a := 8) (g := (A 8)) (x := (nI t)) (pc' := 20) rfl rfl cd_Mo_slot rfl rfl rfl (vp_in_nI (by omega) (by decide)) (by rw [(nI_clamp (by omega))]; exact ht) ?_
    refine m_if1 (t := 48) (pc' := 23) cd_Mo_slot rfl rfl rfl (fun c20 => ?_) (fun c20 => ?_)
    · have c20 : (nI t) = 0 := c20
      exact absurd c20 (nI_ne0 ht0 (by omega))
    · have c20 : ¬ (nI t) = 0 := c20
      refine m_ald (pc' := 24) cd_Mo_slot rfl (Or.inr ⟨_, rfl, rfl, rfl⟩) l0 rfl rfl ?_
      refine m_fR (r := 7) (a := 8) (ad := 1490) (pc' := 27) rfl rfl cd_Mo_slot rfl rfl rfl rfl rfl ?_
      refine m_ild (pc' := 28) cd_Mo_slot rfl (Or.inr ⟨_, rfl, rfl, rfl⟩) l2 rfl ?_
      refine m_aI (r := 7) (a := 8) (g := (A 8)) (x := (nI t)) (pc' := 29) rfl rfl cd_Mo_slot rfl rfl rfl (vp_in_nI (by omega) (by decide)) (by rw [(nI_clamp (by omega))]; exact ht) ?_
      refine m_ild (pc' := 30) cd_Mo_slot rfl (Or.inr ⟨_, rfl, rfl, rfl⟩) l1 rfl ?_
      refine m_if2 (t := 48) (pc' := 33) cd_Mo_slot rfl rfl rfl (fun c30 => ?_) (fun c30 => ?_)
      · have c30 : (nI t) = (nI t) := c30
        refine m_ild (pc' := 49) cd_Mo_slot rfl (Or.inr ⟨_, rfl, rfl, rfl⟩) l2 rfl ?_
        exact m_reti cd_Mo_slot rfl ⟨_, rfl, kk⟩
      · have c30 : ¬ (nI t) = (nI t) := c30
        exact absurd rfl c30
  | succ m ih =>
    intro k hke lv l0 l1 l2
    have hb := Nat.mod_lt (h + k) (show 0 < 8192 by decide)
    obtain ⟨u, hu0, hu1, hu2⟩ := hk k (by omega)
    refine m_ald (pc' := 15) cd_Mo_slot rfl (Or.inr ⟨_, rfl, rfl, rfl⟩) l0 rfl rfl ?_
    refine m_fR (r := 7) (a := 8) (ad := 1490) (pc' := 18) rfl rfl cd_Mo_slot rfl rfl rfl rfl rfl ?_
    refine m_ild (pc' := 19) cd_Mo_slot rfl (Or.inr ⟨_, rfl, rfl, rfl⟩) l2 rfl ?_
    refine m_aI (r := 7) (a := 8) (g := (A 8)) (x := (nI u)) (pc' := 20) rfl rfl cd_Mo_slot rfl rfl rfl (vp_in_nI (by omega) (by decide)) (by rw [(nI_clamp (by omega))]; exact hu2) ?_
    refine m_if1 (t := 48) (pc' := 23) cd_Mo_slot rfl rfl rfl (fun c20 => ?_) (fun c20 => ?_)
    · have c20 : (nI u) = 0 := c20
      exact absurd c20 (nI_ne0 hu0 (by omega))
    · have c20 : ¬ (nI u) = 0 := c20
      refine m_ald (pc' := 24) cd_Mo_slot rfl (Or.inr ⟨_, rfl, rfl, rfl⟩) l0 rfl rfl ?_
      refine m_fR (r := 7) (a := 8) (ad := 1490) (pc' := 27) rfl rfl cd_Mo_slot rfl rfl rfl rfl rfl ?_
      refine m_ild (pc' := 28) cd_Mo_slot rfl (Or.inr ⟨_, rfl, rfl, rfl⟩) l2 rfl ?_
      refine m_aI (r := 7) (a := 8) (g := (A 8)) (x := (nI u)) (pc' := 29) rfl rfl cd_Mo_slot rfl rfl rfl (vp_in_nI (by omega) (by decide)) (by rw [(nI_clamp (by omega))]; exact hu2) ?_
      refine m_ild (pc' := 30) cd_Mo_slot rfl (Or.inr ⟨_, rfl, rfl, rfl⟩) l1 rfl ?_
      refine m_if2 (t := 48) (pc' := 33) cd_Mo_slot rfl rfl rfl (fun c30 => ?_) (fun c30 => ?_)
      · have c30 : (nI u) = (nI t) := c30
        exact absurd ((nI_eq (by omega) (by omega)).mp c30) (by omega)
      · have c30 : ¬ (nI u) = (nI t) := c30
        refine m_ild (pc' := 34) cd_Mo_slot rfl (Or.inr ⟨_, rfl, rfl, rfl⟩) l2 rfl ?_
        refine m_k1 (v := 1) (pc' := 35) cd_Mo_slot rfl (by decide) rfl ?_
        refine m_pure (pc' := 36) (st' := [.int ((nI ((h + k) % 8192)) + 1)]) cd_Mo_slot rfl rfl (fun _ _ => rfl) ?_
        refine m_eq (show ((nI ((h + k) % 8192)) + 1 : Int32) = nI (((h + k) % 8192) + 1) from nI_add ((h + k) % 8192) 1) ?_
        refine m_ald (pc' := 37) cd_Mo_slot rfl (Or.inr ⟨_, rfl, rfl, rfl⟩) l0 rfl rfl ?_
        refine m_fR (r := 7) (a := 8) (ad := 1490) (pc' := 40) rfl rfl cd_Mo_slot rfl rfl rfl rfl rfl ?_
        refine m_al (r := 7) (a := 8) (x := 8192) (pc' := 41) rfl (by decide) rfl cd_Mo_slot rfl rfl rfl ?_
        refine m_k1 (v := 1) (pc' := 42) cd_Mo_slot rfl (by decide) rfl ?_
        refine m_pure (pc' := 43) (st' := [.int ((8192 : Int32) - 1), .int (nI (((h + k) % 8192) + 1))]) cd_Mo_slot rfl rfl (fun _ _ => rfl) ?_
        refine m_eq (show ((8192 : Int32) - 1 : Int32) = 8191 from by decide) ?_
        refine m_pure (pc' := 44) (st' := [.int ((nI (((h + k) % 8192) + 1)) &&& 8191)]) cd_Mo_slot rfl rfl (fun _ _ => rfl) ?_
        refine m_eq (show ((nI (((h + k) % 8192) + 1)) &&& 8191 : Int32) = nI ((h + (k + 1)) % 8192) from by rw [nxt_and hb]; congr 1; omega) ?_
        refine m_ist (pc' := 45) cd_Mo_slot rfl (Or.inr ⟨_, rfl, rfl, rfl⟩) (by decide) rfl (fun lv el => ?_)
        have l0 := tm_lk el l0 rfl (by decide)
        have l1 := tm_lk el l1 rfl (by decide)
        have l2 : lv.lookup 2 = some (.int (nI ((h + (k + 1)) % 8192))) := tm_lks el
        clear el
        refine m_pure (pc' := 14) (st' := []) cd_Mo_slot rfl rfl (fun _ _ => rfl) ?_
        exact ih (k + 1) (by omega) lv l0 l1 l2
set_option maxRecDepth 100000 in
theorem m_slot {sc : tm_X} {d : Nat} {f : Nat → Int32} {A : Nat → Nat → Int32} {t u e : Nat} {Q : Int32 → MS → Prop} (he : e < 8192) (ht0 : 0 < t) (ht1 : t < 4096) (hu : A 1 t = 7 → A 3 t = nI u ∧ u < 1024) (ht : A 8 ((hix (hky (A 1 t) (A 2 t) (if A 1 t = 7 then 0 else A 3 t) (A 4 t) (fun k => A 7 (8 * u + k))) + e) % 8192) = nI t) (hk : ∀ k, k < e → ∃ u2, 0 < u2 ∧ u2 < t ∧ A 8 ((hix (hky (A 1 t) (A 2 t) (if A 1 t = 7 then 0 else A 3 t) (A 4 t) (fun k => A 7 (8 * u + k))) + k) % 8192) = nI u2) (kk : Q (nI ((hix (hky (A 1 t) (A 2 t) (if A 1 t = 7 then 0 else A 3 t) (A 4 t) (fun k => A 7 (8 * u + k))) + e) % 8192)) (f, A)) : mGi sc (d + 2) 184 [.ref 1482, .int (nI t)] (f, A) Q := by
  show mg sc (d + 2) 184 0 [(0, .ref 1482), (1, .int (nI t))] [] (f, A) _
  generalize elv : ([(0, .ref 1482), (1, .int (nI t))] : tm_L) = lv
  have l0 : lv.lookup 0 = some (.ref 1482) := by rw [← elv]; rfl
  have l1 : lv.lookup 1 = some (.int (nI t)) := by rw [← elv]; rfl
  clear elv
  refine m_ald (pc' := 1) cd_Mo_slot rfl (Or.inr ⟨_, rfl, rfl, rfl⟩) l0 rfl rfl ?_
  refine m_ild (pc' := 2) cd_Mo_slot rfl (Or.inr ⟨_, rfl, rfl, rfl⟩) l1 rfl ?_
  refine m_ci (pc' := 5) cd_Mo_slot rfl rfl rfl rfl rfl cd_Mo_hashOf rfl (Nat.le_of_ble_eq_true rfl) (m_hashOf (u := u) ht1 hu ?_)
  show mg _ _ _ 5 _ [.int ((hky (A 1 t) (A 2 t) (if A 1 t = 7 then 0 else A 3 t) (A 4 t) (fun k => A 7 (8 * u + k))))] _ _
  refine m_ald (pc' := 6) cd_Mo_slot rfl (Or.inr ⟨_, rfl, rfl, rfl⟩) l0 rfl rfl ?_
  refine m_fR (r := 7) (a := 8) (ad := 1490) (pc' := 9) rfl rfl cd_Mo_slot rfl rfl rfl rfl rfl ?_
  refine m_al (r := 7) (a := 8) (x := 8192) (pc' := 10) rfl (by decide) rfl cd_Mo_slot rfl rfl rfl ?_
  refine m_k1 (v := 1) (pc' := 11) cd_Mo_slot rfl (by decide) rfl ?_
  refine m_pure (pc' := 12) (st' := [.int ((8192 : Int32) - 1), .int ((hky (A 1 t) (A 2 t) (if A 1 t = 7 then 0 else A 3 t) (A 4 t) (fun k => A 7 (8 * u + k))))]) cd_Mo_slot rfl rfl (fun _ _ => rfl) ?_
  refine m_eq (show ((8192 : Int32) - 1 : Int32) = 8191 from by decide) ?_
  refine m_pure (pc' := 13) (st' := [.int ((hky (A 1 t) (A 2 t) (if A 1 t = 7 then 0 else A 3 t) (A 4 t) (fun k => A 7 (8 * u + k))) &&& 8191)]) cd_Mo_slot rfl rfl (fun _ _ => rfl) ?_
  refine m_eq (show ((hky (A 1 t) (A 2 t) (if A 1 t = 7 then 0 else A 3 t) (A 4 t) (fun k => A 7 (8 * u + k))) &&& 8191 : Int32) = nI ((hix (hky (A 1 t) (A 2 t) (if A 1 t = 7 then 0 else A 3 t) (A 4 t) (fun k => A 7 (8 * u + k))) + 0) % 8192) from by rw [hix_and]; congr 1; have := hix_lt (hky (A 1 t) (A 2 t) (if A 1 t = 7 then 0 else A 3 t) (A 4 t) (fun k => A 7 (8 * u + k))); omega) ?_
  refine m_ist (pc' := 14) cd_Mo_slot rfl (Or.inr ⟨_, rfl, rfl, rfl⟩) (by decide) rfl (fun lv el => ?_)
  have l0 := tm_lk el l0 rfl (by decide)
  have l1 := tm_lk el l1 rfl (by decide)
  have l2 : lv.lookup 2 = some (.int (nI ((hix (hky (A 1 t) (A 2 t) (if A 1 t = 7 then 0 else A 3 t) (A 4 t) (fun k => A 7 (8 * u + k))) + 0) % 8192))) := tm_lks el
  clear el
  exact l_slot he ht ht0 ht1 hk kk e 0 (by omega) lv l0 l1 l2
def alr (g r : Nat → Int32) : Nat → Nat → Bool
  | _, 0 => true
  | k, m + 1 => decide (g k = r k) && alr g r (k + 1) m
theorem alr_iff {g r : Nat → Int32} : ∀ {m k : Nat}, alr g r k m = true ↔ ∀ i, i < m → g (k + i) = r (k + i)
  | 0, k => ⟨fun _ i hi => by omega, fun _ => rfl⟩
  | m + 1, k => by
    unfold alr
    rw [Bool.and_eq_true, decide_eq_true_eq, alr_iff (m := m) (k := k + 1)]
    constructor
    · intro ⟨a, b⟩ i hi
      rcases Nat.eq_zero_or_pos i with e | e
      · subst e; exact a
      · have := b (i - 1) (by omega)
        rw [show k + 1 + (i - 1) = k + i by omega] at this
        exact this
    · intro h
      exact ⟨h 0 (by omega), fun i hi => by have := h (i + 1) (by omega); rw [show k + (i + 1) = k + 1 + i by omega] at this; exact this⟩
set_option maxRecDepth 100000 in
theorem l_alike {sc : tm_X} {d : Nat} {f : Nat → Int32} {A : Nat → Nat → Int32} {t u : Nat} {Q : Int32 → MS → Prop} (ht : t < 4096) (hu : A 3 t = nI u ∧ u < 1024) : ∀ (m k : Nat) (e : Bool), k + m = 8 → (Q (bz (e && alr (fun k => A 7 (8 * u + k)) (A 9) k m)) (f, A)) → ∀ lv : tm_L, lv.lookup 0 = some (.ref 1482) → lv.lookup 1 = some (.int (nI t)) → lv.lookup 6 = some (.int (bz e)) → lv.lookup 7 = some (.int (nI k)) → mg sc d 187 62 lv [] (f, A) (fun r s' => ∃ x, r = some (.int x) ∧ Q x s') := by
  intro m
  induction m with
  | zero =>
    intro k e hke kk lv l0 l1 l6 l7
    have hk2 : k = 8 := by omega
    subst hk2
    refine m_ild (pc' := 64) cd_Mo_alike rfl (Or.inl ⟨rfl, rfl⟩) l7 rfl ?_
    refine m_k2 (v := 8) (pc' := 66) cd_Mo_alike rfl (by decide) rfl ?_
    refine m_if2 (t := 114) (pc' := 69) cd_Mo_alike rfl rfl rfl (fun c66 => ?_) (fun c66 => ?_)
    · have c66 : (8 : Int32) ≤ (nI 8) := c66
      refine m_ild (pc' := 116) cd_Mo_alike rfl (Or.inl ⟨rfl, rfl⟩) l6 rfl ?_
      exact m_retz cd_Mo_alike rfl (by cases e <;> decide) ⟨_, rfl, (by unfold alr at kk; rw [Bool.and_true] at kk; exact kk)⟩
    · have c66 : ¬ (8 : Int32) ≤ (nI 8) := c66
      exact absurd (show (8 : Int32) ≤ nI 8 from Int32.le_refl _) c66
  | succ m ih =>
    intro k e hke kk lv l0 l1 l6 l7
    refine m_ild (pc' := 64) cd_Mo_alike rfl (Or.inl ⟨rfl, rfl⟩) l7 rfl ?_
    refine m_k2 (v := 8) (pc' := 66) cd_Mo_alike rfl (by decide) rfl ?_
    refine m_if2 (t := 114) (pc' := 69) cd_Mo_alike rfl rfl rfl (fun c66 => ?_) (fun c66 => ?_)
    · have c66 : (8 : Int32) ≤ (nI k) := c66
      exact absurd c66 (nI_ge (b := 8) (by omega) (by decide))
    · have c66 : ¬ (8 : Int32) ≤ (nI k) := c66
      refine m_ild (pc' := 71) cd_Mo_alike rfl (Or.inl ⟨rfl, rfl⟩) l6 rfl ?_
      refine m_if1 (t := 105) (pc' := 74) cd_Mo_alike rfl rfl rfl (fun c71 => ?_) (fun c71 => ?_)
      · have c71 : e = false := bz_f c71
        refine m_k1 (v := 0) (pc' := 106) cd_Mo_alike rfl (by decide) rfl ?_
        refine m_ist (pc' := 108) cd_Mo_alike rfl (Or.inl ⟨rfl, rfl⟩) (by decide) rfl (fun lv el => ?_)
        have l0 := tm_lk el l0 rfl (by decide)
        have l1 := tm_lk el l1 rfl (by decide)
        have l7 := tm_lk el l7 rfl (by decide)
        have l6 : lv.lookup 6 = some (.int 0) := tm_lks el
        clear el
        refine m_inc (y := nI (k + 1)) (pc' := 111) cd_Mo_alike rfl l7 (by decide) (nI_add k 1) rfl (fun lv el => ?_)
        have l0 := tm_lk el l0 rfl (by decide)
        have l1 := tm_lk el l1 rfl (by decide)
        have l6 := tm_lk el l6 rfl (by decide)
        have l7 : lv.lookup 7 = some (.int (nI (k + 1))) := tm_lks el
        clear el
        refine m_pure (pc' := 62) (st' := []) cd_Mo_alike rfl rfl (fun _ _ => rfl) ?_
        rw [c71] at kk
        exact ih (k + 1) false (by omega) (by rw [Bool.false_and] at kk ⊢; exact kk) lv l0 l1 l6 l7
      · have c71 : e = true := bz_t c71
        refine m_ald (pc' := 75) cd_Mo_alike rfl (Or.inr ⟨_, rfl, rfl, rfl⟩) l0 rfl rfl ?_
        refine m_fR (r := 6) (a := 7) (ad := 1489) (pc' := 78) rfl rfl cd_Mo_alike rfl rfl rfl rfl rfl ?_
        refine m_k2 (v := 8) (pc' := 80) cd_Mo_alike rfl (by decide) rfl ?_
        refine m_ald (pc' := 81) cd_Mo_alike rfl (Or.inr ⟨_, rfl, rfl, rfl⟩) l0 rfl rfl ?_
        refine m_fR (r := 2) (a := 3) (ad := 1485) (pc' := 84) rfl rfl cd_Mo_alike rfl rfl rfl rfl rfl ?_
        refine m_ild (pc' := 85) cd_Mo_alike rfl (Or.inr ⟨_, rfl, rfl, rfl⟩) l1 rfl ?_
        refine m_aI (r := 2) (a := 3) (g := (A 3)) (x := (nI u)) (pc' := 86) rfl rfl cd_Mo_alike rfl rfl rfl (vp_in_nI (by omega) (by decide)) (by rw [(nI_clamp (by omega))]; exact hu.1) ?_
        refine m_pure (pc' := 87) (st' := [.int ((8 : Int32) * (nI u)), .ref 1489]) cd_Mo_alike rfl rfl (fun _ _ => rfl) ?_
        refine m_eq (show ((8 : Int32) * (nI u) : Int32) = nI (8 * u) from pk_mul 8 u) ?_
        refine m_ild (pc' := 89) cd_Mo_alike rfl (Or.inl ⟨rfl, rfl⟩) l7 rfl ?_
        refine m_pure (pc' := 90) (st' := [.int ((nI (8 * u)) + (nI k)), .ref 1489]) cd_Mo_alike rfl rfl (fun _ _ => rfl) ?_
        refine m_eq (show ((nI (8 * u)) + (nI k) : Int32) = nI ((8 * u) + k) from nI_add (8 * u) k) ?_
        refine m_aI (r := 6) (a := 7) (g := (A 7)) (x := ((A 7) ((8 * u) + k))) (pc' := 91) rfl rfl cd_Mo_alike rfl rfl rfl (vp_in_nI (by omega) (by decide)) (congrArg (A 7) (nI_clamp (by omega))) ?_
        refine m_ald (pc' := 92) cd_Mo_alike rfl (Or.inr ⟨_, rfl, rfl, rfl⟩) l0 rfl rfl ?_
        refine m_fR (r := 8) (a := 9) (ad := 1491) (pc' := 95) rfl rfl cd_Mo_alike rfl rfl rfl rfl rfl ?_
        refine m_ild (pc' := 97) cd_Mo_alike rfl (Or.inl ⟨rfl, rfl⟩) l7 rfl ?_
        refine m_aI (r := 8) (a := 9) (g := (A 9)) (x := ((A 9) k)) (pc' := 98) rfl rfl cd_Mo_alike rfl rfl rfl (vp_in_nI (by omega) (by decide)) (congrArg (A 9) (nI_clamp (by omega))) ?_
        refine m_if2 (t := 105) (pc' := 101) cd_Mo_alike rfl rfl rfl (fun c98 => ?_) (fun c98 => ?_)
        · have c98 : ¬ ((A 7) ((8 * u) + k)) = ((A 9) k) := c98
          refine m_k1 (v := 0) (pc' := 106) cd_Mo_alike rfl (by decide) rfl ?_
          refine m_ist (pc' := 108) cd_Mo_alike rfl (Or.inl ⟨rfl, rfl⟩) (by decide) rfl (fun lv el => ?_)
          have l0 := tm_lk el l0 rfl (by decide)
          have l1 := tm_lk el l1 rfl (by decide)
          have l7 := tm_lk el l7 rfl (by decide)
          have l6 : lv.lookup 6 = some (.int 0) := tm_lks el
          clear el
          refine m_inc (y := nI (k + 1)) (pc' := 111) cd_Mo_alike rfl l7 (by decide) (nI_add k 1) rfl (fun lv el => ?_)
          have l0 := tm_lk el l0 rfl (by decide)
          have l1 := tm_lk el l1 rfl (by decide)
          have l6 := tm_lk el l6 rfl (by decide)
          have l7 : lv.lookup 7 = some (.int (nI (k + 1))) := tm_lks el
          clear el
          refine m_pure (pc' := 62) (st' := []) cd_Mo_alike rfl rfl (fun _ _ => rfl) ?_
          exact ih (k + 1) false (by omega) (by unfold alr at kk; rw [decide_eq_false c98] at kk; rw [Bool.false_and] at kk ⊢; rw [Bool.and_false] at kk; exact kk) lv l0 l1 l6 l7
        · have c98 : ((A 7) ((8 * u) + k)) = ((A 9) k) := Classical.not_not.mp c98
          refine m_k1 (v := 1) (pc' := 102) cd_Mo_alike rfl (by decide) rfl ?_
          refine m_pure (pc' := 106) (st' := [.int 1]) cd_Mo_alike rfl rfl (fun _ _ => rfl) ?_
          refine m_ist (pc' := 108) cd_Mo_alike rfl (Or.inl ⟨rfl, rfl⟩) (by decide) rfl (fun lv el => ?_)
          have l0 := tm_lk el l0 rfl (by decide)
          have l1 := tm_lk el l1 rfl (by decide)
          have l7 := tm_lk el l7 rfl (by decide)
          have l6 : lv.lookup 6 = some (.int 1) := tm_lks el
          clear el
          refine m_inc (y := nI (k + 1)) (pc' := 111) cd_Mo_alike rfl l7 (by decide) (nI_add k 1) rfl (fun lv el => ?_)
          have l0 := tm_lk el l0 rfl (by decide)
          have l1 := tm_lk el l1 rfl (by decide)
          have l6 := tm_lk el l6 rfl (by decide)
          have l7 : lv.lookup 7 = some (.int (nI (k + 1))) := tm_lks el
          clear el
          refine m_pure (pc' := 62) (st' := []) cd_Mo_alike rfl rfl (fun _ _ => rfl) ?_
          exact ih (k + 1) true (by omega) (by unfold alr at kk; rw [c71, decide_eq_true c98, Bool.true_and, Bool.true_and] at kk; rw [Bool.true_and]; exact kk) lv l0 l1 l6 l7
set_option maxRecDepth 100000 in
theorem m_alike {sc : tm_X} {d : Nat} {f : Nat → Int32} {A : Nat → Nat → Int32} {t u : Nat} {w a b c : Int32} {Q : Int32 → MS → Prop} (ht : t < 4096) (hu : A 1 t = 7 → A 3 t = nI u ∧ u < 1024) (k1 : A 1 t = w → A 2 t = a → (w ≠ 7 → A 3 t = b ∧ A 4 t = c) → (w = 7 → ∀ i, i < 8 → A 7 (8 * u + i) = A 9 i) → Q 1 (f, A)) (k0 : ¬ (A 1 t = w ∧ A 2 t = a ∧ (w ≠ 7 → A 3 t = b ∧ A 4 t = c) ∧ (w = 7 → ∀ i, i < 8 → A 7 (8 * u + i) = A 9 i)) → Q 0 (f, A)) : mGi sc (d + 0) 187 [.ref 1482, .int (nI t), .int w, .int a, .int b, .int c] (f, A) Q := by
  show mg sc (d + 0) 187 0 [(0, .ref 1482), (1, .int (nI t)), (2, .int w), (3, .int a), (4, .int b), (5, .int c)] [] (f, A) _
  generalize elv : ([(0, .ref 1482), (1, .int (nI t)), (2, .int w), (3, .int a), (4, .int b), (5, .int c)] : tm_L) = lv
  have l0 : lv.lookup 0 = some (.ref 1482) := by rw [← elv]; rfl
  have l1 : lv.lookup 1 = some (.int (nI t)) := by rw [← elv]; rfl
  have l2 : lv.lookup 2 = some (.int w) := by rw [← elv]; rfl
  have l3 : lv.lookup 3 = some (.int a) := by rw [← elv]; rfl
  have l4 : lv.lookup 4 = some (.int b) := by rw [← elv]; rfl
  have l5 : lv.lookup 5 = some (.int c) := by rw [← elv]; rfl
  clear elv
  refine m_ald (pc' := 1) cd_Mo_alike rfl (Or.inr ⟨_, rfl, rfl, rfl⟩) l0 rfl rfl ?_
  refine m_fR (r := 0) (a := 1) (ad := 1483) (pc' := 4) rfl rfl cd_Mo_alike rfl rfl rfl rfl rfl ?_
  refine m_ild (pc' := 5) cd_Mo_alike rfl (Or.inr ⟨_, rfl, rfl, rfl⟩) l1 rfl ?_
  refine m_aI (r := 0) (a := 1) (g := (A 1)) (x := ((A 1) t)) (pc' := 6) rfl rfl cd_Mo_alike rfl rfl rfl (vp_in_nI (by omega) (by decide)) (congrArg (A 1) (nI_clamp (by omega))) ?_
  refine m_ild (pc' := 7) cd_Mo_alike rfl (Or.inr ⟨_, rfl, rfl, rfl⟩) l2 rfl ?_
  refine m_if2 (t := 20) (pc' := 10) cd_Mo_alike rfl rfl rfl (fun c7 => ?_) (fun c7 => ?_)
  · have c7 : ¬ ((A 1) t) = w := c7
    refine m_k1 (v := 0) (pc' := 21) cd_Mo_alike rfl (by decide) rfl ?_
    exact m_retz cd_Mo_alike rfl (Or.inl rfl) ⟨_, rfl, (k0 (fun q => c7 q.1))⟩
  · have c7 : ((A 1) t) = w := Classical.not_not.mp c7
    refine m_ald (pc' := 11) cd_Mo_alike rfl (Or.inr ⟨_, rfl, rfl, rfl⟩) l0 rfl rfl ?_
    refine m_fR (r := 1) (a := 2) (ad := 1484) (pc' := 14) rfl rfl cd_Mo_alike rfl rfl rfl rfl rfl ?_
    refine m_ild (pc' := 15) cd_Mo_alike rfl (Or.inr ⟨_, rfl, rfl, rfl⟩) l1 rfl ?_
    refine m_aI (r := 1) (a := 2) (g := (A 2)) (x := ((A 2) t)) (pc' := 16) rfl rfl cd_Mo_alike rfl rfl rfl (vp_in_nI (by omega) (by decide)) (congrArg (A 2) (nI_clamp (by omega))) ?_
    refine m_ild (pc' := 17) cd_Mo_alike rfl (Or.inr ⟨_, rfl, rfl, rfl⟩) l3 rfl ?_
    refine m_if2 (t := 22) (pc' := 20) cd_Mo_alike rfl rfl rfl (fun c17 => ?_) (fun c17 => ?_)
    · have c17 : ((A 2) t) = a := c17
      refine m_ild (pc' := 23) cd_Mo_alike rfl (Or.inr ⟨_, rfl, rfl, rfl⟩) l2 rfl ?_
      refine m_k2 (v := 7) (pc' := 25) cd_Mo_alike rfl (by decide) rfl ?_
      refine m_if2 (t := 56) (pc' := 28) cd_Mo_alike rfl rfl rfl (fun c25 => ?_) (fun c25 => ?_)
      · have c25 : w = 7 := c25
        refine m_k1 (v := 1) (pc' := 57) cd_Mo_alike rfl (by decide) rfl ?_
        refine m_ist (pc' := 59) cd_Mo_alike rfl (Or.inl ⟨rfl, rfl⟩) (by decide) rfl (fun lv el => ?_)
        have l0 := tm_lk el l0 rfl (by decide)
        have l1 := tm_lk el l1 rfl (by decide)
        have l2 := tm_lk el l2 rfl (by decide)
        have l3 := tm_lk el l3 rfl (by decide)
        have l4 := tm_lk el l4 rfl (by decide)
        have l5 := tm_lk el l5 rfl (by decide)
        have l6 : lv.lookup 6 = some (.int 1) := tm_lks el
        clear el
        refine m_k1 (v := 0) (pc' := 60) cd_Mo_alike rfl (by decide) rfl ?_
        refine m_ist (pc' := 62) cd_Mo_alike rfl (Or.inl ⟨rfl, rfl⟩) (by decide) rfl (fun lv el => ?_)
        have l0 := tm_lk el l0 rfl (by decide)
        have l1 := tm_lk el l1 rfl (by decide)
        have l2 := tm_lk el l2 rfl (by decide)
        have l3 := tm_lk el l3 rfl (by decide)
        have l4 := tm_lk el l4 rfl (by decide)
        have l5 := tm_lk el l5 rfl (by decide)
        have l6 := tm_lk el l6 rfl (by decide)
        have l7 : lv.lookup 7 = some (.int 0) := tm_lks el
        clear el
        refine l_alike (u := u) ht (hu (c7.trans c25)) 8 0 true (by omega) ?_ lv l0 l1 l6 l7
        rw [Bool.true_and]
        cases ca : alr (fun k => A 7 (8 * u + k)) (A 9) 0 8 with
        | true => exact k1 c7 c17 (fun q => absurd c25 q) (fun _ i hi => by have := (alr_iff.mp ca) i hi; rw [Nat.zero_add] at this; exact this)
        | false => exact k0 (fun q => by rw [alr_iff.mpr (fun i hi => by rw [Nat.zero_add]; exact q.2.2.2 c25 i hi)] at ca; cases ca)
      · have c25 : ¬ w = 7 := c25
        refine m_ald (pc' := 29) cd_Mo_alike rfl (Or.inr ⟨_, rfl, rfl, rfl⟩) l0 rfl rfl ?_
        refine m_fR (r := 2) (a := 3) (ad := 1485) (pc' := 32) rfl rfl cd_Mo_alike rfl rfl rfl rfl rfl ?_
        refine m_ild (pc' := 33) cd_Mo_alike rfl (Or.inr ⟨_, rfl, rfl, rfl⟩) l1 rfl ?_
        refine m_aI (r := 2) (a := 3) (g := (A 3)) (x := ((A 3) t)) (pc' := 34) rfl rfl cd_Mo_alike rfl rfl rfl (vp_in_nI (by omega) (by decide)) (congrArg (A 3) (nI_clamp (by omega))) ?_
        refine m_ild (pc' := 36) cd_Mo_alike rfl (Or.inl ⟨rfl, rfl⟩) l4 rfl ?_
        refine m_if2 (t := 54) (pc' := 39) cd_Mo_alike rfl rfl rfl (fun c36 => ?_) (fun c36 => ?_)
        · have c36 : ¬ ((A 3) t) = b := c36
          refine m_k1 (v := 0) (pc' := 55) cd_Mo_alike rfl (by decide) rfl ?_
          exact m_retz cd_Mo_alike rfl (Or.inl rfl) ⟨_, rfl, (k0 (fun q => c36 (q.2.2.1 c25).1))⟩
        · have c36 : ((A 3) t) = b := Classical.not_not.mp c36
          refine m_ald (pc' := 40) cd_Mo_alike rfl (Or.inr ⟨_, rfl, rfl, rfl⟩) l0 rfl rfl ?_
          refine m_fR (r := 3) (a := 4) (ad := 1486) (pc' := 43) rfl rfl cd_Mo_alike rfl rfl rfl rfl rfl ?_
          refine m_ild (pc' := 44) cd_Mo_alike rfl (Or.inr ⟨_, rfl, rfl, rfl⟩) l1 rfl ?_
          refine m_aI (r := 3) (a := 4) (g := (A 4)) (x := ((A 4) t)) (pc' := 45) rfl rfl cd_Mo_alike rfl rfl rfl (vp_in_nI (by omega) (by decide)) (congrArg (A 4) (nI_clamp (by omega))) ?_
          refine m_ild (pc' := 47) cd_Mo_alike rfl (Or.inl ⟨rfl, rfl⟩) l5 rfl ?_
          refine m_if2 (t := 54) (pc' := 50) cd_Mo_alike rfl rfl rfl (fun c47 => ?_) (fun c47 => ?_)
          · have c47 : ¬ ((A 4) t) = c := c47
            refine m_k1 (v := 0) (pc' := 55) cd_Mo_alike rfl (by decide) rfl ?_
            exact m_retz cd_Mo_alike rfl (Or.inl rfl) ⟨_, rfl, (k0 (fun q => c47 (q.2.2.1 c25).2))⟩
          · have c47 : ((A 4) t) = c := Classical.not_not.mp c47
            refine m_k1 (v := 1) (pc' := 51) cd_Mo_alike rfl (by decide) rfl ?_
            refine m_pure (pc' := 55) (st' := [.int 1]) cd_Mo_alike rfl rfl (fun _ _ => rfl) ?_
            exact m_retz cd_Mo_alike rfl (Or.inr rfl) ⟨_, rfl, (k1 c7 c17 (fun _ => ⟨c36, c47⟩) (fun q => absurd q c25))⟩
    · have c17 : ¬ ((A 2) t) = a := c17
      refine m_k1 (v := 0) (pc' := 21) cd_Mo_alike rfl (by decide) rfl ?_
      exact m_retz cd_Mo_alike rfl (Or.inl rfl) ⟨_, rfl, (k0 (fun q => c17 q.2.1))⟩
set_option maxRecDepth 100000 in
theorem m_grow {sc : tm_X} {d : Nat} {f : Nat → Int32} {A : Nat → Nat → Int32} {n r : Nat} {Q : MS → Prop} (h0 : f 0 = nI n) (hn : n ≤ 4000) (h7 : f 7 = nI r) (hr : r ≤ 1000) (kk : Q (f, A)) : mGv sc (d + 0) 181 [.ref 1482] (f, A) Q := by
  show mg sc (d + 0) 181 0 [(0, .ref 1482)] [] (f, A) _
  generalize elv : ([(0, .ref 1482)] : tm_L) = lv
  have l0 : lv.lookup 0 = some (.ref 1482) := by rw [← elv]; rfl
  clear elv
  refine m_ald (pc' := 1) cd_Mo_grow rfl (Or.inr ⟨_, rfl, rfl, rfl⟩) l0 rfl rfl ?_
  refine m_fI (k := 0) (x := (nI n)) (pc' := 4) cd_Mo_grow rfl rfl rfl rfl rfl h0 ?_
  refine m_ald (pc' := 5) cd_Mo_grow rfl (Or.inr ⟨_, rfl, rfl, rfl⟩) l0 rfl rfl ?_
  refine m_fR (r := 0) (a := 1) (ad := 1483) (pc' := 8) rfl rfl cd_Mo_grow rfl rfl rfl rfl rfl ?_
  refine m_al (r := 0) (a := 1) (x := 4096) (pc' := 9) rfl (by decide) rfl cd_Mo_grow rfl rfl rfl ?_
  refine m_if2 (t := 78) (pc' := 12) cd_Mo_grow rfl rfl rfl (fun c9 => ?_) (fun c9 => ?_)
  · have c9 : ¬ (nI n) = 4096 := c9
    refine m_k2 (v := 8) (pc' := 80) cd_Mo_grow rfl (by decide) rfl ?_
    refine m_ald (pc' := 81) cd_Mo_grow rfl (Or.inr ⟨_, rfl, rfl, rfl⟩) l0 rfl rfl ?_
    refine m_fI (k := 7) (x := (nI r)) (pc' := 84) cd_Mo_grow rfl rfl rfl rfl rfl h7 ?_
    refine m_pure (pc' := 85) (st' := [.int ((8 : Int32) * (nI r))]) cd_Mo_grow rfl rfl (fun _ _ => rfl) ?_
    refine m_eq (show ((8 : Int32) * (nI r) : Int32) = nI (8 * r) from pk_mul 8 r) ?_
    refine m_k2 (v := 8) (pc' := 87) cd_Mo_grow rfl (by decide) rfl ?_
    refine m_pure (pc' := 88) (st' := [.int ((nI (8 * r)) + 8)]) cd_Mo_grow rfl rfl (fun _ _ => rfl) ?_
    refine m_eq (show ((nI (8 * r)) + 8 : Int32) = nI ((8 * r) + 8) from nI_add (8 * r) 8) ?_
    refine m_ald (pc' := 89) cd_Mo_grow rfl (Or.inr ⟨_, rfl, rfl, rfl⟩) l0 rfl rfl ?_
    refine m_fR (r := 6) (a := 7) (ad := 1489) (pc' := 92) rfl rfl cd_Mo_grow rfl rfl rfl rfl rfl ?_
    refine m_al (r := 6) (a := 7) (x := 8192) (pc' := 93) rfl (by decide) rfl cd_Mo_grow rfl rfl rfl ?_
    refine m_if2 (t := 107) (pc' := 96) cd_Mo_grow rfl rfl rfl (fun c93 => ?_) (fun c93 => ?_)
    · have c93 : (nI ((8 * r) + 8)) ≤ 8192 := c93
      refine m_k1 (v := 2) (pc' := 108) cd_Mo_grow rfl (by decide) rfl ?_
      refine m_ald (pc' := 109) cd_Mo_grow rfl (Or.inr ⟨_, rfl, rfl, rfl⟩) l0 rfl rfl ?_
      refine m_fI (k := 0) (x := (nI n)) (pc' := 112) cd_Mo_grow rfl rfl rfl rfl rfl h0 ?_
      refine m_pure (pc' := 113) (st' := [.int ((2 : Int32) * (nI n))]) cd_Mo_grow rfl rfl (fun _ _ => rfl) ?_
      refine m_eq (show ((2 : Int32) * (nI n) : Int32) = nI (2 * n) from pk_mul 2 n) ?_
      refine m_ald (pc' := 114) cd_Mo_grow rfl (Or.inr ⟨_, rfl, rfl, rfl⟩) l0 rfl rfl ?_
      refine m_fR (r := 7) (a := 8) (ad := 1490) (pc' := 117) rfl rfl cd_Mo_grow rfl rfl rfl rfl rfl ?_
      refine m_al (r := 7) (a := 8) (x := 8192) (pc' := 118) rfl (by decide) rfl cd_Mo_grow rfl rfl rfl ?_
      refine m_if2 (t := 122) (pc' := 121) cd_Mo_grow rfl rfl rfl (fun c118 => ?_) (fun c118 => ?_)
      · have c118 : (8192 : Int32) ≤ (nI (2 * n)) := c118
        exact absurd c118 (nI_ge (a := 2 * n) (b := 8192) (by omega) (by decide))
      · have c118 : ¬ (8192 : Int32) ≤ (nI (2 * n)) := c118
        exact m_retv cd_Mo_grow rfl ⟨rfl, kk⟩
    · have c93 : ¬ (nI ((8 * r) + 8)) ≤ 8192 := c93
      exact absurd (nI_le (a := 8 * r + 8) (b := 8192) (by omega) (by decide)) c93
  · have c9 : (nI n) = 4096 := Classical.not_not.mp c9
    exact absurd ((nI_eq (a := n) (b := 4096) (by omega) (by decide)).mp c9) (by omega)
