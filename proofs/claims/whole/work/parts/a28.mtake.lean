/-! The reference: take -/
theorem of_lo {ws : List (Tm × Int32)} {ids dir : Nat → Tm} {seen : List Tm} {a i : Int32} (h : i < 0) : of_spec ws ids dir seen a i = tz := by
  unfold of_spec
  rw [inR_lo h, inR_lo h, inR_lo h, inR_lo h]
  simp
theorem getD_of {α : Type} {l : List α} {j : Nat} {e d : α} (h : l[j]? = some e) : l.getD j d = e := by
  rw [List.getD_eq_getElem?_getD, h]; rfl
set_option maxRecDepth 100000 in
theorem mo_take {sc : tm_X} {d : Nat} {f : Nat → Int32} {A : Nat → Nat → Int32} {T : List Tm} {DL : List (Int32 × Int32)} {G Kw : Tm → Prop} {reg : Nat → Tm} {ws : List (Tm × Int32)} {ids dir : Nat → Tm} {seen : List Tm} {r a z : Int32} {Q : Int32 → MS → Prop} (hM : MT f A T DL G Kw) (hR : ∀ i, i < 32 → tv T (A 45 i) (reg i)) (hl0 : T.length < 4000) (hr0 : rc (A 1) T.length < 1000) (hW : qWi f A T ws) (hids : ∀ q, q < 6 → tv T (A 16 q) (ids q)) (kid : ∀ q, q < 6 → kd (ids q) = 1) (hdir : ∀ q, q < 30 → tv T (A 17 q) (dir q)) (h63 : f 63 = nI seen.length) (hsl : seen.length ≤ 2400) (hseen : ∀ (q : Nat) (X : Tm), seen[q]? = some X → tv T (A 46 q) X) (kk : ∀ f1 A1 T' g, mx f f1 A A1 T T' 1 0 DL G Kw → (∀ i, i < 32 → tv T' (g i) ((kp reg r (of_spec ws ids dir seen a z)).2 i)) → Q (kp reg r (of_spec ws ids dir seen a z)).1 (mjF f1 f, fset (mjA A1 A) 45 g)) : mGi sc (d + 4) 256 [.ref 1482, .int r, .int a, .int z] (f, A) Q := by
  have h40 := hW.1.1
  have hwl := hW.1.2
  show mg sc (d + 4) 256 0 [(0, .ref 1482), (1, .int r), (2, .int a), (3, .int z)] [] (f, A) _
  generalize elv : ([(0, .ref 1482), (1, .int r), (2, .int a), (3, .int z)] : tm_L) = lv
  have l0 : lv.lookup 0 = some (.ref 1482) := by rw [← elv]; rfl
  have l1 : lv.lookup 1 = some (.int r) := by rw [← elv]; rfl
  have l2 : lv.lookup 2 = some (.int a) := by rw [← elv]; rfl
  have l3 : lv.lookup 3 = some (.int z) := by rw [← elv]; rfl
  clear elv
  refine m_ild (pc' := 1) cd_Mo_take rfl (Or.inr ⟨_, rfl, rfl, rfl⟩) l1 rfl ?_
  refine m_si (pc' := 4) cd_Mo_take rfl rfl rfl rfl rfl cd_Mo_isRegister rfl (Nat.le_of_ble_eq_true rfl) (m_isRegister ?_)
  show mg _ _ _ 4 _ [.int (bz (inR r 32))] _ _
  refine m_if1 (t := 11) (pc' := 7) cd_Mo_take rfl rfl rfl (fun c4 => ?_) (fun c4 => ?_)
  · have c4 : (inR r 32) = false := bz_f c4
    refine m_k1 (v := (-1)) (pc' := 12) cd_Mo_take rfl (by decide) rfl ?_
    exact m_reti cd_Mo_take rfl ⟨_, rfl, (by rw [show kp reg r (of_spec ws ids dir seen a z) = (-1, reg) from kp_no c4] at kk; have k2 := kk f A T (A 45) (mx_self 1 0 hM) hR; rw [mjF_self, mjA_self, fset_id] at k2; exact k2)⟩
  · have c4 : (inR r 32) = true := bz_t c4
    refine m_ild (pc' := 8) cd_Mo_take rfl (Or.inr ⟨_, rfl, rfl, rfl⟩) l3 rfl ?_
    refine m_if1 (t := 13) (pc' := 11) cd_Mo_take rfl rfl rfl (fun c8 => ?_) (fun c8 => ?_)
    · have c8 : (0 : Int32) ≤ z := c8
      refine m_ild (pc' := 14) cd_Mo_take rfl (Or.inr ⟨_, rfl, rfl, rfl⟩) l2 rfl ?_
      by_cases s14_0 : a = 0
      · skip
        refine m_swk (pc' := 44) s14_0 cd_Mo_take rfl rfl (fun _ _ => rfl) ?_
        refine m_ild (pc' := 45) cd_Mo_take rfl (Or.inr ⟨_, rfl, rfl, rfl⟩) l3 rfl ?_
        refine m_ald (pc' := 46) cd_Mo_take rfl (Or.inr ⟨_, rfl, rfl, rfl⟩) l0 rfl rfl ?_
        refine m_fI (k := 40) (x := (nI ws.length)) (pc' := 49) cd_Mo_take rfl rfl rfl rfl rfl h40 ?_
        refine m_if2 (t := 66) (pc' := 52) cd_Mo_take rfl rfl rfl (fun c49 => ?_) (fun c49 => ?_)
        · have c49 : (nI ws.length) ≤ z := c49
          refine m_k1 (v := (-1)) (pc' := 67) cd_Mo_take rfl (by decide) rfl ?_
          exact m_reti cd_Mo_take rfl ⟨_, rfl, (by rw [show kp reg r (of_spec ws ids dir seen a z) = (-1, reg) from kp_z (by unfold of_spec; rw [if_pos s14_0, inR_hi c49]; rfl)] at kk; have k2 := kk f A T (A 45) (mx_self 1 0 hM) hR; rw [mjF_self, mjA_self, fset_id] at k2; exact k2)⟩
        · have c49 : ¬ (nI ws.length) ≤ z := c49
          have hin := inR_t (Int32.not_lt.mpr c8) c49
          obtain ⟨j, hj, ej⟩ := inR_of (n := ws.length) (by omega) hin
          subst ej
          obtain ⟨e, he⟩ : ∃ e, ws[j]? = some e := ⟨_, List.getElem?_eq_getElem hj⟩
          have ht := (hW.2 j e he).1
          refine m_ald (pc' := 53) cd_Mo_take rfl (Or.inr ⟨_, rfl, rfl, rfl⟩) l0 rfl rfl ?_
          refine m_ild (pc' := 54) cd_Mo_take rfl (Or.inr ⟨_, rfl, rfl, rfl⟩) l1 rfl ?_
          refine m_ald (pc' := 55) cd_Mo_take rfl (Or.inr ⟨_, rfl, rfl, rfl⟩) l0 rfl rfl ?_
          refine m_fR (r := 27) (a := 28) (ad := 1510) (pc' := 58) rfl rfl cd_Mo_take rfl rfl rfl rfl rfl ?_
          refine m_ild (pc' := 59) cd_Mo_take rfl (Or.inr ⟨_, rfl, rfl, rfl⟩) l3 rfl ?_
          refine m_aI (r := 27) (a := 28) (g := (A 28)) (x := (A 28 j)) (pc' := 60) rfl rfl cd_Mo_take rfl rfl rfl (vp_in_nI (by omega) (by decide)) (congrArg (A 28) (nI_clamp (by omega))) ?_
          refine m_ci (pc' := 63) cd_Mo_take rfl rfl rfl rfl rfl cd_Mo_set rfl (Nat.le_of_ble_eq_true rfl) (m_set hM hR ht (fun g hg => ?_))
          show mg _ _ _ 63 _ [.int ((kp reg r e.1).1)] _ _
          refine m_pure (pc' := 67) (st' := [.int ((kp reg r e.1).1)]) cd_Mo_take rfl rfl (fun _ _ => rfl) ?_
          exact m_reti cd_Mo_take rfl ⟨_, rfl, (by rw [show of_spec ws ids dir seen a (nI j) = e.1 from (by unfold of_spec; rw [if_pos s14_0, if_pos hin, nI_clamp (by omega), getD_of he])] at kk; have k2 := kk f A T g (mx_self 1 0 hM) hg; rw [mjF_self, mjA_self] at k2; exact k2)⟩
      by_cases s14_1 : a = 1
      · skip
        refine m_swk (pc' := 68) s14_1 cd_Mo_take rfl rfl (fun _ _ => rfl) ?_
        refine m_ild (pc' := 69) cd_Mo_take rfl (Or.inr ⟨_, rfl, rfl, rfl⟩) l3 rfl ?_
        refine m_k2 (v := 30) (pc' := 71) cd_Mo_take rfl (by decide) rfl ?_
        refine m_if2 (t := 88) (pc' := 74) cd_Mo_take rfl rfl rfl (fun c71 => ?_) (fun c71 => ?_)
        · have c71 : (30 : Int32) ≤ z := c71
          refine m_k1 (v := (-1)) (pc' := 89) cd_Mo_take rfl (by decide) rfl ?_
          exact m_reti cd_Mo_take rfl ⟨_, rfl, (by rw [show kp reg r (of_spec ws ids dir seen a z) = (-1, reg) from kp_z (by unfold of_spec; rw [if_neg s14_0, if_pos s14_1, inR_hi c71]; rfl)] at kk; have k2 := kk f A T (A 45) (mx_self 1 0 hM) hR; rw [mjF_self, mjA_self, fset_id] at k2; exact k2)⟩
        · have c71 : ¬ (30 : Int32) ≤ z := c71
          have hin := inR_t (Int32.not_lt.mpr c8) c71
          obtain ⟨j, hj, ej⟩ := inR_of (n := 30) (by omega) hin
          subst ej
          have ht := hdir j hj
          refine m_ald (pc' := 75) cd_Mo_take rfl (Or.inr ⟨_, rfl, rfl, rfl⟩) l0 rfl rfl ?_
          refine m_ild (pc' := 76) cd_Mo_take rfl (Or.inr ⟨_, rfl, rfl, rfl⟩) l1 rfl ?_
          refine m_ald (pc' := 77) cd_Mo_take rfl (Or.inr ⟨_, rfl, rfl, rfl⟩) l0 rfl rfl ?_
          refine m_fR (r := 16) (a := 17) (ad := 1499) (pc' := 80) rfl rfl cd_Mo_take rfl rfl rfl rfl rfl ?_
          refine m_ild (pc' := 81) cd_Mo_take rfl (Or.inr ⟨_, rfl, rfl, rfl⟩) l3 rfl ?_
          refine m_aI (r := 16) (a := 17) (g := (A 17)) (x := (A 17 j)) (pc' := 82) rfl rfl cd_Mo_take rfl rfl rfl (vp_in_nI (by omega) (by decide)) (congrArg (A 17) (nI_clamp (by omega))) ?_
          refine m_ci (pc' := 85) cd_Mo_take rfl rfl rfl rfl rfl cd_Mo_set rfl (Nat.le_of_ble_eq_true rfl) (m_set hM hR ht (fun g hg => ?_))
          show mg _ _ _ 85 _ [.int ((kp reg r (dir j)).1)] _ _
          refine m_pure (pc' := 89) (st' := [.int ((kp reg r (dir j)).1)]) cd_Mo_take rfl rfl (fun _ _ => rfl) ?_
          exact m_reti cd_Mo_take rfl ⟨_, rfl, (by rw [show of_spec ws ids dir seen a (nI j) = dir j from (by unfold of_spec; rw [if_neg s14_0, if_pos s14_1, if_pos hin, nI_clamp (by omega)])] at kk; have k2 := kk f A T g (mx_self 1 0 hM) hg; rw [mjF_self, mjA_self] at k2; exact k2)⟩
      by_cases s14_2 : a = 2
      · skip
        refine m_swk (pc' := 90) s14_2 cd_Mo_take rfl rfl (fun _ _ => rfl) ?_
        refine m_ild (pc' := 91) cd_Mo_take rfl (Or.inr ⟨_, rfl, rfl, rfl⟩) l3 rfl ?_
        refine m_k2 (v := 6) (pc' := 93) cd_Mo_take rfl (by decide) rfl ?_
        refine m_if2 (t := 114) (pc' := 96) cd_Mo_take rfl rfl rfl (fun c93 => ?_) (fun c93 => ?_)
        · have c93 : (6 : Int32) ≤ z := c93
          refine m_k1 (v := (-1)) (pc' := 115) cd_Mo_take rfl (by decide) rfl ?_
          exact m_reti cd_Mo_take rfl ⟨_, rfl, (by rw [show kp reg r (of_spec ws ids dir seen a z) = (-1, reg) from kp_z (by unfold of_spec; rw [if_neg s14_0, if_neg s14_1, if_pos s14_2, inR_hi c93]; rfl)] at kk; have k2 := kk f A T (A 45) (mx_self 1 0 hM) hR; rw [mjF_self, mjA_self, fset_id] at k2; exact k2)⟩
        · have c93 : ¬ (6 : Int32) ≤ z := c93
          have hin := inR_t (Int32.not_lt.mpr c8) c93
          obtain ⟨j, hj, ej⟩ := inR_of (n := 6) (by omega) hin
          subst ej
          have ht := hids j hj
          refine m_ald (pc' := 97) cd_Mo_take rfl (Or.inr ⟨_, rfl, rfl, rfl⟩) l0 rfl rfl ?_
          refine m_ild (pc' := 98) cd_Mo_take rfl (Or.inr ⟨_, rfl, rfl, rfl⟩) l1 rfl ?_
          refine m_ald (pc' := 99) cd_Mo_take rfl (Or.inr ⟨_, rfl, rfl, rfl⟩) l0 rfl rfl ?_
          refine m_ald (pc' := 100) cd_Mo_take rfl (Or.inr ⟨_, rfl, rfl, rfl⟩) l0 rfl rfl ?_
          refine m_fR (r := 15) (a := 16) (ad := 1498) (pc' := 103) rfl rfl cd_Mo_take rfl rfl rfl rfl rfl ?_
          refine m_ild (pc' := 104) cd_Mo_take rfl (Or.inr ⟨_, rfl, rfl, rfl⟩) l3 rfl ?_
          refine m_aI (r := 15) (a := 16) (g := (A 16)) (x := (A 16 j)) (pc' := 105) rfl rfl cd_Mo_take rfl rfl rfl (vp_in_nI (by omega) (by decide)) (congrArg (A 16) (nI_clamp (by omega))) ?_
          refine m_ci (pc' := 108) cd_Mo_take rfl rfl rfl rfl rfl cd_Mo_publicOf rfl (Nat.le_of_ble_eq_true rfl) (m_publicOf hM hl0 hr0 ht (kid j hj) (fun f1 A1 T1 r1 hx1 hr1 => ?_))
          have hM1 := hx1.2.2.2
          have hR1 : ∀ i, i < 32 → tv T1 (mjA A1 A 45 i) (reg i) := fun i hi => tv_mono hx1.1 (hR i hi)
          show mg _ _ _ 108 _ [.int r1, .int r, .ref 1482] _ _
          refine m_ci (pc' := 111) cd_Mo_take rfl rfl rfl rfl rfl cd_Mo_set rfl (Nat.le_of_ble_eq_true rfl) (m_set hM1 hR1 hr1 (fun g hg => ?_))
          show mg _ _ _ 111 _ [.int ((kp reg r (Tpub (ids j))).1)] _ _
          refine m_pure (pc' := 115) (st' := [.int ((kp reg r (Tpub (ids j))).1)]) cd_Mo_take rfl rfl (fun _ _ => rfl) ?_
          exact m_reti cd_Mo_take rfl ⟨_, rfl, (by rw [show of_spec ws ids dir seen a (nI j) = Tpub (ids j) from (by unfold of_spec; rw [if_neg s14_0, if_neg s14_1, if_pos s14_2, if_pos hin, nI_clamp (by omega)])] at kk; exact kk f1 A1 T1 g hx1 hg)⟩
      by_cases s14_3 : a = 3
      · skip
        refine m_swk (pc' := 116) s14_3 cd_Mo_take rfl rfl (fun _ _ => rfl) ?_
        refine m_ild (pc' := 117) cd_Mo_take rfl (Or.inr ⟨_, rfl, rfl, rfl⟩) l3 rfl ?_
        refine m_ald (pc' := 118) cd_Mo_take rfl (Or.inr ⟨_, rfl, rfl, rfl⟩) l0 rfl rfl ?_
        refine m_fI (k := 63) (x := (nI seen.length)) (pc' := 121) cd_Mo_take rfl rfl rfl rfl rfl h63 ?_
        refine m_if2 (t := 138) (pc' := 124) cd_Mo_take rfl rfl rfl (fun c121 => ?_) (fun c121 => ?_)
        · have c121 : (nI seen.length) ≤ z := c121
          refine m_k1 (v := (-1)) (pc' := 139) cd_Mo_take rfl (by decide) rfl ?_
          exact m_reti cd_Mo_take rfl ⟨_, rfl, (by rw [show kp reg r (of_spec ws ids dir seen a z) = (-1, reg) from kp_z (by unfold of_spec; rw [if_neg s14_0, if_neg s14_1, if_neg s14_2, if_pos s14_3, inR_hi c121]; rfl)] at kk; have k2 := kk f A T (A 45) (mx_self 1 0 hM) hR; rw [mjF_self, mjA_self, fset_id] at k2; exact k2)⟩
        · have c121 : ¬ (nI seen.length) ≤ z := c121
          have hin := inR_t (Int32.not_lt.mpr c8) c121
          obtain ⟨j, hj, ej⟩ := inR_of (n := seen.length) (by omega) hin
          subst ej
          obtain ⟨e, he⟩ : ∃ e, seen[j]? = some e := ⟨_, List.getElem?_eq_getElem hj⟩
          have ht := hseen j e he
          refine m_ald (pc' := 125) cd_Mo_take rfl (Or.inr ⟨_, rfl, rfl, rfl⟩) l0 rfl rfl ?_
          refine m_ild (pc' := 126) cd_Mo_take rfl (Or.inr ⟨_, rfl, rfl, rfl⟩) l1 rfl ?_
          refine m_ald (pc' := 127) cd_Mo_take rfl (Or.inr ⟨_, rfl, rfl, rfl⟩) l0 rfl rfl ?_
          refine m_fR (r := 45) (a := 46) (ad := 1528) (pc' := 130) rfl rfl cd_Mo_take rfl rfl rfl rfl rfl ?_
          refine m_ild (pc' := 131) cd_Mo_take rfl (Or.inr ⟨_, rfl, rfl, rfl⟩) l3 rfl ?_
          refine m_aI (r := 45) (a := 46) (g := (A 46)) (x := (A 46 j)) (pc' := 132) rfl rfl cd_Mo_take rfl rfl rfl (vp_in_nI (by omega) (by decide)) (congrArg (A 46) (nI_clamp (by omega))) ?_
          refine m_ci (pc' := 135) cd_Mo_take rfl rfl rfl rfl rfl cd_Mo_set rfl (Nat.le_of_ble_eq_true rfl) (m_set hM hR ht (fun g hg => ?_))
          show mg _ _ _ 135 _ [.int ((kp reg r e).1)] _ _
          refine m_pure (pc' := 139) (st' := [.int ((kp reg r e).1)]) cd_Mo_take rfl rfl (fun _ _ => rfl) ?_
          exact m_reti cd_Mo_take rfl ⟨_, rfl, (by rw [show of_spec ws ids dir seen a (nI j) = e from (by unfold of_spec; rw [if_neg s14_0, if_neg s14_1, if_neg s14_2, if_pos s14_3, if_pos hin, nI_clamp (by omega), getD_of he])] at kk; have k2 := kk f A T g (mx_self 1 0 hM) hg; rw [mjF_self, mjA_self] at k2; exact k2)⟩
      refine m_swd (t := 140) cd_Mo_take rfl rfl (by have := i32_ne (n := 0) (by decide) s14_0; have := i32_ne (n := 1) (by decide) s14_1; have := i32_ne (n := 2) (by decide) s14_2; have := i32_ne (n := 3) (by decide) s14_3; omega) ?_
      refine m_k1 (v := (-1)) (pc' := 141) cd_Mo_take rfl (by decide) rfl ?_
      exact m_reti cd_Mo_take rfl ⟨_, rfl, (by rw [show kp reg r (of_spec ws ids dir seen a z) = (-1, reg) from kp_z (by unfold of_spec; rw [if_neg s14_0, if_neg s14_1, if_neg s14_2, if_neg s14_3])] at kk; have k2 := kk f A T (A 45) (mx_self 1 0 hM) hR; rw [mjF_self, mjA_self, fset_id] at k2; exact k2)⟩
    · have c8 : ¬ (0 : Int32) ≤ z := c8
      refine m_k1 (v := (-1)) (pc' := 12) cd_Mo_take rfl (by decide) rfl ?_
      exact m_reti cd_Mo_take rfl ⟨_, rfl, (by rw [show kp reg r (of_spec ws ids dir seen a z) = (-1, reg) from kp_z (of_lo (Int32.not_le.mp c8))] at kk; have k2 := kk f A T (A 45) (mx_self 1 0 hM) hR; rw [mjF_self, mjA_self, fset_id] at k2; exact k2)⟩
