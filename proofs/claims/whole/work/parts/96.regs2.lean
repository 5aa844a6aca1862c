/-! Rows altered, terms planted, draws, and what is told -/
theorem i32_le4 {k : Int32} (h0 : ¬ k < 0) (h4 : k ≤ 4) (hn : ¬ k = 4) : inR k 4 = true := inR_t h0 (fun q => hn (Int32.le_antisymm h4 q))
theorem i32_5 {k : Int32} (h : 4 < k) : (5 : Int32) ≤ k := by
  have h1 := Int32.lt_iff_toInt_lt.mp h
  refine Int32.le_iff_toInt_le.mpr ?_
  have e1 : (4 : Int32).toInt = 4 := by decide
  have e2 : (5 : Int32).toInt = 5 := by decide
  rw [e1] at h1
  rw [e2]
  omega
theorem i32_4 {k : Int32} (h : 3 < k) : (4 : Int32) ≤ k := by
  have h1 := Int32.lt_iff_toInt_lt.mp h
  refine Int32.le_iff_toInt_le.mpr ?_
  have e1 : (3 : Int32).toInt = 3 := by decide
  have e2 : (4 : Int32).toInt = 4 := by decide
  rw [e1] at h1
  rw [e2]
  omega
theorem al_no {reg : Nat → Tm} {r x k v : Int32} (h : ¬ (inR r 32 = true ∧ kd (hl reg x) = 7 ∧ inR k 5 = true ∧ (k = 4 → ¬ v < 1 ∧ v ≤ 7))) : al_spec reg r x k v = (-1, reg) := if_neg h
theorem in5_of4 {i : Nat} (h : i < 4) : inR (nI i) 5 = true := inR_nI (n := 5) (by omega) (by decide)
theorem nI_ne4 {i : Nat} (h : i < 4) : ¬ nI i = (4 : Int32) := fun q => by have := (nI_eq (a := i) (b := 4) (by omega) (by decide)).mp q; omega
set_option maxRecDepth 100000 in
theorem t_alterA {sc : tm_X} {d : Nat} {B : bm_H} {F : Nat → Prop} {N S M ln : Nat} {T : List Tm} {dr : Nat} {K : Tm → Prop} {ca rm kc kl rk : Nat} {ws : List (Tm × Int32)} {wt : List Tm} {G : LG} {ids dir reg : Nat → Tm} {seen : List Tm} {π : Nat → Nat} {w : Nat → SW} {dev : Nat → DV} {sto : Nat → ST} {r x v : Int32} {i : Nat} {Q : Int32 → bm_H → Prop} (hC : CK B F N S M ln T dr K ca rm kc kl rk) (hH : RH B T ws wt G ids dir reg seen π w dev sto) (hTl : T.length ≤ 30000) (hi : i < 4) (kk : ∀ B' T' M' ca' rm', T <+: T' → T'.length ≤ T.length + 1 → CK B' F N S M' ln T' dr K ca' rm' kc kl rk → RH B' T' ws wt G ids dir (al_spec reg r x (nI i) v).2 seen π w dev sto → fr (fun y => ¬ F y) B B' → Q (al_spec reg r x (nI i) v).1 B') : bm_Gi sc (d + 5) 145 [.ref 0, .int r, .int x, .int (nI i), .int v] B Q := by
  show bm_G sc (d + 5) 145 0 [(0, .ref 0), (1, .int r), (2, .int x), (3, .int (nI i)), (4, .int v)] [] B _
  generalize elv : ([(0, .ref 0), (1, .int r), (2, .int x), (3, .int (nI i)), (4, .int v)] : tm_L) = lv
  have l0 : lv.lookup 0 = some (.ref 0) := by rw [← elv]; rfl
  have l1 : lv.lookup 1 = some (.int r) := by rw [← elv]; rfl
  have l2 : lv.lookup 2 = some (.int x) := by rw [← elv]; rfl
  have l3 : lv.lookup 3 = some (.int (nI i)) := by rw [← elv]; rfl
  have l4 : lv.lookup 4 = some (.int v) := by rw [← elv]; rfl
  clear elv
  refine g_ald (pc' := 1) cd_Ho_alter rfl (Or.inr ⟨_, rfl, rfl, rfl⟩) l0 rfl rfl ?_
  refine g_ild (pc' := 2) cd_Ho_alter rfl (Or.inr ⟨_, rfl, rfl, rfl⟩) l2 rfl ?_
  refine g_calli (pc' := 5) cd_Ho_alter rfl rfl rfl rfl rfl (tm_invV rfl rfl cd_Ho_held rfl (Nat.le_of_ble_eq_true rfl) (by decide) hH.1.1.1 hH.1.1.2) (t_held hC hH (fun h1 th1 => ?_))
  show bm_G _ _ _ 5 _ [.int h1] B _
  refine g_ist (pc' := 7) cd_Ho_alter rfl (Or.inl ⟨rfl, rfl⟩) (by decide) rfl (fun lv el => ?_)
  have l0 := tm_lk el l0 rfl (by decide)
  have l1 := tm_lk el l1 rfl (by decide)
  have l2 := tm_lk el l2 rfl (by decide)
  have l3 := tm_lk el l3 rfl (by decide)
  have l4 := tm_lk el l4 rfl (by decide)
  have l5 : lv.lookup 5 = some (.int h1) := tm_lks el
  clear el
  refine g_ild (pc' := 8) cd_Ho_alter rfl (Or.inr ⟨_, rfl, rfl, rfl⟩) l1 rfl ?_
  refine g_calli (pc' := 11) cd_Ho_alter rfl rfl rfl rfl rfl (tm_invS rfl rfl cd_Ho_isRegister rfl (Nat.le_of_ble_eq_true rfl)) (t_isRegister ?_)
  show bm_G _ _ _ 11 _ [.int (bz (inR r 32))] B _
  refine g_if1 (t := 37) (pc' := 14) cd_Ho_alter rfl rfl rfl (fun c11 => ?_) (fun c11 => ?_)
  · have c11 : (inR r 32) = false := bz_f c11
    refine g_k1 (v := (-1)) (pc' := 38) cd_Ho_alter rfl (by decide) rfl ?_
    rw [al_no (fun q => absurd (c11.symm.trans q.1) (by decide))] at kk
    exact g_reti cd_Ho_alter rfl ⟨_, rfl, (kk B T _ _ _ (List.prefix_refl T) (by omega) hC hH (fr_rfl _ B))⟩
  · have c11 : (inR r 32) = true := bz_t c11
    refine g_ald (pc' := 15) cd_Ho_alter rfl (Or.inr ⟨_, rfl, rfl, rfl⟩) l0 rfl rfl ?_
    refine g_fR (c := 11) (k := 0) (x := 1) (pc' := 18) cd_Ho_alter rfl rfl rfl rfl rfl (by decide) hH.1.1.1 hH.1.1.2 hH.1.2.1.1 ?_
    refine g_ild (pc' := 20) cd_Ho_alter rfl (Or.inl ⟨rfl, rfl⟩) l5 rfl ?_
    refine g_calli (pc' := 23) cd_Ho_alter rfl rfl rfl rfl rfl (tm_invV rfl rfl cd_Te_kindOf rfl (Nat.le_of_ble_eq_true rfl) (by decide) hC.1.1.1.1 hC.1.1.1.2) (t_kindOf hC.1 th1 ?_)
    show bm_G _ _ _ 23 _ [.int (kd (hl reg x))] B _
    refine g_k2 (v := 7) (pc' := 25) cd_Ho_alter rfl (by decide) rfl ?_
    refine g_if2 (t := 37) (pc' := 28) cd_Ho_alter rfl rfl rfl (fun c25 => ?_) (fun c25 => ?_)
    · have c25 : ¬ (kd (hl reg x)) = 7 := c25
      refine g_k1 (v := (-1)) (pc' := 38) cd_Ho_alter rfl (by decide) rfl ?_
      rw [al_no (fun q => c25 q.2.1)] at kk
      exact g_reti cd_Ho_alter rfl ⟨_, rfl, (kk B T _ _ _ (List.prefix_refl T) (by omega) hC hH (fr_rfl _ B))⟩
    · have c25 : (kd (hl reg x)) = 7 := Classical.not_not.mp c25
      refine g_ild (pc' := 29) cd_Ho_alter rfl (Or.inr ⟨_, rfl, rfl, rfl⟩) l3 rfl ?_
      refine g_if1 (t := 37) (pc' := 32) cd_Ho_alter rfl rfl rfl (fun c29 => ?_) (fun c29 => ?_)
      · have c29 : (nI i) < 0 := c29
        exact absurd c29 (nI_pos (by omega))
      · have c29 : ¬ (nI i) < 0 := c29
        refine g_ild (pc' := 33) cd_Ho_alter rfl (Or.inr ⟨_, rfl, rfl, rfl⟩) l3 rfl ?_
        refine g_k1 (v := 4) (pc' := 34) cd_Ho_alter rfl (by decide) rfl ?_
        refine g_if2 (t := 39) (pc' := 37) cd_Ho_alter rfl rfl rfl (fun c34 => ?_) (fun c34 => ?_)
        · have c34 : (nI i) ≤ 4 := c34
          refine g_ild (pc' := 40) cd_Ho_alter rfl (Or.inr ⟨_, rfl, rfl, rfl⟩) l3 rfl ?_
          refine g_k1 (v := 4) (pc' := 41) cd_Ho_alter rfl (by decide) rfl ?_
          refine g_if2 (t := 59) (pc' := 44) cd_Ho_alter rfl rfl rfl (fun c41 => ?_) (fun c41 => ?_)
          · have c41 : ¬ (nI i) = 4 := c41
            refine g_ald (pc' := 60) cd_Ho_alter rfl (Or.inr ⟨_, rfl, rfl, rfl⟩) l0 rfl rfl ?_
            refine g_fR (c := 11) (k := 0) (x := 1) (pc' := 63) cd_Ho_alter rfl rfl rfl rfl rfl (by decide) hH.1.1.1 hH.1.1.2 hH.1.2.1.1 ?_
            refine g_calli (pc' := 66) cd_Ho_alter rfl rfl rfl rfl rfl (tm_invV rfl rfl cd_Te_hasRoom rfl (Nat.le_of_ble_eq_true rfl) (by decide) hC.1.1.1.1 hC.1.1.1.2) (t_roomC hC hTl (fun B1 ca1 rm1 hC1 hf1 => ?_))
            have hH1 := RH_fr hH hf1 (fun y q => by omega) (List.prefix_refl T)
            have hrm1 := hC1.2.2.2.2.1.2
            have hf1x : fr (fun y => ¬ F y) B B1 := fr_mono (fun y q => nF_lo hC (by omega)) hf1
            show bm_G _ _ _ 66 _ [.int 1] B1 _
            refine g_if1 (t := 72) (pc' := 69) cd_Ho_alter rfl rfl rfl (fun c66 => ?_) (fun c66 => ?_)
            · have c66 : ¬ (1 : Int32) = 0 := c66
              refine g_ald (pc' := 73) cd_Ho_alter rfl (Or.inr ⟨_, rfl, rfl, rfl⟩) l0 rfl rfl ?_
              refine g_ild (pc' := 74) cd_Ho_alter rfl (Or.inr ⟨_, rfl, rfl, rfl⟩) l1 rfl ?_
              refine g_ild (pc' := 75) cd_Ho_alter rfl (Or.inr ⟨_, rfl, rfl, rfl⟩) l3 rfl ?_
              refine g_k1 (v := 4) (pc' := 76) cd_Ho_alter rfl (by decide) rfl ?_
              refine g_if2 (t := 93) (pc' := 79) cd_Ho_alter rfl rfl rfl (fun c76 => ?_) (fun c76 => ?_)
              · have c76 : ¬ (nI i) = 4 := c76
                refine g_ald (pc' := 94) cd_Ho_alter rfl (Or.inr ⟨_, rfl, rfl, rfl⟩) l0 rfl rfl ?_
                refine g_fR (c := 11) (k := 0) (x := 1) (pc' := 97) cd_Ho_alter rfl rfl rfl rfl rfl (by decide) hH1.1.1.1 hH1.1.1.2 hH1.1.2.1.1 ?_
                refine g_ild (pc' := 99) cd_Ho_alter rfl (Or.inl ⟨rfl, rfl⟩) l5 rfl ?_
                refine g_ild (pc' := 100) cd_Ho_alter rfl (Or.inr ⟨_, rfl, rfl, rfl⟩) l3 rfl ?_
                refine g_ild (pc' := 102) cd_Ho_alter rfl (Or.inl ⟨rfl, rfl⟩) l4 rfl ?_
                refine g_calli (pc' := 105) cd_Ho_alter rfl rfl rfl rfl rfl (tm_invV rfl rfl cd_Te_withNumber rfl (Nat.le_of_ble_eq_true rfl) (by decide) hC1.1.1.1.1 hC1.1.1.1.2) (t_withNumber (i := i) hC1.1 (by omega) th1 c25 hi (fun B2 T2 r2 hx2 ht2 => ?_))
                have hz2 := fz_te hx2.2.2.2
                have hC2 := CK_made hC1 hx2.2.2.1 hx2.1 hz2 (fun y q => Or.inl q)
                have hH2 := RH_te hC1 hH1 hz2 hx2.1
                have hl2 := hx2.2.1
                show bm_G _ _ _ 105 _ [.int r2, .int r, .ref 0] B2 _
                refine g_calli (pc' := 108) cd_Ho_alter rfl rfl rfl rfl rfl (tm_invV rfl rfl cd_Ho_keep rfl (Nat.le_of_ble_eq_true rfl) (by decide) hH2.1.1.1 hH2.1.1.2) (t_kp hC2 hH2 ht2 (fun BQ hCQ hHQ hzQ => ?_))
                show bm_G _ _ _ 108 _ [.int ((kp reg r (TwN (hl reg x) i v)).1)] BQ _
                have eA : al_spec reg r x (nI i) v = kp reg r (TwN (hl reg x) i v) := by unfold al_spec; rw [if_pos ⟨c11, c25, in5_of4 hi, fun q => absurd q (nI_ne4 hi)⟩, if_neg (nI_ne4 hi), nI_clamp (by omega)]
                rw [eA] at kk
                exact g_reti cd_Ho_alter rfl ⟨_, rfl, (kk BQ T2 _ ca1 rm1 hx2.1 (by omega) hCQ hHQ (fr_trans (fr_trans hf1x (fr_mono (fun y q => nF_tcs hC1 q) hz2.1)) (fr_mono (fun y q => nF_lo hC (by omega)) hzQ.1)))⟩
              · have c76 : (nI i) = 4 := Classical.not_not.mp c76
                exact absurd c76 (nI_ne4 hi)
            · exact absurd (show ¬ (¬ (1 : Int32) = 0) from c66) (by decide)
          · have c41 : (nI i) = 4 := Classical.not_not.mp c41
            exact absurd c41 (nI_ne4 hi)
        · have c34 : ¬ (nI i) ≤ 4 := c34
          exact absurd (Int32.le_of_lt ((nI_ltI (a := i) (b := 4) (by omega) (by decide)).mpr hi)) c34
set_option maxRecDepth 100000 in
theorem t_alterB {sc : tm_X} {d : Nat} {B : bm_H} {F : Nat → Prop} {N S M ln : Nat} {T : List Tm} {dr : Nat} {K : Tm → Prop} {ca rm kc kl rk : Nat} {ws : List (Tm × Int32)} {wt : List Tm} {G : LG} {ids dir reg : Nat → Tm} {seen : List Tm} {π : Nat → Nat} {w : Nat → SW} {dev : Nat → DV} {sto : Nat → ST} {r x v : Int32} {Q : Int32 → bm_H → Prop} (hC : CK B F N S M ln T dr K ca rm kc kl rk) (hH : RH B T ws wt G ids dir reg seen π w dev sto) (hTl : T.length ≤ 30000) (kk : ∀ B' T' M' ca' rm', T <+: T' → T'.length ≤ T.length + 1 → CK B' F N S M' ln T' dr K ca' rm' kc kl rk → RH B' T' ws wt G ids dir (al_spec reg r x 4 v).2 seen π w dev sto → fr (fun y => ¬ F y) B B' → Q (al_spec reg r x 4 v).1 B') : bm_Gi sc (d + 5) 145 [.ref 0, .int r, .int x, .int 4, .int v] B Q := by
  show bm_G sc (d + 5) 145 0 [(0, .ref 0), (1, .int r), (2, .int x), (3, .int 4), (4, .int v)] [] B _
  generalize elv : ([(0, .ref 0), (1, .int r), (2, .int x), (3, .int 4), (4, .int v)] : tm_L) = lv
  have l0 : lv.lookup 0 = some (.ref 0) := by rw [← elv]; rfl
  have l1 : lv.lookup 1 = some (.int r) := by rw [← elv]; rfl
  have l2 : lv.lookup 2 = some (.int x) := by rw [← elv]; rfl
  have l3 : lv.lookup 3 = some (.int 4) := by rw [← elv]; rfl
  have l4 : lv.lookup 4 = some (.int v) := by rw [← elv]; rfl
  clear elv
  refine g_ald (pc' := 1) cd_Ho_alter rfl (Or.inr ⟨_, rfl, rfl, rfl⟩) l0 rfl rfl ?_
  refine g_ild (pc' := 2) cd_Ho_alter rfl (Or.inr ⟨_, rfl, rfl, rfl⟩) l2 rfl ?_
  refine g_calli (pc' := 5) cd_Ho_alter rfl rfl rfl rfl rfl (tm_invV rfl rfl cd_Ho_held rfl (Nat.le_of_ble_eq_true rfl) (by decide) hH.1.1.1 hH.1.1.2) (t_held hC hH (fun h3 th3 => ?_))
  show bm_G _ _ _ 5 _ [.int h3] B _
  refine g_ist (pc' := 7) cd_Ho_alter rfl (Or.inl ⟨rfl, rfl⟩) (by decide) rfl (fun lv el => ?_)
  have l0 := tm_lk el l0 rfl (by decide)
  have l1 := tm_lk el l1 rfl (by decide)
  have l2 := tm_lk el l2 rfl (by decide)
  have l3 := tm_lk el l3 rfl (by decide)
  have l4 := tm_lk el l4 rfl (by decide)
  have l5 : lv.lookup 5 = some (.int h3) := tm_lks el
  clear el
  refine g_ild (pc' := 8) cd_Ho_alter rfl (Or.inr ⟨_, rfl, rfl, rfl⟩) l1 rfl ?_
  refine g_calli (pc' := 11) cd_Ho_alter rfl rfl rfl rfl rfl (tm_invS rfl rfl cd_Ho_isRegister rfl (Nat.le_of_ble_eq_true rfl)) (t_isRegister ?_)
  show bm_G _ _ _ 11 _ [.int (bz (inR r 32))] B _
  refine g_if1 (t := 37) (pc' := 14) cd_Ho_alter rfl rfl rfl (fun c11 => ?_) (fun c11 => ?_)
  · have c11 : (inR r 32) = false := bz_f c11
    refine g_k1 (v := (-1)) (pc' := 38) cd_Ho_alter rfl (by decide) rfl ?_
    rw [al_no (fun q => absurd (c11.symm.trans q.1) (by decide))] at kk
    exact g_reti cd_Ho_alter rfl ⟨_, rfl, (kk B T _ _ _ (List.prefix_refl T) (by omega) hC hH (fr_rfl _ B))⟩
  · have c11 : (inR r 32) = true := bz_t c11
    refine g_ald (pc' := 15) cd_Ho_alter rfl (Or.inr ⟨_, rfl, rfl, rfl⟩) l0 rfl rfl ?_
    refine g_fR (c := 11) (k := 0) (x := 1) (pc' := 18) cd_Ho_alter rfl rfl rfl rfl rfl (by decide) hH.1.1.1 hH.1.1.2 hH.1.2.1.1 ?_
    refine g_ild (pc' := 20) cd_Ho_alter rfl (Or.inl ⟨rfl, rfl⟩) l5 rfl ?_
    refine g_calli (pc' := 23) cd_Ho_alter rfl rfl rfl rfl rfl (tm_invV rfl rfl cd_Te_kindOf rfl (Nat.le_of_ble_eq_true rfl) (by decide) hC.1.1.1.1 hC.1.1.1.2) (t_kindOf hC.1 th3 ?_)
    show bm_G _ _ _ 23 _ [.int (kd (hl reg x))] B _
    refine g_k2 (v := 7) (pc' := 25) cd_Ho_alter rfl (by decide) rfl ?_
    refine g_if2 (t := 37) (pc' := 28) cd_Ho_alter rfl rfl rfl (fun c25 => ?_) (fun c25 => ?_)
    · have c25 : ¬ (kd (hl reg x)) = 7 := c25
      refine g_k1 (v := (-1)) (pc' := 38) cd_Ho_alter rfl (by decide) rfl ?_
      rw [al_no (fun q => c25 q.2.1)] at kk
      exact g_reti cd_Ho_alter rfl ⟨_, rfl, (kk B T _ _ _ (List.prefix_refl T) (by omega) hC hH (fr_rfl _ B))⟩
    · have c25 : (kd (hl reg x)) = 7 := Classical.not_not.mp c25
      refine g_ild (pc' := 29) cd_Ho_alter rfl (Or.inr ⟨_, rfl, rfl, rfl⟩) l3 rfl ?_
      refine g_if1 (t := 37) (pc' := 32) cd_Ho_alter rfl rfl rfl (fun c29 => ?_) (fun c29 => ?_)
      · exact absurd (show (4 : Int32) < 0 from c29) (by decide)
      · have c29 : ¬ (4 : Int32) < 0 := c29
        refine g_ild (pc' := 33) cd_Ho_alter rfl (Or.inr ⟨_, rfl, rfl, rfl⟩) l3 rfl ?_
        refine g_k1 (v := 4) (pc' := 34) cd_Ho_alter rfl (by decide) rfl ?_
        refine g_if2 (t := 39) (pc' := 37) cd_Ho_alter rfl rfl rfl (fun c34 => ?_) (fun c34 => ?_)
        · have c34 : (4 : Int32) ≤ 4 := c34
          refine g_ild (pc' := 40) cd_Ho_alter rfl (Or.inr ⟨_, rfl, rfl, rfl⟩) l3 rfl ?_
          refine g_k1 (v := 4) (pc' := 41) cd_Ho_alter rfl (by decide) rfl ?_
          refine g_if2 (t := 59) (pc' := 44) cd_Ho_alter rfl rfl rfl (fun c41 => ?_) (fun c41 => ?_)
          · exact absurd (show ¬ (4 : Int32) = 4 from c41) (by decide)
          · have c41 : (4 : Int32) = 4 := Classical.not_not.mp c41
            refine g_ild (pc' := 46) cd_Ho_alter rfl (Or.inl ⟨rfl, rfl⟩) l4 rfl ?_
            refine g_k1 (v := 1) (pc' := 47) cd_Ho_alter rfl (by decide) rfl ?_
            refine g_if2 (t := 57) (pc' := 50) cd_Ho_alter rfl rfl rfl (fun c47 => ?_) (fun c47 => ?_)
            · have c47 : v < 1 := c47
              refine g_k1 (v := (-1)) (pc' := 58) cd_Ho_alter rfl (by decide) rfl ?_
              rw [al_no (fun q => (q.2.2.2 rfl).1 c47)] at kk
              exact g_reti cd_Ho_alter rfl ⟨_, rfl, (kk B T _ _ _ (List.prefix_refl T) (by omega) hC hH (fr_rfl _ B))⟩
            · have c47 : ¬ v < 1 := c47
              refine g_ild (pc' := 52) cd_Ho_alter rfl (Or.inl ⟨rfl, rfl⟩) l4 rfl ?_
              refine g_k2 (v := 7) (pc' := 54) cd_Ho_alter rfl (by decide) rfl ?_
              refine g_if2 (t := 59) (pc' := 57) cd_Ho_alter rfl rfl rfl (fun c54 => ?_) (fun c54 => ?_)
              · have c54 : v ≤ 7 := c54
                refine g_ald (pc' := 60) cd_Ho_alter rfl (Or.inr ⟨_, rfl, rfl, rfl⟩) l0 rfl rfl ?_
                refine g_fR (c := 11) (k := 0) (x := 1) (pc' := 63) cd_Ho_alter rfl rfl rfl rfl rfl (by decide) hH.1.1.1 hH.1.1.2 hH.1.2.1.1 ?_
                refine g_calli (pc' := 66) cd_Ho_alter rfl rfl rfl rfl rfl (tm_invV rfl rfl cd_Te_hasRoom rfl (Nat.le_of_ble_eq_true rfl) (by decide) hC.1.1.1.1 hC.1.1.1.2) (t_roomC hC hTl (fun B1 ca1 rm1 hC1 hf1 => ?_))
                have hH1 := RH_fr hH hf1 (fun y q => by omega) (List.prefix_refl T)
                have hrm1 := hC1.2.2.2.2.1.2
                have hf1x : fr (fun y => ¬ F y) B B1 := fr_mono (fun y q => nF_lo hC (by omega)) hf1
                show bm_G _ _ _ 66 _ [.int 1] B1 _
                refine g_if1 (t := 72) (pc' := 69) cd_Ho_alter rfl rfl rfl (fun c66 => ?_) (fun c66 => ?_)
                · have c66 : ¬ (1 : Int32) = 0 := c66
                  refine g_ald (pc' := 73) cd_Ho_alter rfl (Or.inr ⟨_, rfl, rfl, rfl⟩) l0 rfl rfl ?_
                  refine g_ild (pc' := 74) cd_Ho_alter rfl (Or.inr ⟨_, rfl, rfl, rfl⟩) l1 rfl ?_
                  refine g_ild (pc' := 75) cd_Ho_alter rfl (Or.inr ⟨_, rfl, rfl, rfl⟩) l3 rfl ?_
                  refine g_k1 (v := 4) (pc' := 76) cd_Ho_alter rfl (by decide) rfl ?_
                  refine g_if2 (t := 93) (pc' := 79) cd_Ho_alter rfl rfl rfl (fun c76 => ?_) (fun c76 => ?_)
                  · exact absurd (show ¬ (4 : Int32) = 4 from c76) (by decide)
                  · have c76 : (4 : Int32) = 4 := Classical.not_not.mp c76
                    refine g_ald (pc' := 80) cd_Ho_alter rfl (Or.inr ⟨_, rfl, rfl, rfl⟩) l0 rfl rfl ?_
                    refine g_fR (c := 11) (k := 0) (x := 1) (pc' := 83) cd_Ho_alter rfl rfl rfl rfl rfl (by decide) hH1.1.1.1 hH1.1.1.2 hH1.1.2.1.1 ?_
                    refine g_ild (pc' := 85) cd_Ho_alter rfl (Or.inl ⟨rfl, rfl⟩) l5 rfl ?_
                    refine g_ild (pc' := 87) cd_Ho_alter rfl (Or.inl ⟨rfl, rfl⟩) l4 rfl ?_
                    obtain ⟨k5, n0, n1, n2, n3, P0, P1, P2, P3, eR⟩ := tv_row (T := T) (x := 0) (TI_sp hC1.1 th3) c25
                    have hR := th3
                    rw [eR] at hR
                    refine g_calli (pc' := 90) cd_Ho_alter rfl rfl rfl rfl rfl (tm_invV rfl rfl cd_Te_withKind rfl (Nat.le_of_ble_eq_true rfl) (by decide) hC1.1.1.1.1 hC1.1.1.1.2) (t_withKind hC1.1 (by omega) hR (fun B4 T4 r4 hx4 ht0 => ?_))
                    have ht4 : tv T4 r4 (TwK (hl reg x) v) := by rw [eR]; exact ht0
                    have hz4 := fz_te hx4.2.2.2
                    have hC4 := CK_made hC1 hx4.2.2.1 hx4.1 hz4 (fun y q => Or.inl q)
                    have hH4 := RH_te hC1 hH1 hz4 hx4.1
                    have hl4 := hx4.2.1
                    show bm_G _ _ _ 90 _ [.int r4, .int r, .ref 0] B4 _
                    refine g_pure (pc' := 105) (st' := [.int r4, .int r, .ref 0]) cd_Ho_alter rfl rfl (fun _ _ => rfl) ?_
                    refine g_calli (pc' := 108) cd_Ho_alter rfl rfl rfl rfl rfl (tm_invV rfl rfl cd_Ho_keep rfl (Nat.le_of_ble_eq_true rfl) (by decide) hH4.1.1.1 hH4.1.1.2) (t_kp hC4 hH4 ht4 (fun BQ hCQ hHQ hzQ => ?_))
                    show bm_G _ _ _ 108 _ [.int ((kp reg r (TwK (hl reg x) v)).1)] BQ _
                    have eA : al_spec reg r x 4 v = kp reg r (TwK (hl reg x) v) := by unfold al_spec; rw [if_pos ⟨c11, c25, by decide, fun _ => ⟨c47, c54⟩⟩, if_pos rfl]
                    rw [eA] at kk
                    exact g_reti cd_Ho_alter rfl ⟨_, rfl, (kk BQ T4 _ ca1 rm1 hx4.1 (by omega) hCQ hHQ (fr_trans (fr_trans hf1x (fr_mono (fun y q => nF_tcs hC1 q) hz4.1)) (fr_mono (fun y q => nF_lo hC (by omega)) hzQ.1)))⟩
                · exact absurd (show ¬ (¬ (1 : Int32) = 0) from c66) (by decide)
              · have c54 : ¬ v ≤ 7 := c54
                refine g_k1 (v := (-1)) (pc' := 58) cd_Ho_alter rfl (by decide) rfl ?_
                rw [al_no (fun q => c54 (q.2.2.2 rfl).2)] at kk
                exact g_reti cd_Ho_alter rfl ⟨_, rfl, (kk B T _ _ _ (List.prefix_refl T) (by omega) hC hH (fr_rfl _ B))⟩
        · exact absurd (show ¬ (4 : Int32) ≤ 4 from c34) (by decide)
set_option maxRecDepth 100000 in
theorem t_alterC {sc : tm_X} {d : Nat} {B : bm_H} {F : Nat → Prop} {N S M ln : Nat} {T : List Tm} {dr : Nat} {K : Tm → Prop} {ca rm kc kl rk : Nat} {ws : List (Tm × Int32)} {wt : List Tm} {G : LG} {ids dir reg : Nat → Tm} {seen : List Tm} {π : Nat → Nat} {w : Nat → SW} {dev : Nat → DV} {sto : Nat → ST} {r x k v : Int32} {Q : Int32 → bm_H → Prop} (hC : CK B F N S M ln T dr K ca rm kc kl rk) (hH : RH B T ws wt G ids dir reg seen π w dev sto) (hTl : T.length ≤ 30000) (hk : inR k 5 = false) (kk : ∀ B' T' M' ca' rm', T <+: T' → T'.length ≤ T.length + 1 → CK B' F N S M' ln T' dr K ca' rm' kc kl rk → RH B' T' ws wt G ids dir (al_spec reg r x k v).2 seen π w dev sto → fr (fun y => ¬ F y) B B' → Q (al_spec reg r x k v).1 B') : bm_Gi sc (d + 5) 145 [.ref 0, .int r, .int x, .int k, .int v] B Q := by
  show bm_G sc (d + 5) 145 0 [(0, .ref 0), (1, .int r), (2, .int x), (3, .int k), (4, .int v)] [] B _
  generalize elv : ([(0, .ref 0), (1, .int r), (2, .int x), (3, .int k), (4, .int v)] : tm_L) = lv
  have l0 : lv.lookup 0 = some (.ref 0) := by rw [← elv]; rfl
  have l1 : lv.lookup 1 = some (.int r) := by rw [← elv]; rfl
  have l2 : lv.lookup 2 = some (.int x) := by rw [← elv]; rfl
  have l3 : lv.lookup 3 = some (.int k) := by rw [← elv]; rfl
  have l4 : lv.lookup 4 = some (.int v) := by rw [← elv]; rfl
  clear elv
  refine g_ald (pc' := 1) cd_Ho_alter rfl (Or.inr ⟨_, rfl, rfl, rfl⟩) l0 rfl rfl ?_
  refine g_ild (pc' := 2) cd_Ho_alter rfl (Or.inr ⟨_, rfl, rfl, rfl⟩) l2 rfl ?_
  refine g_calli (pc' := 5) cd_Ho_alter rfl rfl rfl rfl rfl (tm_invV rfl rfl cd_Ho_held rfl (Nat.le_of_ble_eq_true rfl) (by decide) hH.1.1.1 hH.1.1.2) (t_held hC hH (fun h5 th5 => ?_))
  show bm_G _ _ _ 5 _ [.int h5] B _
  refine g_ist (pc' := 7) cd_Ho_alter rfl (Or.inl ⟨rfl, rfl⟩) (by decide) rfl (fun lv el => ?_)
  have l0 := tm_lk el l0 rfl (by decide)
  have l1 := tm_lk el l1 rfl (by decide)
  have l2 := tm_lk el l2 rfl (by decide)
  have l3 := tm_lk el l3 rfl (by decide)
  have l4 := tm_lk el l4 rfl (by decide)
  have l5 : lv.lookup 5 = some (.int h5) := tm_lks el
  clear el
  refine g_ild (pc' := 8) cd_Ho_alter rfl (Or.inr ⟨_, rfl, rfl, rfl⟩) l1 rfl ?_
  refine g_calli (pc' := 11) cd_Ho_alter rfl rfl rfl rfl rfl (tm_invS rfl rfl cd_Ho_isRegister rfl (Nat.le_of_ble_eq_true rfl)) (t_isRegister ?_)
  show bm_G _ _ _ 11 _ [.int (bz (inR r 32))] B _
  refine g_if1 (t := 37) (pc' := 14) cd_Ho_alter rfl rfl rfl (fun c11 => ?_) (fun c11 => ?_)
  · have c11 : (inR r 32) = false := bz_f c11
    refine g_k1 (v := (-1)) (pc' := 38) cd_Ho_alter rfl (by decide) rfl ?_
    rw [al_no (fun q => absurd (c11.symm.trans q.1) (by decide))] at kk
    exact g_reti cd_Ho_alter rfl ⟨_, rfl, (kk B T _ _ _ (List.prefix_refl T) (by omega) hC hH (fr_rfl _ B))⟩
  · have c11 : (inR r 32) = true := bz_t c11
    refine g_ald (pc' := 15) cd_Ho_alter rfl (Or.inr ⟨_, rfl, rfl, rfl⟩) l0 rfl rfl ?_
    refine g_fR (c := 11) (k := 0) (x := 1) (pc' := 18) cd_Ho_alter rfl rfl rfl rfl rfl (by decide) hH.1.1.1 hH.1.1.2 hH.1.2.1.1 ?_
    refine g_ild (pc' := 20) cd_Ho_alter rfl (Or.inl ⟨rfl, rfl⟩) l5 rfl ?_
    refine g_calli (pc' := 23) cd_Ho_alter rfl rfl rfl rfl rfl (tm_invV rfl rfl cd_Te_kindOf rfl (Nat.le_of_ble_eq_true rfl) (by decide) hC.1.1.1.1 hC.1.1.1.2) (t_kindOf hC.1 th5 ?_)
    show bm_G _ _ _ 23 _ [.int (kd (hl reg x))] B _
    refine g_k2 (v := 7) (pc' := 25) cd_Ho_alter rfl (by decide) rfl ?_
    refine g_if2 (t := 37) (pc' := 28) cd_Ho_alter rfl rfl rfl (fun c25 => ?_) (fun c25 => ?_)
    · have c25 : ¬ (kd (hl reg x)) = 7 := c25
      refine g_k1 (v := (-1)) (pc' := 38) cd_Ho_alter rfl (by decide) rfl ?_
      rw [al_no (fun q => c25 q.2.1)] at kk
      exact g_reti cd_Ho_alter rfl ⟨_, rfl, (kk B T _ _ _ (List.prefix_refl T) (by omega) hC hH (fr_rfl _ B))⟩
    · have c25 : (kd (hl reg x)) = 7 := Classical.not_not.mp c25
      refine g_ild (pc' := 29) cd_Ho_alter rfl (Or.inr ⟨_, rfl, rfl, rfl⟩) l3 rfl ?_
      refine g_if1 (t := 37) (pc' := 32) cd_Ho_alter rfl rfl rfl (fun c29 => ?_) (fun c29 => ?_)
      · have c29 : k < 0 := c29
        refine g_k1 (v := (-1)) (pc' := 38) cd_Ho_alter rfl (by decide) rfl ?_
        rw [al_no (fun q => absurd (hk.symm.trans q.2.2.1) (by decide))] at kk
        exact g_reti cd_Ho_alter rfl ⟨_, rfl, (kk B T _ _ _ (List.prefix_refl T) (by omega) hC hH (fr_rfl _ B))⟩
      · have c29 : ¬ k < 0 := c29
        refine g_ild (pc' := 33) cd_Ho_alter rfl (Or.inr ⟨_, rfl, rfl, rfl⟩) l3 rfl ?_
        refine g_k1 (v := 4) (pc' := 34) cd_Ho_alter rfl (by decide) rfl ?_
        refine g_if2 (t := 39) (pc' := 37) cd_Ho_alter rfl rfl rfl (fun c34 => ?_) (fun c34 => ?_)
        · have c34 : k ≤ 4 := c34
          exact absurd (inR_t (n := 5) c29 (fun q => absurd (Int32.lt_of_lt_of_le (show (4 : Int32) < 5 by decide) (Int32.le_trans q c34)) (Int32.lt_irrefl))) (by rw [hk]; decide)
        · have c34 : ¬ k ≤ 4 := c34
          refine g_k1 (v := (-1)) (pc' := 38) cd_Ho_alter rfl (by decide) rfl ?_
          rw [al_no (fun q => absurd (hk.symm.trans q.2.2.1) (by decide))] at kk
          exact g_reti cd_Ho_alter rfl ⟨_, rfl, (kk B T _ _ _ (List.prefix_refl T) (by omega) hC hH (fr_rfl _ B))⟩
theorem t_alter {sc : tm_X} {d : Nat} {B : bm_H} {F : Nat → Prop} {N S M ln : Nat} {T : List Tm} {dr : Nat} {K : Tm → Prop} {ca rm kc kl rk : Nat} {ws : List (Tm × Int32)} {wt : List Tm} {G : LG} {ids dir reg : Nat → Tm} {seen : List Tm} {π : Nat → Nat} {w : Nat → SW} {dev : Nat → DV} {sto : Nat → ST} {r x k v : Int32} {Q : Int32 → bm_H → Prop} (hC : CK B F N S M ln T dr K ca rm kc kl rk) (hH : RH B T ws wt G ids dir reg seen π w dev sto) (hTl : T.length ≤ 30000) (kk : ∀ B' T' M' ca' rm', T <+: T' → T'.length ≤ T.length + 1 → CK B' F N S M' ln T' dr K ca' rm' kc kl rk → RH B' T' ws wt G ids dir (al_spec reg r x k v).2 seen π w dev sto → fr (fun y => ¬ F y) B B' → Q (al_spec reg r x k v).1 B') : bm_Gi sc (d + 5) 145 [.ref 0, .int r, .int x, .int k, .int v] B Q := by
  by_cases c4 : k = 4
  · subst c4; exact t_alterB hC hH hTl kk
  · cases c : inR k 5 with
    | false => exact t_alterC hC hH hTl c kk
    | true =>
      obtain ⟨i, hi, rfl⟩ := inR_of (n := 5) (by decide) c
      exact t_alterA hC hH hTl (by
        rcases (by omega : i < 4 ∨ i = 4) with h | rfl
        · exact h
        · exact absurd rfl c4) kk
theorem i32_le3 {i : Nat} (hi : i < 4) : nI i ≤ (3 : Int32) := Int32.not_lt.mp (fun q => by have := (nI_ltI (a := 3) (b := i) (by decide) (by omega)).mp q; omega)
set_option maxRecDepth 100000 in
theorem t_swapA {sc : tm_X} {d : Nat} {B : bm_H} {F : Nat → Prop} {N S M ln : Nat} {T : List Tm} {dr : Nat} {K : Tm → Prop} {ca rm kc kl rk : Nat} {ws : List (Tm × Int32)} {wt : List Tm} {G : LG} {ids dir reg : Nat → Tm} {seen : List Tm} {π : Nat → Nat} {w : Nat → SW} {dev : Nat → DV} {sto : Nat → ST} {r x y : Int32} {i : Nat} {Q : Int32 → bm_H → Prop} (hC : CK B F N S M ln T dr K ca rm kc kl rk) (hH : RH B T ws wt G ids dir reg seen π w dev sto) (hTl : T.length ≤ 30000) (hi : i < 4) (kk : ∀ B' T' M' ca' rm', T <+: T' → T'.length ≤ T.length + 1 → CK B' F N S M' ln T' dr K ca' rm' kc kl rk → RH B' T' ws wt G ids dir (sp_spec reg r x (nI i) y).2 seen π w dev sto → fr (fun y => ¬ F y) B B' → Q (sp_spec reg r x (nI i) y).1 B') : bm_Gi sc (d + 5) 149 [.ref 0, .int r, .int x, .int (nI i), .int y] B Q := by
  show bm_G sc (d + 5) 149 0 [(0, .ref 0), (1, .int r), (2, .int x), (3, .int (nI i)), (4, .int y)] [] B _
  generalize elv : ([(0, .ref 0), (1, .int r), (2, .int x), (3, .int (nI i)), (4, .int y)] : tm_L) = lv
  have l0 : lv.lookup 0 = some (.ref 0) := by rw [← elv]; rfl
  have l1 : lv.lookup 1 = some (.int r) := by rw [← elv]; rfl
  have l2 : lv.lookup 2 = some (.int x) := by rw [← elv]; rfl
  have l3 : lv.lookup 3 = some (.int (nI i)) := by rw [← elv]; rfl
  have l4 : lv.lookup 4 = some (.int y) := by rw [← elv]; rfl
  clear elv
  refine g_ald (pc' := 1) cd_Ho_swap rfl (Or.inr ⟨_, rfl, rfl, rfl⟩) l0 rfl rfl ?_
  refine g_ild (pc' := 2) cd_Ho_swap rfl (Or.inr ⟨_, rfl, rfl, rfl⟩) l2 rfl ?_
  refine g_calli (pc' := 5) cd_Ho_swap rfl rfl rfl rfl rfl (tm_invV rfl rfl cd_Ho_held rfl (Nat.le_of_ble_eq_true rfl) (by decide) hH.1.1.1 hH.1.1.2) (t_held hC hH (fun h6 th6 => ?_))
  show bm_G _ _ _ 5 _ [.int h6] B _
  refine g_ist (pc' := 7) cd_Ho_swap rfl (Or.inl ⟨rfl, rfl⟩) (by decide) rfl (fun lv el => ?_)
  have l0 := tm_lk el l0 rfl (by decide)
  have l1 := tm_lk el l1 rfl (by decide)
  have l2 := tm_lk el l2 rfl (by decide)
  have l3 := tm_lk el l3 rfl (by decide)
  have l4 := tm_lk el l4 rfl (by decide)
  have l5 : lv.lookup 5 = some (.int h6) := tm_lks el
  clear el
  refine g_ald (pc' := 8) cd_Ho_swap rfl (Or.inr ⟨_, rfl, rfl, rfl⟩) l0 rfl rfl ?_
  refine g_ild (pc' := 10) cd_Ho_swap rfl (Or.inl ⟨rfl, rfl⟩) l4 rfl ?_
  refine g_calli (pc' := 13) cd_Ho_swap rfl rfl rfl rfl rfl (tm_invV rfl rfl cd_Ho_held rfl (Nat.le_of_ble_eq_true rfl) (by decide) hH.1.1.1 hH.1.1.2) (t_held hC hH (fun h7 th7 => ?_))
  show bm_G _ _ _ 13 _ [.int h7] B _
  refine g_ist (pc' := 15) cd_Ho_swap rfl (Or.inl ⟨rfl, rfl⟩) (by decide) rfl (fun lv el => ?_)
  have l0 := tm_lk el l0 rfl (by decide)
  have l1 := tm_lk el l1 rfl (by decide)
  have l2 := tm_lk el l2 rfl (by decide)
  have l3 := tm_lk el l3 rfl (by decide)
  have l4 := tm_lk el l4 rfl (by decide)
  have l5 := tm_lk el l5 rfl (by decide)
  have l6 : lv.lookup 6 = some (.int h7) := tm_lks el
  clear el
  refine g_ild (pc' := 16) cd_Ho_swap rfl (Or.inr ⟨_, rfl, rfl, rfl⟩) l1 rfl ?_
  refine g_calli (pc' := 19) cd_Ho_swap rfl rfl rfl rfl rfl (tm_invS rfl rfl cd_Ho_isRegister rfl (Nat.le_of_ble_eq_true rfl)) (t_isRegister ?_)
  show bm_G _ _ _ 19 _ [.int (bz (inR r 32))] B _
  refine g_if1 (t := 45) (pc' := 22) cd_Ho_swap rfl rfl rfl (fun c19 => ?_) (fun c19 => ?_)
  · have c19 : (inR r 32) = false := bz_f c19
    refine g_k1 (v := (-1)) (pc' := 46) cd_Ho_swap rfl (by decide) rfl ?_
    have eA : sp_spec reg r x (nI i) y = (-1, reg) := if_neg (fun q => absurd (c19.symm.trans q.1) (by decide))
    rw [eA] at kk
    exact g_reti cd_Ho_swap rfl ⟨_, rfl, (kk B T _ _ _ (List.prefix_refl T) (by omega) hC hH (fr_rfl _ B))⟩
  · have c19 : (inR r 32) = true := bz_t c19
    refine g_ald (pc' := 23) cd_Ho_swap rfl (Or.inr ⟨_, rfl, rfl, rfl⟩) l0 rfl rfl ?_
    refine g_fR (c := 11) (k := 0) (x := 1) (pc' := 26) cd_Ho_swap rfl rfl rfl rfl rfl (by decide) hH.1.1.1 hH.1.1.2 hH.1.2.1.1 ?_
    refine g_ild (pc' := 28) cd_Ho_swap rfl (Or.inl ⟨rfl, rfl⟩) l5 rfl ?_
    refine g_calli (pc' := 31) cd_Ho_swap rfl rfl rfl rfl rfl (tm_invV rfl rfl cd_Te_kindOf rfl (Nat.le_of_ble_eq_true rfl) (by decide) hC.1.1.1.1 hC.1.1.1.2) (t_kindOf hC.1 th6 ?_)
    show bm_G _ _ _ 31 _ [.int (kd (hl reg x))] B _
    refine g_k2 (v := 7) (pc' := 33) cd_Ho_swap rfl (by decide) rfl ?_
    refine g_if2 (t := 45) (pc' := 36) cd_Ho_swap rfl rfl rfl (fun c33 => ?_) (fun c33 => ?_)
    · have c33 : ¬ (kd (hl reg x)) = 7 := c33
      refine g_k1 (v := (-1)) (pc' := 46) cd_Ho_swap rfl (by decide) rfl ?_
      have eA : sp_spec reg r x (nI i) y = (-1, reg) := if_neg (fun q => c33 q.2.1)
      rw [eA] at kk
      exact g_reti cd_Ho_swap rfl ⟨_, rfl, (kk B T _ _ _ (List.prefix_refl T) (by omega) hC hH (fr_rfl _ B))⟩
    · have c33 : (kd (hl reg x)) = 7 := Classical.not_not.mp c33
      refine g_ild (pc' := 37) cd_Ho_swap rfl (Or.inr ⟨_, rfl, rfl, rfl⟩) l3 rfl ?_
      refine g_if1 (t := 45) (pc' := 40) cd_Ho_swap rfl rfl rfl (fun c37 => ?_) (fun c37 => ?_)
      · have c37 : (nI i) < 0 := c37
        exact absurd c37 (nI_pos (by omega))
      · have c37 : ¬ (nI i) < 0 := c37
        refine g_ild (pc' := 41) cd_Ho_swap rfl (Or.inr ⟨_, rfl, rfl, rfl⟩) l3 rfl ?_
        refine g_k1 (v := 3) (pc' := 42) cd_Ho_swap rfl (by decide) rfl ?_
        refine g_if2 (t := 47) (pc' := 45) cd_Ho_swap rfl rfl rfl (fun c42 => ?_) (fun c42 => ?_)
        · have c42 : (nI i) ≤ 3 := c42
          refine g_ild (pc' := 49) cd_Ho_swap rfl (Or.inl ⟨rfl, rfl⟩) l6 rfl ?_
          refine g_if1 (t := 60) (pc' := 52) cd_Ho_swap rfl rfl rfl (fun c49 => ?_) (fun c49 => ?_)
          · have c49 : ¬ h7 = 0 := c49
            refine g_ald (pc' := 61) cd_Ho_swap rfl (Or.inr ⟨_, rfl, rfl, rfl⟩) l0 rfl rfl ?_
            refine g_fR (c := 11) (k := 0) (x := 1) (pc' := 64) cd_Ho_swap rfl rfl rfl rfl rfl (by decide) hH.1.1.1 hH.1.1.2 hH.1.2.1.1 ?_
            have hy : tnil (hl reg y) = false ∨ y = -1 := Or.inl (tnil_f (fun q => c49 ((TI_0 hC.1 th7).mpr q)))
            refine g_calli (pc' := 67) cd_Ho_swap rfl rfl rfl rfl rfl (tm_invV rfl rfl cd_Te_hasRoom rfl (Nat.le_of_ble_eq_true rfl) (by decide) hC.1.1.1.1 hC.1.1.1.2) (t_roomC hC hTl (fun B1 ca1 rm1 hC1 hf1 => ?_))
            have hH1 := RH_fr hH hf1 (fun y q => by omega) (List.prefix_refl T)
            have hrm1 := hC1.2.2.2.2.1.2
            have hf1x : fr (fun y => ¬ F y) B B1 := fr_mono (fun y q => nF_lo hC (by omega)) hf1
            show bm_G _ _ _ 67 _ [.int 1] B1 _
            refine g_if1 (t := 90) (pc' := 70) cd_Ho_swap rfl rfl rfl (fun c67 => ?_) (fun c67 => ?_)
            · exact absurd (show (1 : Int32) = 0 from c67) (by decide)
            · have c67 : ¬ (1 : Int32) = 0 := c67
              refine g_ald (pc' := 71) cd_Ho_swap rfl (Or.inr ⟨_, rfl, rfl, rfl⟩) l0 rfl rfl ?_
              refine g_ild (pc' := 72) cd_Ho_swap rfl (Or.inr ⟨_, rfl, rfl, rfl⟩) l1 rfl ?_
              refine g_ald (pc' := 73) cd_Ho_swap rfl (Or.inr ⟨_, rfl, rfl, rfl⟩) l0 rfl rfl ?_
              refine g_fR (c := 11) (k := 0) (x := 1) (pc' := 76) cd_Ho_swap rfl rfl rfl rfl rfl (by decide) hH1.1.1.1 hH1.1.1.2 hH1.1.2.1.1 ?_
              refine g_ild (pc' := 78) cd_Ho_swap rfl (Or.inl ⟨rfl, rfl⟩) l5 rfl ?_
              refine g_ild (pc' := 79) cd_Ho_swap rfl (Or.inr ⟨_, rfl, rfl, rfl⟩) l3 rfl ?_
              refine g_ild (pc' := 81) cd_Ho_swap rfl (Or.inl ⟨rfl, rfl⟩) l6 rfl ?_
              refine g_calli (pc' := 84) cd_Ho_swap rfl rfl rfl rfl rfl (tm_invV rfl rfl cd_Te_withPart rfl (Nat.le_of_ble_eq_true rfl) (by decide) hC1.1.1.1.1 hC1.1.1.1.2) (t_withPart (i := i) hC1.1 (by omega) th6 c33 hi th7 (fun B8 T8 r8 hx8 ht8 => ?_))
              have hz8 := fz_te hx8.2.2.2
              have hC8 := CK_made hC1 hx8.2.2.1 hx8.1 hz8 (fun y q => Or.inl q)
              have hH8 := RH_te hC1 hH1 hz8 hx8.1
              have hl8 := hx8.2.1
              show bm_G _ _ _ 84 _ [.int r8, .int r, .ref 0] B8 _
              refine g_calli (pc' := 87) cd_Ho_swap rfl rfl rfl rfl rfl (tm_invV rfl rfl cd_Ho_keep rfl (Nat.le_of_ble_eq_true rfl) (by decide) hH8.1.1.1 hH8.1.1.2) (t_kp hC8 hH8 ht8 (fun BQ hCQ hHQ hzQ => ?_))
              show bm_G _ _ _ 87 _ [.int ((kp reg r (TwP (hl reg x) i (hl reg y))).1)] BQ _
              refine g_pure (pc' := 92) (st' := [.int ((kp reg r (TwP (hl reg x) i (hl reg y))).1)]) cd_Ho_swap rfl rfl (fun _ _ => rfl) ?_
              have eA : sp_spec reg r x (nI i) y = kp reg r (TwP (hl reg x) i (hl reg y)) := by unfold sp_spec; rw [if_pos ⟨c19, c33, inR_nI (n := 4) hi (by decide), hy⟩, nI_clamp (by omega)]
              rw [eA] at kk
              exact g_reti cd_Ho_swap rfl ⟨_, rfl, (kk BQ T8 _ ca1 rm1 hx8.1 (by omega) hCQ hHQ (fr_trans (fr_trans hf1x (fr_mono (fun y q => nF_tcs hC1 q) hz8.1)) (fr_mono (fun y q => nF_lo hC (by omega)) hzQ.1)))⟩
          · have c49 : h7 = 0 := Classical.not_not.mp c49
            refine g_ild (pc' := 54) cd_Ho_swap rfl (Or.inl ⟨rfl, rfl⟩) l4 rfl ?_
            refine g_k1 (v := (-1)) (pc' := 55) cd_Ho_swap rfl (by decide) rfl ?_
            refine g_if2 (t := 60) (pc' := 58) cd_Ho_swap rfl rfl rfl (fun c55 => ?_) (fun c55 => ?_)
            · have c55 : y = (-1) := c55
              refine g_ald (pc' := 61) cd_Ho_swap rfl (Or.inr ⟨_, rfl, rfl, rfl⟩) l0 rfl rfl ?_
              refine g_fR (c := 11) (k := 0) (x := 1) (pc' := 64) cd_Ho_swap rfl rfl rfl rfl rfl (by decide) hH.1.1.1 hH.1.1.2 hH.1.2.1.1 ?_
              have hy : tnil (hl reg y) = false ∨ y = -1 := Or.inr c55
              refine g_calli (pc' := 67) cd_Ho_swap rfl rfl rfl rfl rfl (tm_invV rfl rfl cd_Te_hasRoom rfl (Nat.le_of_ble_eq_true rfl) (by decide) hC.1.1.1.1 hC.1.1.1.2) (t_roomC hC hTl (fun B1 ca1 rm1 hC1 hf1 => ?_))
              have hH1 := RH_fr hH hf1 (fun y q => by omega) (List.prefix_refl T)
              have hrm1 := hC1.2.2.2.2.1.2
              have hf1x : fr (fun y => ¬ F y) B B1 := fr_mono (fun y q => nF_lo hC (by omega)) hf1
              show bm_G _ _ _ 67 _ [.int 1] B1 _
              refine g_if1 (t := 90) (pc' := 70) cd_Ho_swap rfl rfl rfl (fun c67 => ?_) (fun c67 => ?_)
              · exact absurd (show (1 : Int32) = 0 from c67) (by decide)
              · have c67 : ¬ (1 : Int32) = 0 := c67
                refine g_ald (pc' := 71) cd_Ho_swap rfl (Or.inr ⟨_, rfl, rfl, rfl⟩) l0 rfl rfl ?_
                refine g_ild (pc' := 72) cd_Ho_swap rfl (Or.inr ⟨_, rfl, rfl, rfl⟩) l1 rfl ?_
                refine g_ald (pc' := 73) cd_Ho_swap rfl (Or.inr ⟨_, rfl, rfl, rfl⟩) l0 rfl rfl ?_
                refine g_fR (c := 11) (k := 0) (x := 1) (pc' := 76) cd_Ho_swap rfl rfl rfl rfl rfl (by decide) hH1.1.1.1 hH1.1.1.2 hH1.1.2.1.1 ?_
                refine g_ild (pc' := 78) cd_Ho_swap rfl (Or.inl ⟨rfl, rfl⟩) l5 rfl ?_
                refine g_ild (pc' := 79) cd_Ho_swap rfl (Or.inr ⟨_, rfl, rfl, rfl⟩) l3 rfl ?_
                refine g_ild (pc' := 81) cd_Ho_swap rfl (Or.inl ⟨rfl, rfl⟩) l6 rfl ?_
                refine g_calli (pc' := 84) cd_Ho_swap rfl rfl rfl rfl rfl (tm_invV rfl rfl cd_Te_withPart rfl (Nat.le_of_ble_eq_true rfl) (by decide) hC1.1.1.1.1 hC1.1.1.1.2) (t_withPart (i := i) hC1.1 (by omega) th6 c33 hi th7 (fun B9 T9 r9 hx9 ht9 => ?_))
                have hz9 := fz_te hx9.2.2.2
                have hC9 := CK_made hC1 hx9.2.2.1 hx9.1 hz9 (fun y q => Or.inl q)
                have hH9 := RH_te hC1 hH1 hz9 hx9.1
                have hl9 := hx9.2.1
                show bm_G _ _ _ 84 _ [.int r9, .int r, .ref 0] B9 _
                refine g_calli (pc' := 87) cd_Ho_swap rfl rfl rfl rfl rfl (tm_invV rfl rfl cd_Ho_keep rfl (Nat.le_of_ble_eq_true rfl) (by decide) hH9.1.1.1 hH9.1.1.2) (t_kp hC9 hH9 ht9 (fun BQ hCQ hHQ hzQ => ?_))
                show bm_G _ _ _ 87 _ [.int ((kp reg r (TwP (hl reg x) i (hl reg y))).1)] BQ _
                refine g_pure (pc' := 92) (st' := [.int ((kp reg r (TwP (hl reg x) i (hl reg y))).1)]) cd_Ho_swap rfl rfl (fun _ _ => rfl) ?_
                have eA : sp_spec reg r x (nI i) y = kp reg r (TwP (hl reg x) i (hl reg y)) := by unfold sp_spec; rw [if_pos ⟨c19, c33, inR_nI (n := 4) hi (by decide), hy⟩, nI_clamp (by omega)]
                rw [eA] at kk
                exact g_reti cd_Ho_swap rfl ⟨_, rfl, (kk BQ T9 _ ca1 rm1 hx9.1 (by omega) hCQ hHQ (fr_trans (fr_trans hf1x (fr_mono (fun y q => nF_tcs hC1 q) hz9.1)) (fr_mono (fun y q => nF_lo hC (by omega)) hzQ.1)))⟩
            · have c55 : ¬ y = (-1) := c55
              refine g_k1 (v := (-1)) (pc' := 59) cd_Ho_swap rfl (by decide) rfl ?_
              have eA : sp_spec reg r x (nI i) y = (-1, reg) := if_neg (fun q => q.2.2.2.elim (fun q => absurd (q.symm.trans (tnil_iff.mpr ((TI_0 hC.1 th7).mp c49))) (by decide)) c55)
              rw [eA] at kk
              exact g_reti cd_Ho_swap rfl ⟨_, rfl, (kk B T _ _ _ (List.prefix_refl T) (by omega) hC hH (fr_rfl _ B))⟩
        · have c42 : ¬ (nI i) ≤ 3 := c42
          exact absurd (i32_le3 hi) c42
set_option maxRecDepth 100000 in
theorem t_swapC {sc : tm_X} {d : Nat} {B : bm_H} {F : Nat → Prop} {N S M ln : Nat} {T : List Tm} {dr : Nat} {K : Tm → Prop} {ca rm kc kl rk : Nat} {ws : List (Tm × Int32)} {wt : List Tm} {G : LG} {ids dir reg : Nat → Tm} {seen : List Tm} {π : Nat → Nat} {w : Nat → SW} {dev : Nat → DV} {sto : Nat → ST} {r x k y : Int32} {Q : Int32 → bm_H → Prop} (hC : CK B F N S M ln T dr K ca rm kc kl rk) (hH : RH B T ws wt G ids dir reg seen π w dev sto) (hTl : T.length ≤ 30000) (hk : inR k 4 = false) (kk : ∀ B' T' M' ca' rm', T <+: T' → T'.length ≤ T.length + 1 → CK B' F N S M' ln T' dr K ca' rm' kc kl rk → RH B' T' ws wt G ids dir (sp_spec reg r x k y).2 seen π w dev sto → fr (fun y => ¬ F y) B B' → Q (sp_spec reg r x k y).1 B') : bm_Gi sc (d + 5) 149 [.ref 0, .int r, .int x, .int k, .int y] B Q := by
  show bm_G sc (d + 5) 149 0 [(0, .ref 0), (1, .int r), (2, .int x), (3, .int k), (4, .int y)] [] B _
  generalize elv : ([(0, .ref 0), (1, .int r), (2, .int x), (3, .int k), (4, .int y)] : tm_L) = lv
  have l0 : lv.lookup 0 = some (.ref 0) := by rw [← elv]; rfl
  have l1 : lv.lookup 1 = some (.int r) := by rw [← elv]; rfl
  have l2 : lv.lookup 2 = some (.int x) := by rw [← elv]; rfl
  have l3 : lv.lookup 3 = some (.int k) := by rw [← elv]; rfl
  have l4 : lv.lookup 4 = some (.int y) := by rw [← elv]; rfl
  clear elv
  refine g_ald (pc' := 1) cd_Ho_swap rfl (Or.inr ⟨_, rfl, rfl, rfl⟩) l0 rfl rfl ?_
  refine g_ild (pc' := 2) cd_Ho_swap rfl (Or.inr ⟨_, rfl, rfl, rfl⟩) l2 rfl ?_
  refine g_calli (pc' := 5) cd_Ho_swap rfl rfl rfl rfl rfl (tm_invV rfl rfl cd_Ho_held rfl (Nat.le_of_ble_eq_true rfl) (by decide) hH.1.1.1 hH.1.1.2) (t_held hC hH (fun h10 th10 => ?_))
  show bm_G _ _ _ 5 _ [.int h10] B _
  refine g_ist (pc' := 7) cd_Ho_swap rfl (Or.inl ⟨rfl, rfl⟩) (by decide) rfl (fun lv el => ?_)
  have l0 := tm_lk el l0 rfl (by decide)
  have l1 := tm_lk el l1 rfl (by decide)
  have l2 := tm_lk el l2 rfl (by decide)
  have l3 := tm_lk el l3 rfl (by decide)
  have l4 := tm_lk el l4 rfl (by decide)
  have l5 : lv.lookup 5 = some (.int h10) := tm_lks el
  clear el
  refine g_ald (pc' := 8) cd_Ho_swap rfl (Or.inr ⟨_, rfl, rfl, rfl⟩) l0 rfl rfl ?_
  refine g_ild (pc' := 10) cd_Ho_swap rfl (Or.inl ⟨rfl, rfl⟩) l4 rfl ?_
  refine g_calli (pc' := 13) cd_Ho_swap rfl rfl rfl rfl rfl (tm_invV rfl rfl cd_Ho_held rfl (Nat.le_of_ble_eq_true rfl) (by decide) hH.1.1.1 hH.1.1.2) (t_held hC hH (fun h11 th11 => ?_))
  show bm_G _ _ _ 13 _ [.int h11] B _
  refine g_ist (pc' := 15) cd_Ho_swap rfl (Or.inl ⟨rfl, rfl⟩) (by decide) rfl (fun lv el => ?_)
  have l0 := tm_lk el l0 rfl (by decide)
  have l1 := tm_lk el l1 rfl (by decide)
  have l2 := tm_lk el l2 rfl (by decide)
  have l3 := tm_lk el l3 rfl (by decide)
  have l4 := tm_lk el l4 rfl (by decide)
  have l5 := tm_lk el l5 rfl (by decide)
  have l6 : lv.lookup 6 = some (.int h11) := tm_lks el
  clear el
  refine g_ild (pc' := 16) cd_Ho_swap rfl (Or.inr ⟨_, rfl, rfl, rfl⟩) l1 rfl ?_
  refine g_calli (pc' := 19) cd_Ho_swap rfl rfl rfl rfl rfl (tm_invS rfl rfl cd_Ho_isRegister rfl (Nat.le_of_ble_eq_true rfl)) (t_isRegister ?_)
  show bm_G _ _ _ 19 _ [.int (bz (inR r 32))] B _
  refine g_if1 (t := 45) (pc' := 22) cd_Ho_swap rfl rfl rfl (fun c19 => ?_) (fun c19 => ?_)
  · have c19 : (inR r 32) = false := bz_f c19
    refine g_k1 (v := (-1)) (pc' := 46) cd_Ho_swap rfl (by decide) rfl ?_
    have eA : sp_spec reg r x k y = (-1, reg) := if_neg (fun q => absurd (c19.symm.trans q.1) (by decide))
    rw [eA] at kk
    exact g_reti cd_Ho_swap rfl ⟨_, rfl, (kk B T _ _ _ (List.prefix_refl T) (by omega) hC hH (fr_rfl _ B))⟩
  · have c19 : (inR r 32) = true := bz_t c19
    refine g_ald (pc' := 23) cd_Ho_swap rfl (Or.inr ⟨_, rfl, rfl, rfl⟩) l0 rfl rfl ?_
    refine g_fR (c := 11) (k := 0) (x := 1) (pc' := 26) cd_Ho_swap rfl rfl rfl rfl rfl (by decide) hH.1.1.1 hH.1.1.2 hH.1.2.1.1 ?_
    refine g_ild (pc' := 28) cd_Ho_swap rfl (Or.inl ⟨rfl, rfl⟩) l5 rfl ?_
    refine g_calli (pc' := 31) cd_Ho_swap rfl rfl rfl rfl rfl (tm_invV rfl rfl cd_Te_kindOf rfl (Nat.le_of_ble_eq_true rfl) (by decide) hC.1.1.1.1 hC.1.1.1.2) (t_kindOf hC.1 th10 ?_)
    show bm_G _ _ _ 31 _ [.int (kd (hl reg x))] B _
    refine g_k2 (v := 7) (pc' := 33) cd_Ho_swap rfl (by decide) rfl ?_
    refine g_if2 (t := 45) (pc' := 36) cd_Ho_swap rfl rfl rfl (fun c33 => ?_) (fun c33 => ?_)
    · have c33 : ¬ (kd (hl reg x)) = 7 := c33
      refine g_k1 (v := (-1)) (pc' := 46) cd_Ho_swap rfl (by decide) rfl ?_
      have eA : sp_spec reg r x k y = (-1, reg) := if_neg (fun q => c33 q.2.1)
      rw [eA] at kk
      exact g_reti cd_Ho_swap rfl ⟨_, rfl, (kk B T _ _ _ (List.prefix_refl T) (by omega) hC hH (fr_rfl _ B))⟩
    · have c33 : (kd (hl reg x)) = 7 := Classical.not_not.mp c33
      refine g_ild (pc' := 37) cd_Ho_swap rfl (Or.inr ⟨_, rfl, rfl, rfl⟩) l3 rfl ?_
      refine g_if1 (t := 45) (pc' := 40) cd_Ho_swap rfl rfl rfl (fun c37 => ?_) (fun c37 => ?_)
      · have c37 : k < 0 := c37
        refine g_k1 (v := (-1)) (pc' := 46) cd_Ho_swap rfl (by decide) rfl ?_
        have eA : sp_spec reg r x k y = (-1, reg) := if_neg (fun q => absurd (hk.symm.trans q.2.2.1) (by decide))
        rw [eA] at kk
        exact g_reti cd_Ho_swap rfl ⟨_, rfl, (kk B T _ _ _ (List.prefix_refl T) (by omega) hC hH (fr_rfl _ B))⟩
      · have c37 : ¬ k < 0 := c37
        refine g_ild (pc' := 41) cd_Ho_swap rfl (Or.inr ⟨_, rfl, rfl, rfl⟩) l3 rfl ?_
        refine g_k1 (v := 3) (pc' := 42) cd_Ho_swap rfl (by decide) rfl ?_
        refine g_if2 (t := 47) (pc' := 45) cd_Ho_swap rfl rfl rfl (fun c42 => ?_) (fun c42 => ?_)
        · have c42 : k ≤ 3 := c42
          exact absurd (inR_t (n := 4) c37 (fun q => absurd (Int32.lt_of_lt_of_le (show (3 : Int32) < 4 by decide) (Int32.le_trans q c42)) (Int32.lt_irrefl))) (by rw [hk]; decide)
        · have c42 : ¬ k ≤ 3 := c42
          refine g_k1 (v := (-1)) (pc' := 46) cd_Ho_swap rfl (by decide) rfl ?_
          have eA : sp_spec reg r x k y = (-1, reg) := if_neg (fun q => absurd (hk.symm.trans q.2.2.1) (by decide))
          rw [eA] at kk
          exact g_reti cd_Ho_swap rfl ⟨_, rfl, (kk B T _ _ _ (List.prefix_refl T) (by omega) hC hH (fr_rfl _ B))⟩
theorem t_swap {sc : tm_X} {d : Nat} {B : bm_H} {F : Nat → Prop} {N S M ln : Nat} {T : List Tm} {dr : Nat} {K : Tm → Prop} {ca rm kc kl rk : Nat} {ws : List (Tm × Int32)} {wt : List Tm} {G : LG} {ids dir reg : Nat → Tm} {seen : List Tm} {π : Nat → Nat} {w : Nat → SW} {dev : Nat → DV} {sto : Nat → ST} {r x k y : Int32} {Q : Int32 → bm_H → Prop} (hC : CK B F N S M ln T dr K ca rm kc kl rk) (hH : RH B T ws wt G ids dir reg seen π w dev sto) (hTl : T.length ≤ 30000) (kk : ∀ B' T' M' ca' rm', T <+: T' → T'.length ≤ T.length + 1 → CK B' F N S M' ln T' dr K ca' rm' kc kl rk → RH B' T' ws wt G ids dir (sp_spec reg r x k y).2 seen π w dev sto → fr (fun y => ¬ F y) B B' → Q (sp_spec reg r x k y).1 B') : bm_Gi sc (d + 5) 149 [.ref 0, .int r, .int x, .int k, .int y] B Q := by
  cases c : inR k 4 with
  | false => exact t_swapC hC hH hTl c kk
  | true =>
    obtain ⟨i, hi, rfl⟩ := inR_of (n := 4) (by decide) c
    exact t_swapA hC hH hTl hi kk
set_option maxRecDepth 100000 in
theorem t_plantA {sc : tm_X} {d : Nat} {B : bm_H} {F : Nat → Prop} {N S M ln : Nat} {T : List Tm} {dr : Nat} {K : Tm → Prop} {ca rm kc kl rk : Nat} {ws : List (Tm × Int32)} {wt : List Tm} {G : LG} {ids dir reg : Nat → Tm} {seen : List Tm} {π : Nat → Nat} {w : Nat → SW} {dev : Nat → DV} {sto : Nat → ST} {p j : Nat} {r : Int32} {Q : Int32 → bm_H → Prop} (hC : CK B F N S M ln T dr K ca rm kc kl rk) (hH : RH B T ws wt G ids dir reg seen π w dev sto) (hp : p < 6) (hj : j < 5) (kk : ∀ B', CK B' F N S M ln T dr K ca rm kc kl rk → RH B' T ws wt G ids (pl_spec reg dir (nI p) (nI j) r).2 reg seen π w dev sto → fr (fun y => ¬ F y) B B' → Q (pl_spec reg dir (nI p) (nI j) r).1 B') : bm_Gi sc (d + 3) 151 [.ref 0, .int (nI p), .int (nI j), .int r] B Q := by
  show bm_G sc (d + 3) 151 0 [(0, .ref 0), (1, .int (nI p)), (2, .int (nI j)), (3, .int r)] [] B _
  generalize elv : ([(0, .ref 0), (1, .int (nI p)), (2, .int (nI j)), (3, .int r)] : tm_L) = lv
  have l0 : lv.lookup 0 = some (.ref 0) := by rw [← elv]; rfl
  have l1 : lv.lookup 1 = some (.int (nI p)) := by rw [← elv]; rfl
  have l2 : lv.lookup 2 = some (.int (nI j)) := by rw [← elv]; rfl
  have l3 : lv.lookup 3 = some (.int r) := by rw [← elv]; rfl
  clear elv
  refine g_ald (pc' := 1) cd_Ho_plant rfl (Or.inr ⟨_, rfl, rfl, rfl⟩) l0 rfl rfl ?_
  refine g_ild (pc' := 2) cd_Ho_plant rfl (Or.inr ⟨_, rfl, rfl, rfl⟩) l3 rfl ?_
  refine g_calli (pc' := 5) cd_Ho_plant rfl rfl rfl rfl rfl (tm_invV rfl rfl cd_Ho_held rfl (Nat.le_of_ble_eq_true rfl) (by decide) hH.1.1.1 hH.1.1.2) (t_held hC hH (fun h12 th12 => ?_))
  show bm_G _ _ _ 5 _ [.int h12] B _
  refine g_ist (pc' := 7) cd_Ho_plant rfl (Or.inl ⟨rfl, rfl⟩) (by decide) rfl (fun lv el => ?_)
  have l0 := tm_lk el l0 rfl (by decide)
  have l1 := tm_lk el l1 rfl (by decide)
  have l2 := tm_lk el l2 rfl (by decide)
  have l3 := tm_lk el l3 rfl (by decide)
  have l4 : lv.lookup 4 = some (.int h12) := tm_lks el
  clear el
  refine g_ild (pc' := 8) cd_Ho_plant rfl (Or.inr ⟨_, rfl, rfl, rfl⟩) l1 rfl ?_
  refine g_calli (pc' := 11) cd_Ho_plant rfl rfl rfl rfl rfl (tm_invS rfl rfl cd_Ho_isDevice rfl (Nat.le_of_ble_eq_true rfl)) (t_isDevice ?_)
  show bm_G _ _ _ 11 _ [.int (bz (inR (nI p) 6))] B _
  refine g_if1 (t := 33) (pc' := 14) cd_Ho_plant rfl rfl rfl (fun c11 => ?_) (fun c11 => ?_)
  · have c11 : (inR (nI p) 6) = false := bz_f c11
    exact absurd c11 (by rw [show inR (nI p) 6 = true from inR_nI hp (by decide)]; decide)
  · have c11 : (inR (nI p) 6) = true := bz_t c11
    refine g_ild (pc' := 15) cd_Ho_plant rfl (Or.inr ⟨_, rfl, rfl, rfl⟩) l2 rfl ?_
    refine g_if1 (t := 33) (pc' := 18) cd_Ho_plant rfl rfl rfl (fun c15 => ?_) (fun c15 => ?_)
    · have c15 : (nI j) < 0 := c15
      exact absurd c15 (nI_pos (by omega))
    · have c15 : ¬ (nI j) < 0 := c15
      refine g_ild (pc' := 19) cd_Ho_plant rfl (Or.inr ⟨_, rfl, rfl, rfl⟩) l2 rfl ?_
      refine g_k1 (v := 5) (pc' := 20) cd_Ho_plant rfl (by decide) rfl ?_
      refine g_if2 (t := 33) (pc' := 23) cd_Ho_plant rfl rfl rfl (fun c20 => ?_) (fun c20 => ?_)
      · have c20 : (5 : Int32) ≤ (nI j) := c20
        exact absurd c20 (nI_ge (b := 5) hj (by decide))
      · have c20 : ¬ (5 : Int32) ≤ (nI j) := c20
        refine g_ild (pc' := 25) cd_Ho_plant rfl (Or.inl ⟨rfl, rfl⟩) l4 rfl ?_
        refine g_if1 (t := 35) (pc' := 28) cd_Ho_plant rfl rfl rfl (fun c25 => ?_) (fun c25 => ?_)
        · have c25 : ¬ h12 = 0 := c25
          refine g_ald (pc' := 36) cd_Ho_plant rfl (Or.inr ⟨_, rfl, rfl, rfl⟩) l0 rfl rfl ?_
          refine g_fR (c := 11) (k := 7) (x := 22) (pc' := 39) cd_Ho_plant rfl rfl rfl rfl rfl (by decide) hH.1.1.1 hH.1.1.2 hH.1.2.1.2.2.2.2.2.2.2.1 ?_
          refine g_ild (pc' := 40) cd_Ho_plant rfl (Or.inr ⟨_, rfl, rfl, rfl⟩) l1 rfl ?_
          refine g_k1 (v := 5) (pc' := 41) cd_Ho_plant rfl (by decide) rfl ?_
          refine g_pure (pc' := 42) (st' := [.int ((nI p) * 5), .ref 22]) cd_Ho_plant rfl rfl (fun _ _ => rfl) ?_
          rw [show ((nI p) * 5 : Int32) = nI (p * 5) from pk_mul p 5]
          refine g_ild (pc' := 43) cd_Ho_plant rfl (Or.inr ⟨_, rfl, rfl, rfl⟩) l2 rfl ?_
          refine g_pure (pc' := 44) (st' := [.int ((nI (p * 5)) + (nI j)), .ref 22]) cd_Ho_plant rfl rfl (fun _ _ => rfl) ?_
          rw [show ((nI (p * 5)) + (nI j) : Int32) = nI ((p * 5) + j) from nI_add (p * 5) j]
          refine g_ild (pc' := 46) cd_Ho_plant rfl (Or.inl ⟨rfl, rfl⟩) l4 rfl ?_
          refine g_iast (pc' := 47) cd_Ho_plant rfl rfl hH.1.2.2.2.2.2.1.1 hH.1.2.2.2.2.2.1.2.1 (by rw [show bm_AL B 22 = 30 from hH.1.2.2.2.2.2.1.2.2]; exact vp_in_nI (by omega) (by decide)) ?_
          rw [show (nI ((p * 5) + j) : Int32).toNatClampNeg = ((p * 5) + j) from nI_clamp (by omega)]
          have A13 : bm_AI (bm_setI B 22 ((p * 5) + j) h12) 22 = (upd (bm_AI B 22) ((p * 5) + j) h12) := ((AI_set B 22 ((p * 5) + j) h12).trans (congrArg (fun f => upd f ((p * 5) + j) h12) (show bm_AI B 22 = (bm_AI B 22) from rfl)))
          have Z14 : fz (fun y => y = 22) B (bm_setI B 22 ((p * 5) + j) h12) := fz_trans (fz_rfl _ B) ⟨fr_mono (fun _ q => q) (fr_setI _ 22 _ _), rfl, rfl⟩
          have hz1 := Z14
          have hH1 := RH_dir hH hz1.1 (fun y q => q.2) (List.prefix_refl T) (RA_set hH.2.2.2.1.2.1 A13 th12)
          have hC1 := CK_cls hC hz1 (fun y q => by omega)
          generalize (bm_setI B 22 ((p * 5) + j) h12) = B1 at hz1 hH1 hC1 ⊢
          refine g_k1 (v := 1) (pc' := 48) cd_Ho_plant rfl (by decide) rfl ?_
          have eA : pl_spec reg dir (nI p) (nI j) r = (1, fset dir (p * 5 + j) (hl reg r)) := by unfold pl_spec; rw [if_pos ⟨inR_nI hp (by decide), inR_nI hj (by decide), Or.inl (tnil_f (fun q => c25 ((TI_0 hC.1 th12).mpr q)))⟩, nI_clamp (by omega), nI_clamp (by omega)]
          rw [eA] at kk
          exact g_reti cd_Ho_plant rfl ⟨_, rfl, (kk B1 hC1 hH1 (fr_mono (fun y q => nF_lo hC (by omega)) hz1.1))⟩
        · have c25 : h12 = 0 := Classical.not_not.mp c25
          refine g_ild (pc' := 29) cd_Ho_plant rfl (Or.inr ⟨_, rfl, rfl, rfl⟩) l3 rfl ?_
          refine g_k1 (v := (-1)) (pc' := 30) cd_Ho_plant rfl (by decide) rfl ?_
          refine g_if2 (t := 35) (pc' := 33) cd_Ho_plant rfl rfl rfl (fun c30 => ?_) (fun c30 => ?_)
          · have c30 : r = (-1) := c30
            refine g_ald (pc' := 36) cd_Ho_plant rfl (Or.inr ⟨_, rfl, rfl, rfl⟩) l0 rfl rfl ?_
            refine g_fR (c := 11) (k := 7) (x := 22) (pc' := 39) cd_Ho_plant rfl rfl rfl rfl rfl (by decide) hH.1.1.1 hH.1.1.2 hH.1.2.1.2.2.2.2.2.2.2.1 ?_
            refine g_ild (pc' := 40) cd_Ho_plant rfl (Or.inr ⟨_, rfl, rfl, rfl⟩) l1 rfl ?_
            refine g_k1 (v := 5) (pc' := 41) cd_Ho_plant rfl (by decide) rfl ?_
            refine g_pure (pc' := 42) (st' := [.int ((nI p) * 5), .ref 22]) cd_Ho_plant rfl rfl (fun _ _ => rfl) ?_
            rw [show ((nI p) * 5 : Int32) = nI (p * 5) from pk_mul p 5]
            refine g_ild (pc' := 43) cd_Ho_plant rfl (Or.inr ⟨_, rfl, rfl, rfl⟩) l2 rfl ?_
            refine g_pure (pc' := 44) (st' := [.int ((nI (p * 5)) + (nI j)), .ref 22]) cd_Ho_plant rfl rfl (fun _ _ => rfl) ?_
            rw [show ((nI (p * 5)) + (nI j) : Int32) = nI ((p * 5) + j) from nI_add (p * 5) j]
            refine g_ild (pc' := 46) cd_Ho_plant rfl (Or.inl ⟨rfl, rfl⟩) l4 rfl ?_
            refine g_iast (pc' := 47) cd_Ho_plant rfl rfl hH.1.2.2.2.2.2.1.1 hH.1.2.2.2.2.2.1.2.1 (by rw [show bm_AL B 22 = 30 from hH.1.2.2.2.2.2.1.2.2]; exact vp_in_nI (by omega) (by decide)) ?_
            rw [show (nI ((p * 5) + j) : Int32).toNatClampNeg = ((p * 5) + j) from nI_clamp (by omega)]
            have A15 : bm_AI (bm_setI B 22 ((p * 5) + j) h12) 22 = (upd (bm_AI B 22) ((p * 5) + j) h12) := ((AI_set B 22 ((p * 5) + j) h12).trans (congrArg (fun f => upd f ((p * 5) + j) h12) (show bm_AI B 22 = (bm_AI B 22) from rfl)))
            have Z16 : fz (fun y => y = 22) B (bm_setI B 22 ((p * 5) + j) h12) := fz_trans (fz_rfl _ B) ⟨fr_mono (fun _ q => q) (fr_setI _ 22 _ _), rfl, rfl⟩
            have hz1 := Z16
            have hH1 := RH_dir hH hz1.1 (fun y q => q.2) (List.prefix_refl T) (RA_set hH.2.2.2.1.2.1 A15 th12)
            have hC1 := CK_cls hC hz1 (fun y q => by omega)
            generalize (bm_setI B 22 ((p * 5) + j) h12) = B1 at hz1 hH1 hC1 ⊢
            refine g_k1 (v := 1) (pc' := 48) cd_Ho_plant rfl (by decide) rfl ?_
            have eA : pl_spec reg dir (nI p) (nI j) r = (1, fset dir (p * 5 + j) (hl reg r)) := by unfold pl_spec; rw [if_pos ⟨inR_nI hp (by decide), inR_nI hj (by decide), Or.inr c30⟩, nI_clamp (by omega), nI_clamp (by omega)]
            rw [eA] at kk
            exact g_reti cd_Ho_plant rfl ⟨_, rfl, (kk B1 hC1 hH1 (fr_mono (fun y q => nF_lo hC (by omega)) hz1.1))⟩
          · have c30 : ¬ r = (-1) := c30
            refine g_k1 (v := (-1)) (pc' := 34) cd_Ho_plant rfl (by decide) rfl ?_
            have eA : pl_spec reg dir (nI p) (nI j) r = (-1, dir) := if_neg (fun q => q.2.2.elim (fun q => absurd (q.symm.trans (tnil_iff.mpr ((TI_0 hC.1 th12).mp c25))) (by decide)) c30)
            rw [eA] at kk
            exact g_reti cd_Ho_plant rfl ⟨_, rfl, (kk B hC hH (fr_rfl _ B))⟩
set_option maxRecDepth 100000 in
theorem t_plantC {sc : tm_X} {d : Nat} {B : bm_H} {F : Nat → Prop} {N S M ln : Nat} {T : List Tm} {dr : Nat} {K : Tm → Prop} {ca rm kc kl rk : Nat} {ws : List (Tm × Int32)} {wt : List Tm} {G : LG} {ids dir reg : Nat → Tm} {seen : List Tm} {π : Nat → Nat} {w : Nat → SW} {dev : Nat → DV} {sto : Nat → ST} {p a r : Int32} {Q : Int32 → bm_H → Prop} (hC : CK B F N S M ln T dr K ca rm kc kl rk) (hH : RH B T ws wt G ids dir reg seen π w dev sto) (hk : inR p 6 = false ∨ inR a 5 = false) (kk : ∀ B', CK B' F N S M ln T dr K ca rm kc kl rk → RH B' T ws wt G ids (pl_spec reg dir p a r).2 reg seen π w dev sto → fr (fun y => ¬ F y) B B' → Q (pl_spec reg dir p a r).1 B') : bm_Gi sc (d + 3) 151 [.ref 0, .int p, .int a, .int r] B Q := by
  show bm_G sc (d + 3) 151 0 [(0, .ref 0), (1, .int p), (2, .int a), (3, .int r)] [] B _
  generalize elv : ([(0, .ref 0), (1, .int p), (2, .int a), (3, .int r)] : tm_L) = lv
  have l0 : lv.lookup 0 = some (.ref 0) := by rw [← elv]; rfl
  have l1 : lv.lookup 1 = some (.int p) := by rw [← elv]; rfl
  have l2 : lv.lookup 2 = some (.int a) := by rw [← elv]; rfl
  have l3 : lv.lookup 3 = some (.int r) := by rw [← elv]; rfl
  clear elv
  refine g_ald (pc' := 1) cd_Ho_plant rfl (Or.inr ⟨_, rfl, rfl, rfl⟩) l0 rfl rfl ?_
  refine g_ild (pc' := 2) cd_Ho_plant rfl (Or.inr ⟨_, rfl, rfl, rfl⟩) l3 rfl ?_
  refine g_calli (pc' := 5) cd_Ho_plant rfl rfl rfl rfl rfl (tm_invV rfl rfl cd_Ho_held rfl (Nat.le_of_ble_eq_true rfl) (by decide) hH.1.1.1 hH.1.1.2) (t_held hC hH (fun h17 th17 => ?_))
  show bm_G _ _ _ 5 _ [.int h17] B _
  refine g_ist (pc' := 7) cd_Ho_plant rfl (Or.inl ⟨rfl, rfl⟩) (by decide) rfl (fun lv el => ?_)
  have l0 := tm_lk el l0 rfl (by decide)
  have l1 := tm_lk el l1 rfl (by decide)
  have l2 := tm_lk el l2 rfl (by decide)
  have l3 := tm_lk el l3 rfl (by decide)
  have l4 : lv.lookup 4 = some (.int h17) := tm_lks el
  clear el
  refine g_ild (pc' := 8) cd_Ho_plant rfl (Or.inr ⟨_, rfl, rfl, rfl⟩) l1 rfl ?_
  refine g_calli (pc' := 11) cd_Ho_plant rfl rfl rfl rfl rfl (tm_invS rfl rfl cd_Ho_isDevice rfl (Nat.le_of_ble_eq_true rfl)) (t_isDevice ?_)
  show bm_G _ _ _ 11 _ [.int (bz (inR p 6))] B _
  refine g_if1 (t := 33) (pc' := 14) cd_Ho_plant rfl rfl rfl (fun c11 => ?_) (fun c11 => ?_)
  · have c11 : (inR p 6) = false := bz_f c11
    refine g_k1 (v := (-1)) (pc' := 34) cd_Ho_plant rfl (by decide) rfl ?_
    have eA : pl_spec reg dir p a r = (-1, dir) := if_neg (fun q => absurd (c11.symm.trans q.1) (by decide))
    rw [eA] at kk
    exact g_reti cd_Ho_plant rfl ⟨_, rfl, (kk B hC hH (fr_rfl _ B))⟩
  · have c11 : (inR p 6) = true := bz_t c11
    refine g_ild (pc' := 15) cd_Ho_plant rfl (Or.inr ⟨_, rfl, rfl, rfl⟩) l2 rfl ?_
    refine g_if1 (t := 33) (pc' := 18) cd_Ho_plant rfl rfl rfl (fun c15 => ?_) (fun c15 => ?_)
    · have c15 : a < 0 := c15
      refine g_k1 (v := (-1)) (pc' := 34) cd_Ho_plant rfl (by decide) rfl ?_
      have eA : pl_spec reg dir p a r = (-1, dir) := if_neg (fun q => absurd (q.2.1.symm.trans (inR_lo c15)) (by decide))
      rw [eA] at kk
      exact g_reti cd_Ho_plant rfl ⟨_, rfl, (kk B hC hH (fr_rfl _ B))⟩
    · have c15 : ¬ a < 0 := c15
      refine g_ild (pc' := 19) cd_Ho_plant rfl (Or.inr ⟨_, rfl, rfl, rfl⟩) l2 rfl ?_
      refine g_k1 (v := 5) (pc' := 20) cd_Ho_plant rfl (by decide) rfl ?_
      refine g_if2 (t := 33) (pc' := 23) cd_Ho_plant rfl rfl rfl (fun c20 => ?_) (fun c20 => ?_)
      · have c20 : (5 : Int32) ≤ a := c20
        refine g_k1 (v := (-1)) (pc' := 34) cd_Ho_plant rfl (by decide) rfl ?_
        have eA : pl_spec reg dir p a r = (-1, dir) := if_neg (fun q => absurd (q.2.1.symm.trans (inR_hi c20)) (by decide))
        rw [eA] at kk
        exact g_reti cd_Ho_plant rfl ⟨_, rfl, (kk B hC hH (fr_rfl _ B))⟩
      · have c20 : ¬ (5 : Int32) ≤ a := c20
        exact hk.elim (fun q => absurd (q.symm.trans c11) (by decide)) (fun q => absurd (q.symm.trans (inR_t c15 c20)) (by decide))
theorem t_plant {sc : tm_X} {d : Nat} {B : bm_H} {F : Nat → Prop} {N S M ln : Nat} {T : List Tm} {dr : Nat} {K : Tm → Prop} {ca rm kc kl rk : Nat} {ws : List (Tm × Int32)} {wt : List Tm} {G : LG} {ids dir reg : Nat → Tm} {seen : List Tm} {π : Nat → Nat} {w : Nat → SW} {dev : Nat → DV} {sto : Nat → ST} {p a r : Int32} {Q : Int32 → bm_H → Prop} (hC : CK B F N S M ln T dr K ca rm kc kl rk) (hH : RH B T ws wt G ids dir reg seen π w dev sto) (kk : ∀ B', CK B' F N S M ln T dr K ca rm kc kl rk → RH B' T ws wt G ids (pl_spec reg dir p a r).2 reg seen π w dev sto → fr (fun y => ¬ F y) B B' → Q (pl_spec reg dir p a r).1 B') : bm_Gi sc (d + 3) 151 [.ref 0, .int p, .int a, .int r] B Q := by
  cases c : inR p 6 with
  | false => exact t_plantC hC hH (Or.inl c) kk
  | true =>
    cases c2 : inR a 5 with
    | false => exact t_plantC hC hH (Or.inr c2) kk
    | true =>
      obtain ⟨i, hi, rfl⟩ := inR_of (n := 6) (by decide) c
      obtain ⟨j, hj, rfl⟩ := inR_of (n := 5) (by decide) c2
      exact t_plantA hC hH hi hj kk
set_option maxRecDepth 100000 in
theorem t_draw {sc : tm_X} {d : Nat} {B : bm_H} {F : Nat → Prop} {N S M ln : Nat} {T : List Tm} {dr : Nat} {K : Tm → Prop} {ca rm kc kl rk : Nat} {ws : List (Tm × Int32)} {wt : List Tm} {G : LG} {ids dir reg : Nat → Tm} {seen : List Tm} {π : Nat → Nat} {w : Nat → SW} {dev : Nat → DV} {sto : Nat → ST} {p : Nat} {Q : Int32 → bm_H → Prop} (hC : CK B F N S M ln T dr K ca rm kc kl rk) (hH : RH B T ws wt G ids dir reg seen π w dev sto) (hdr : dr ≤ 2960) (hws : ws.length ≤ 692) (hTl : T.length ≤ 30000) (hp : p < 32) (kk : ∀ B' M' ca' rm' kc' kl' rk' T', T <+: T' → T'.length ≤ T.length + 2 → CK B' F N S M' T'.length T' (dr + 1) (fun y => K y ∨ y = (Tsec (nI dr) 6 0)) ca' rm' kc' kl' rk' → RH B' T' ws wt G ids dir (fset reg p (Tsec (nI dr) 6 0)) seen π w dev sto → fr (fun y => ¬ F y) B B' → Q 1 B') : bm_Gi sc (d + 4) 136 [.ref 0, .int (nI p)] B Q := by
  show bm_G sc (d + 4) 136 0 [(0, .ref 0), (1, .int (nI p))] [] B _
  generalize elv : ([(0, .ref 0), (1, .int (nI p))] : tm_L) = lv
  have l0 : lv.lookup 0 = some (.ref 0) := by rw [← elv]; rfl
  have l1 : lv.lookup 1 = some (.int (nI p)) := by rw [← elv]; rfl
  clear elv
  refine g_ild (pc' := 1) cd_Ho_draw rfl (Or.inr ⟨_, rfl, rfl, rfl⟩) l1 rfl ?_
  refine g_calli (pc' := 4) cd_Ho_draw rfl rfl rfl rfl rfl (tm_invS rfl rfl cd_Ho_isRegister rfl (Nat.le_of_ble_eq_true rfl)) (t_isRegister ?_)
  show bm_G _ _ _ 4 _ [.int (bz (inR (nI p) 32))] B _
  refine g_if1 (t := 9) (pc' := 7) cd_Ho_draw rfl rfl rfl (fun c4 => ?_) (fun c4 => ?_)
  · have c4 : (inR (nI p) 32) = true := bz_t c4
    refine g_ald (pc' := 10) cd_Ho_draw rfl (Or.inr ⟨_, rfl, rfl, rfl⟩) l0 rfl rfl ?_
    refine g_calli (pc' := 13) cd_Ho_draw rfl rfl rfl rfl rfl (tm_invV rfl rfl cd_Ho_isFull rfl (Nat.le_of_ble_eq_true rfl) (by decide) hH.1.1.1 hH.1.1.2) (t_isFull hC hH hdr hws hTl (fun B1 ca1 rm1 hC1 hH1 hf1 => ?_))
    have hrm1 := hC1.2.2.2.2.1.2
    show bm_G _ _ _ 13 _ [.int 0] B1 _
    refine g_if1 (t := 19) (pc' := 16) cd_Ho_draw rfl rfl rfl (fun c13 => ?_) (fun c13 => ?_)
    · have c13 : (0 : Int32) = 0 := c13
      refine g_ald (pc' := 20) cd_Ho_draw rfl (Or.inr ⟨_, rfl, rfl, rfl⟩) l0 rfl rfl ?_
      refine g_fR (c := 11) (k := 0) (x := 1) (pc' := 23) cd_Ho_draw rfl rfl rfl rfl rfl (by decide) hH1.1.1.1 hH1.1.1.2 hH1.1.2.1.1 ?_
      refine g_k2 (v := 6) (pc' := 25) cd_Ho_draw rfl (by decide) rfl ?_
      refine g_k1 (v := 0) (pc' := 26) cd_Ho_draw rfl (by decide) rfl ?_
      refine g_calli (pc' := 29) cd_Ho_draw rfl rfl rfl rfl rfl (tm_invV rfl rfl cd_Te_secret rfl (Nat.le_of_ble_eq_true rfl) (by decide) hC1.1.1.1.1 hC1.1.1.1.2) (t_secret (xd := 6) (xp := 0) hC1.1 (by omega) (by omega) (fun B2 r2 hx2 ht2 => ?_))
      have hz2 := fz_te hx2.2.2.2
      have hC2 := CK_made hC1 hx2.2.2.1 hx2.1 hz2 (fun y q => Or.inl q)
      have hH2 := RH_te hC1 hH1 hz2 hx2.1
      obtain ⟨T2, eT2⟩ : ∃ Tx, Tx = T ++ [(Tsec (nI dr) 6 0), Tpub (Tsec (nI dr) 6 0)] := ⟨_, rfl⟩
      have hl2 := hx2.2.1
      have hp2 := hx2.1
      rw [← eT2] at hC2 hH2 ht2 hl2 hp2
      show bm_G _ _ _ 29 _ [.int r2] B2 _
      refine g_ist (pc' := 30) cd_Ho_draw rfl (Or.inr ⟨_, rfl, rfl, rfl⟩) (by decide) rfl (fun lv el => ?_)
      have l0 := tm_lk el l0 rfl (by decide)
      have l1 := tm_lk el l1 rfl (by decide)
      have l2 : lv.lookup 2 = some (.int r2) := tm_lks el
      clear el
      refine g_ald (pc' := 31) cd_Ho_draw rfl (Or.inr ⟨_, rfl, rfl, rfl⟩) l0 rfl rfl ?_
      refine g_fR (c := 11) (k := 1) (x := 5) (pc' := 34) cd_Ho_draw rfl rfl rfl rfl rfl (by decide) hH2.1.1.1 hH2.1.1.2 hH2.1.2.1.2.1 ?_
      refine g_ild (pc' := 35) cd_Ho_draw rfl (Or.inr ⟨_, rfl, rfl, rfl⟩) l2 rfl ?_
      refine g_callv (pc' := 38) cd_Ho_draw rfl rfl rfl rfl rfl (tm_invV rfl rfl cd_Kn_give rfl (Nat.le_of_ble_eq_true rfl) (by decide) (CK_5 hC2).1 (CK_5 hC2).2) (t_giveC hC2 ht2 (fun B3 kc3 kl3 rk3 hC3 hf3 => ?_))
      have hH3 := RH_xc hH2 hf3 (List.prefix_refl T2)
      show bm_G _ _ _ 38 _ [] B3 _
      refine g_ald (pc' := 39) cd_Ho_draw rfl (Or.inr ⟨_, rfl, rfl, rfl⟩) l0 rfl rfl ?_
      refine g_ild (pc' := 40) cd_Ho_draw rfl (Or.inr ⟨_, rfl, rfl, rfl⟩) l1 rfl ?_
      refine g_ild (pc' := 41) cd_Ho_draw rfl (Or.inr ⟨_, rfl, rfl, rfl⟩) l2 rfl ?_
      refine g_calli (pc' := 44) cd_Ho_draw rfl rfl rfl rfl rfl (tm_invV rfl rfl cd_Ho_keep rfl (Nat.le_of_ble_eq_true rfl) (by decide) hH3.1.1.1 hH3.1.1.2) (t_keep1 hC3 hH3 hp ht2 (fun e => absurd e tn_ne) (fun BQ _ hCQ hHQ hzQ => ?_))
      show bm_G _ _ _ 44 _ [.int 1] BQ _
      exact g_reti cd_Ho_draw rfl ⟨_, rfl, (kk BQ _ ca1 rm1 kc3 kl3 rk3 T2 hp2 hl2 hCQ hHQ (fr_trans (fr_trans (fr_mono (fun y q => nF_lo hC (by omega)) hf1) (fr_mono (fun y q => nF_tcs hC1 q) hz2.1)) (fr_trans (fr_mono (fun y q => nF_xc hC q) hf3) (fr_mono (fun y q => nF_lo hC (by omega)) hzQ.1))))⟩
    · exact absurd (show ¬ (0 : Int32) = 0 from c13) (by decide)
  · have c4 : (inR (nI p) 32) = false := bz_f (Classical.not_not.mp c4)
    exact absurd c4 (by rw [show inR (nI p) 32 = true from inR_nI hp (by decide)]; decide)
set_option maxRecDepth 100000 in
theorem t_draw0 {sc : tm_X} {d : Nat} {B : bm_H} {F : Nat → Prop} {N S M ln : Nat} {T : List Tm} {dr : Nat} {K : Tm → Prop} {ca rm kc kl rk : Nat} {ws : List (Tm × Int32)} {wt : List Tm} {G : LG} {ids dir reg : Nat → Tm} {seen : List Tm} {π : Nat → Nat} {w : Nat → SW} {dev : Nat → DV} {sto : Nat → ST} {r : Int32} {Q : Int32 → bm_H → Prop} (hC : CK B F N S M ln T dr K ca rm kc kl rk) (hH : RH B T ws wt G ids dir reg seen π w dev sto) (hr : inR r 32 = false) (kk : Q (-1) B) : bm_Gi sc (d + 4) 136 [.ref 0, .int r] B Q := by
  show bm_G sc (d + 4) 136 0 [(0, .ref 0), (1, .int r)] [] B _
  generalize elv : ([(0, .ref 0), (1, .int r)] : tm_L) = lv
  have l0 : lv.lookup 0 = some (.ref 0) := by rw [← elv]; rfl
  have l1 : lv.lookup 1 = some (.int r) := by rw [← elv]; rfl
  clear elv
  refine g_ild (pc' := 1) cd_Ho_draw rfl (Or.inr ⟨_, rfl, rfl, rfl⟩) l1 rfl ?_
  refine g_calli (pc' := 4) cd_Ho_draw rfl rfl rfl rfl rfl (tm_invS rfl rfl cd_Ho_isRegister rfl (Nat.le_of_ble_eq_true rfl)) (t_isRegister ?_)
  show bm_G _ _ _ 4 _ [.int (bz (inR r 32))] B _
  refine g_if1 (t := 9) (pc' := 7) cd_Ho_draw rfl rfl rfl (fun c4 => ?_) (fun c4 => ?_)
  · have c4 : (inR r 32) = true := bz_t c4
    exact absurd (c4.symm.trans hr) (by decide)
  · have c4 : (inR r 32) = false := bz_f (Classical.not_not.mp c4)
    refine g_k1 (v := (-1)) (pc' := 8) cd_Ho_draw rfl (by decide) rfl ?_
    exact g_reti cd_Ho_draw rfl ⟨_, rfl, kk⟩
