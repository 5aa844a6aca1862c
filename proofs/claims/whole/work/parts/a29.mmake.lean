/-! The reference: make -/
theorem co_out {reg : Nat → Tm} {a y : Int32} {X : Tm} (h : a < 0 ∨ ¬ a ≤ 12) : co_spec reg a X y = tz := by
  have h10 : inR a 10 = false := h.elim inR_lo (fun q => inR_hi (Int32.le_of_lt (Int32.lt_trans (show (10 : Int32) < 12 by decide) (Int32.not_le.mp q))))
  have n10 : ¬ a = 10 := fun e => by rw [e] at h; exact absurd h (by decide)
  have n11 : ¬ a = 11 := fun e => by rw [e] at h; exact absurd h (by decide)
  have n12 : ¬ (a = 12 ∧ tnil (hl reg y) = false) := fun e => by rw [e.1] at h; exact absurd h (by decide)
  unfold co_spec
  rw [if_neg (fun q => Bool.noConfusion (h10.symm.trans q)), if_neg n10, if_neg n11, if_neg n12]
  split <;> rfl
theorem a_11 {a : Int32} (h1 : 10 ≤ a) (h2 : a ≤ 12) (n10 : ¬ a = 10) (n12 : ¬ a = 12) : a = 11 := by
  have g1 : (10 : Int) ≤ a.toInt := Int32.le_iff_toInt_le.mp h1
  have g2 : a.toInt ≤ (12 : Int) := Int32.le_iff_toInt_le.mp h2
  have g3 : a.toInt ≠ (10 : Int) := fun e => n10 (Int32.toInt_inj.mp e)
  have g4 : a.toInt ≠ (12 : Int) := fun e => n12 (Int32.toInt_inj.mp e)
  exact Int32.toInt_inj.mp (show a.toInt = (11 : Int) by omega)
theorem mk_no {reg : Nat → Tm} {r a x y : Int32} (h : inR r 32 = false) : mk_spec reg r a x y = (-1, reg) := if_neg (fun q => Bool.noConfusion (h.symm.trans q.1))
theorem mk_nx {reg : Nat → Tm} {r a x y : Int32} (h : hl reg x = tz) : mk_spec reg r a x y = (-1, reg) := if_neg (fun q => by rw [h] at q; exact absurd q.2 (by decide))
theorem mk_in {reg : Nat → Tm} {r a y : Int32} {i : Nat} (h : inR r 32 = true) (hi : i < 32) (nz : reg i ≠ tz) : mk_spec reg r a (nI i) y = kp reg r (co_spec reg a (reg i) y) := by
  unfold mk_spec
  rw [hl_in hi, if_pos ⟨h, tnil_f nz⟩]
theorem co_n1 {reg : Nat → Tm} {a y : Int32} {X : Tm} (h : 10 ≤ a) (hk : ¬ kd X = 1) : co_spec reg a X y = tz := by
  unfold co_spec
  rw [if_neg (fun q => Bool.noConfusion ((inR_hi h).symm.trans q)), if_neg hk]
theorem co_ny {reg : Nat → Tm} {a y : Int32} {X : Tm} (h : 10 ≤ a) (n10 : ¬ a = 10) (hy : hl reg y = tz) : co_spec reg a X y = tz := by
  unfold co_spec
  rw [if_neg (fun q => Bool.noConfusion ((inR_hi h).symm.trans q)), if_neg n10, hy, if_neg (show ¬ kd tz = 2 by decide), if_neg (show ¬ (a = 12 ∧ tnil tz = false) from fun q => absurd q.2 (by decide))]
  split
  · split <;> rfl
  · rfl
set_option maxRecDepth 100000 in
theorem mo_make {sc : tm_X} {d : Nat} {f : Nat → Int32} {A : Nat → Nat → Int32} {T : List Tm} {DL : List (Int32 × Int32)} {G Kw : Tm → Prop} {reg : Nat → Tm} {r a x y : Int32} {Q : Int32 → MS → Prop} (hM : MT f A T DL G Kw) (hR : ∀ i, i < 32 → tv T (A 45 i) (reg i)) (hl0 : T.length < 4000) (hr0 : rc (A 1) T.length < 1000) (kk : ∀ f1 A1 T' g, mx f f1 A A1 T T' 1 0 DL G Kw → (∀ i, i < 32 → tv T' (g i) ((mk_spec reg r a x y).2 i)) → Q (mk_spec reg r a x y).1 (mjF f1 f, fset (mjA A1 A) 45 g)) : mGi sc (d + 4) 259 [.ref 1482, .int r, .int a, .int x, .int y] (f, A) Q := by
  show mg sc (d + 4) 259 0 [(0, .ref 1482), (1, .int r), (2, .int a), (3, .int x), (4, .int y)] [] (f, A) _
  generalize elv : ([(0, .ref 1482), (1, .int r), (2, .int a), (3, .int x), (4, .int y)] : tm_L) = lv
  have l0 : lv.lookup 0 = some (.ref 1482) := by rw [← elv]; rfl
  have l1 : lv.lookup 1 = some (.int r) := by rw [← elv]; rfl
  have l2 : lv.lookup 2 = some (.int a) := by rw [← elv]; rfl
  have l3 : lv.lookup 3 = some (.int x) := by rw [← elv]; rfl
  have l4 : lv.lookup 4 = some (.int y) := by rw [← elv]; rfl
  clear elv
  refine m_ild (pc' := 1) cd_Mo_make rfl (Or.inr ⟨_, rfl, rfl, rfl⟩) l1 rfl ?_
  refine m_si (pc' := 4) cd_Mo_make rfl rfl rfl rfl rfl cd_Mo_isRegister rfl (Nat.le_of_ble_eq_true rfl) (m_isRegister ?_)
  show mg _ _ _ 4 _ [.int (bz (inR r 32))] _ _
  refine m_if1 (t := 25) (pc' := 7) cd_Mo_make rfl rfl rfl (fun c4 => ?_) (fun c4 => ?_)
  · have c4 : (inR r 32) = false := bz_f c4
    refine m_k1 (v := (-1)) (pc' := 26) cd_Mo_make rfl (by decide) rfl ?_
    exact m_reti cd_Mo_make rfl ⟨_, rfl, (by rw [show mk_spec reg r a x y = (-1, reg) from mk_no c4] at kk; have k2 := kk f A T (A 45) (mx_self 1 0 hM) hR; rw [mjF_self, mjA_self, fset_id] at k2; exact k2)⟩
  · have c4 : (inR r 32) = true := bz_t c4
    refine m_ald (pc' := 8) cd_Mo_make rfl (Or.inr ⟨_, rfl, rfl, rfl⟩) l0 rfl rfl ?_
    refine m_ild (pc' := 9) cd_Mo_make rfl (Or.inr ⟨_, rfl, rfl, rfl⟩) l3 rfl ?_
    refine m_ci (pc' := 12) cd_Mo_make rfl rfl rfl rfl rfl cd_Mo_isHeld rfl (Nat.le_of_ble_eq_true rfl) (m_held hM hR ?_)
    show mg _ _ _ 12 _ [.int (bz (!tnil (hl reg x)))] _ _
    refine m_if1 (t := 25) (pc' := 15) cd_Mo_make rfl rfl rfl (fun c12 => ?_) (fun c12 => ?_)
    · have c12 : (!tnil (hl reg x)) = false := bz_f c12
      refine m_k1 (v := (-1)) (pc' := 26) cd_Mo_make rfl (by decide) rfl ?_
      exact m_reti cd_Mo_make rfl ⟨_, rfl, (by rw [show mk_spec reg r a x y = (-1, reg) from mk_nx (held_no c12)] at kk; have k2 := kk f A T (A 45) (mx_self 1 0 hM) hR; rw [mjF_self, mjA_self, fset_id] at k2; exact k2)⟩
    · have c12 : (!tnil (hl reg x)) = true := bz_t c12
      obtain ⟨i1, hi1, ex1, nz1⟩ := held_in c12
      subst ex1
      obtain ⟨t1, et1, ht1⟩ := hR i1 hi1
      have htl1 := tv_lt ht1
      have hTl0 := MT_len hM
      refine m_ild (pc' := 16) cd_Mo_make rfl (Or.inr ⟨_, rfl, rfl, rfl⟩) l2 rfl ?_
      refine m_if1 (t := 25) (pc' := 19) cd_Mo_make rfl rfl rfl (fun c16 => ?_) (fun c16 => ?_)
      · have c16 : a < 0 := c16
        refine m_k1 (v := (-1)) (pc' := 26) cd_Mo_make rfl (by decide) rfl ?_
        exact m_reti cd_Mo_make rfl ⟨_, rfl, (by rw [show mk_spec reg r a (nI i1) y = (-1, reg) from (mk_in c4 hi1 nz1).trans (kp_z (co_out (Or.inl c16)))] at kk; have k2 := kk f A T (A 45) (mx_self 1 0 hM) hR; rw [mjF_self, mjA_self, fset_id] at k2; exact k2)⟩
      · have c16 : ¬ a < 0 := c16
        refine m_ild (pc' := 20) cd_Mo_make rfl (Or.inr ⟨_, rfl, rfl, rfl⟩) l2 rfl ?_
        refine m_k2 (v := 12) (pc' := 22) cd_Mo_make rfl (by decide) rfl ?_
        refine m_if2 (t := 27) (pc' := 25) cd_Mo_make rfl rfl rfl (fun c22 => ?_) (fun c22 => ?_)
        · have c22 : a ≤ 12 := c22
          refine m_ald (pc' := 28) cd_Mo_make rfl (Or.inr ⟨_, rfl, rfl, rfl⟩) l0 rfl rfl ?_
          refine m_fR (r := 44) (a := 45) (ad := 1527) (pc' := 31) rfl rfl cd_Mo_make rfl rfl rfl rfl rfl ?_
          refine m_ild (pc' := 32) cd_Mo_make rfl (Or.inr ⟨_, rfl, rfl, rfl⟩) l3 rfl ?_
          refine m_aI (r := 44) (a := 45) (g := (A 45)) (x := (nI t1)) (pc' := 33) rfl rfl cd_Mo_make rfl rfl rfl (vp_in_nI (by omega) (by decide)) (by rw [(nI_clamp (by omega))]; exact et1) ?_
          refine m_ist (pc' := 35) cd_Mo_make rfl (Or.inl ⟨rfl, rfl⟩) (by decide) rfl (fun lv el => ?_)
          have l0 := tm_lk el l0 rfl (by decide)
          have l1 := tm_lk el l1 rfl (by decide)
          have l2 := tm_lk el l2 rfl (by decide)
          have l3 := tm_lk el l3 rfl (by decide)
          have l4 := tm_lk el l4 rfl (by decide)
          have l5 : lv.lookup 5 = some (.int ((nI t1))) := tm_lks el
          clear el
          refine m_ild (pc' := 36) cd_Mo_make rfl (Or.inr ⟨_, rfl, rfl, rfl⟩) l2 rfl ?_
          refine m_k2 (v := 10) (pc' := 38) cd_Mo_make rfl (by decide) rfl ?_
          refine m_if2 (t := 68) (pc' := 41) cd_Mo_make rfl rfl rfl (fun c38 => ?_) (fun c38 => ?_)
          · have c38 : ¬ a = 10 := c38
            refine m_ild (pc' := 69) cd_Mo_make rfl (Or.inr ⟨_, rfl, rfl, rfl⟩) l2 rfl ?_
            refine m_k2 (v := 10) (pc' := 71) cd_Mo_make rfl (by decide) rfl ?_
            refine m_if2 (t := 123) (pc' := 74) cd_Mo_make rfl rfl rfl (fun c71 => ?_) (fun c71 => ?_)
            · have c71 : (10 : Int32) ≤ a := c71
              refine m_ald (pc' := 124) cd_Mo_make rfl (Or.inr ⟨_, rfl, rfl, rfl⟩) l0 rfl rfl ?_
              refine m_ild (pc' := 126) cd_Mo_make rfl (Or.inl ⟨rfl, rfl⟩) l4 rfl ?_
              refine m_ci (pc' := 129) cd_Mo_make rfl rfl rfl rfl rfl cd_Mo_isHeld rfl (Nat.le_of_ble_eq_true rfl) (m_held hM hR ?_)
              show mg _ _ _ 129 _ [.int (bz (!tnil (hl reg y)))] _ _
              refine m_if1 (t := 143) (pc' := 132) cd_Mo_make rfl rfl rfl (fun c129 => ?_) (fun c129 => ?_)
              · have c129 : (!tnil (hl reg y)) = false := bz_f c129
                refine m_k1 (v := (-1)) (pc' := 144) cd_Mo_make rfl (by decide) rfl ?_
                exact m_reti cd_Mo_make rfl ⟨_, rfl, (by rw [show mk_spec reg r a (nI i1) y = (-1, reg) from (mk_in c4 hi1 nz1).trans (kp_z (co_ny c71 c38 (held_no c129)))] at kk; have k2 := kk f A T (A 45) (mx_self 1 0 hM) hR; rw [mjF_self, mjA_self, fset_id] at k2; exact k2)⟩
              · have c129 : (!tnil (hl reg y)) = true := bz_t c129
                obtain ⟨i2, hi2, ex2, nz2⟩ := held_in c129
                subst ex2
                obtain ⟨t2, et2, ht2⟩ := hR i2 hi2
                have htl2 := tv_lt ht2
                have hTl0 := MT_len hM
                refine m_ald (pc' := 133) cd_Mo_make rfl (Or.inr ⟨_, rfl, rfl, rfl⟩) l0 rfl rfl ?_
                refine m_fR (r := 0) (a := 1) (ad := 1483) (pc' := 136) rfl rfl cd_Mo_make rfl rfl rfl rfl rfl ?_
                refine m_ild (pc' := 138) cd_Mo_make rfl (Or.inl ⟨rfl, rfl⟩) l5 rfl ?_
                refine m_aI (r := 0) (a := 1) (g := (A 1)) (x := (kd (reg i1))) (pc' := 139) rfl rfl cd_Mo_make rfl rfl rfl (vp_in_nI (by omega) (by decide)) ((congrArg (A 1) (nI_clamp (by omega))).trans (MT_kd hM ht1)) ?_
                refine m_k1 (v := 1) (pc' := 140) cd_Mo_make rfl (by decide) rfl ?_
                refine m_if2 (t := 145) (pc' := 143) cd_Mo_make rfl rfl rfl (fun c140 => ?_) (fun c140 => ?_)
                · have c140 : (kd (reg i1)) = 1 := c140
                  refine m_ald (pc' := 146) cd_Mo_make rfl (Or.inr ⟨_, rfl, rfl, rfl⟩) l0 rfl rfl ?_
                  refine m_fR (r := 44) (a := 45) (ad := 1527) (pc' := 149) rfl rfl cd_Mo_make rfl rfl rfl rfl rfl ?_
                  refine m_ild (pc' := 151) cd_Mo_make rfl (Or.inl ⟨rfl, rfl⟩) l4 rfl ?_
                  refine m_aI (r := 44) (a := 45) (g := (A 45)) (x := (nI t2)) (pc' := 152) rfl rfl cd_Mo_make rfl rfl rfl (vp_in_nI (by omega) (by decide)) (by rw [(nI_clamp (by omega))]; exact et2) ?_
                  refine m_ist (pc' := 154) cd_Mo_make rfl (Or.inl ⟨rfl, rfl⟩) (by decide) rfl (fun lv el => ?_)
                  have l0 := tm_lk el l0 rfl (by decide)
                  have l1 := tm_lk el l1 rfl (by decide)
                  have l2 := tm_lk el l2 rfl (by decide)
                  have l3 := tm_lk el l3 rfl (by decide)
                  have l4 := tm_lk el l4 rfl (by decide)
                  have l5 := tm_lk el l5 rfl (by decide)
                  have l6 : lv.lookup 6 = some (.int ((nI t2))) := tm_lks el
                  clear el
                  refine m_ild (pc' := 155) cd_Mo_make rfl (Or.inr ⟨_, rfl, rfl, rfl⟩) l2 rfl ?_
                  refine m_k2 (v := 12) (pc' := 157) cd_Mo_make rfl (by decide) rfl ?_
                  refine m_if2 (t := 177) (pc' := 160) cd_Mo_make rfl rfl rfl (fun c157 => ?_) (fun c157 => ?_)
                  · have c157 : ¬ a = 12 := c157
                    refine m_ald (pc' := 178) cd_Mo_make rfl (Or.inr ⟨_, rfl, rfl, rfl⟩) l0 rfl rfl ?_
                    refine m_fR (r := 0) (a := 1) (ad := 1483) (pc' := 181) rfl rfl cd_Mo_make rfl rfl rfl rfl rfl ?_
                    refine m_ild (pc' := 183) cd_Mo_make rfl (Or.inl ⟨rfl, rfl⟩) l6 rfl ?_
                    refine m_aI (r := 0) (a := 1) (g := (A 1)) (x := (kd (reg i2))) (pc' := 184) rfl rfl cd_Mo_make rfl rfl rfl (vp_in_nI (by omega) (by decide)) ((congrArg (A 1) (nI_clamp (by omega))).trans (MT_kd hM ht2)) ?_
                    refine m_k1 (v := 2) (pc' := 185) cd_Mo_make rfl (by decide) rfl ?_
                    refine m_if2 (t := 209) (pc' := 188) cd_Mo_make rfl rfl rfl (fun c185 => ?_) (fun c185 => ?_)
                    · have c185 : ¬ (kd (reg i2)) = 2 := c185
                      refine m_k1 (v := (-1)) (pc' := 210) cd_Mo_make rfl (by decide) rfl ?_
                      have a11 := a_11 c71 c22 c38 c157
                      exact m_reti cd_Mo_make rfl ⟨_, rfl, (by rw [show mk_spec reg r a (nI i1) (nI i2) = (-1, reg) from (mk_in c4 hi1 nz1).trans (kp_z (by unfold co_spec; rw [if_neg (fun q => Bool.noConfusion ((inR_hi c71).symm.trans q)), if_pos c140, if_neg c38, if_pos a11, hl_in hi2, if_neg c185]))] at kk; have k2 := kk f A T (A 45) (mx_self 1 0 hM) hR; rw [mjF_self, mjA_self, fset_id] at k2; exact k2)⟩
                    · have c185 : (kd (reg i2)) = 2 := Classical.not_not.mp c185
                      refine m_ald (pc' := 189) cd_Mo_make rfl (Or.inr ⟨_, rfl, rfl, rfl⟩) l0 rfl rfl ?_
                      refine m_ild (pc' := 190) cd_Mo_make rfl (Or.inr ⟨_, rfl, rfl, rfl⟩) l1 rfl ?_
                      refine m_ald (pc' := 191) cd_Mo_make rfl (Or.inr ⟨_, rfl, rfl, rfl⟩) l0 rfl rfl ?_
                      refine m_ild (pc' := 193) cd_Mo_make rfl (Or.inl ⟨rfl, rfl⟩) l5 rfl ?_
                      refine m_ald (pc' := 194) cd_Mo_make rfl (Or.inr ⟨_, rfl, rfl, rfl⟩) l0 rfl rfl ?_
                      refine m_fR (r := 1) (a := 2) (ad := 1484) (pc' := 197) rfl rfl cd_Mo_make rfl rfl rfl rfl rfl ?_
                      refine m_ild (pc' := 199) cd_Mo_make rfl (Or.inl ⟨rfl, rfl⟩) l6 rfl ?_
                      refine m_aI (r := 1) (a := 2) (g := (A 2)) (x := ((A 2) t2)) (pc' := 200) rfl rfl cd_Mo_make rfl rfl rfl (vp_in_nI (by omega) (by decide)) (congrArg (A 2) (nI_clamp (by omega))) ?_
                      refine m_ci (pc' := 203) cd_Mo_make rfl rfl rfl rfl rfl cd_Mo_shared rfl (Nat.le_of_ble_eq_true rfl) (m_shared hM hl0 hr0 ⟨t1, rfl, ht1⟩ (MT_one hM ht2 (Or.inl c185)) c140 (MT_pub1 hM ⟨t2, rfl, ht2⟩ c185) (fun f1 A1 T1 r1 hx1 hr1 => ?_))
                      have hM1 := hx1.2.2.2
                      have hR1 : ∀ i, i < 32 → tv T1 (mjA A1 A 45 i) (reg i) := fun i hi => tv_mono hx1.1 (hR i hi)
                      show mg _ _ _ 203 _ [.int r1, .int r, .ref 1482] _ _
                      refine m_ci (pc' := 206) cd_Mo_make rfl rfl rfl rfl rfl cd_Mo_set rfl (Nat.le_of_ble_eq_true rfl) (m_set hM1 hR1 hr1 (fun g hg => ?_))
                      show mg _ _ _ 206 _ [.int ((kp reg r (Tsh (reg i1) (pt (reg i2) 0))).1)] _ _
                      refine m_pure (pc' := 210) (st' := [.int ((kp reg r (Tsh (reg i1) (pt (reg i2) 0))).1)]) cd_Mo_make rfl rfl (fun _ _ => rfl) ?_
                      have a11 := a_11 c71 c22 c38 c157
                      exact m_reti cd_Mo_make rfl ⟨_, rfl, (by rw [show mk_spec reg r a (nI i1) (nI i2) = kp reg r (Tsh (reg i1) (pt (reg i2) 0)) from (mk_in c4 hi1 nz1).trans (by rw [show co_spec reg a (reg i1) (nI i2) = (Tsh (reg i1) (pt (reg i2) 0)) from by unfold co_spec; rw [if_neg (fun q => Bool.noConfusion ((inR_hi c71).symm.trans q)), if_pos c140, if_neg c38, if_pos a11, hl_in hi2, if_pos c185]])] at kk; exact kk f1 A1 T1 g hx1 hg)⟩
                  · have c157 : a = 12 := Classical.not_not.mp c157
                    refine m_ald (pc' := 161) cd_Mo_make rfl (Or.inr ⟨_, rfl, rfl, rfl⟩) l0 rfl rfl ?_
                    refine m_ild (pc' := 162) cd_Mo_make rfl (Or.inr ⟨_, rfl, rfl, rfl⟩) l1 rfl ?_
                    refine m_ald (pc' := 163) cd_Mo_make rfl (Or.inr ⟨_, rfl, rfl, rfl⟩) l0 rfl rfl ?_
                    refine m_k2 (v := 6) (pc' := 165) cd_Mo_make rfl (by decide) rfl ?_
                    refine m_ild (pc' := 167) cd_Mo_make rfl (Or.inl ⟨rfl, rfl⟩) l5 rfl ?_
                    refine m_ild (pc' := 169) cd_Mo_make rfl (Or.inl ⟨rfl, rfl⟩) l6 rfl ?_
                    refine m_k1 (v := 0) (pc' := 170) cd_Mo_make rfl (by decide) rfl ?_
                    refine m_ci (pc' := 173) cd_Mo_make rfl rfl rfl rfl rfl cd_Mo_term rfl (Nat.le_of_ble_eq_true rfl) (m_signed hM hl0 hr0 ⟨t1, rfl, ht1⟩ ⟨t2, rfl, ht2⟩ nz1 nz2 (fun f1 A1 T1 r1 hx1 hr1 => ?_))
                    have hM1 := hx1.2.2.2
                    have hR1 : ∀ i, i < 32 → tv T1 (mjA A1 A 45 i) (reg i) := fun i hi => tv_mono hx1.1 (hR i hi)
                    show mg _ _ _ 173 _ [.int r1, .int r, .ref 1482] _ _
                    refine m_ci (pc' := 176) cd_Mo_make rfl rfl rfl rfl rfl cd_Mo_set rfl (Nat.le_of_ble_eq_true rfl) (m_set hM1 hR1 hr1 (fun g hg => ?_))
                    show mg _ _ _ 176 _ [.int ((kp reg r (Tsg (reg i1) (reg i2))).1)] _ _
                    exact m_reti cd_Mo_make rfl ⟨_, rfl, (by rw [show mk_spec reg r a (nI i1) (nI i2) = kp reg r (Tsg (reg i1) (reg i2)) from (mk_in c4 hi1 nz1).trans (by rw [show co_spec reg a (reg i1) (nI i2) = (Tsg (reg i1) (reg i2)) from by unfold co_spec; rw [if_neg (fun q => Bool.noConfusion ((inR_hi c71).symm.trans q)), if_pos c140, if_neg c38, if_neg (fun q => absurd (c157.symm.trans q) (by decide)), hl_in hi2, if_pos ⟨c157, tnil_f nz2⟩]])] at kk; exact kk f1 A1 T1 g hx1 hg)⟩
                · have c140 : ¬ (kd (reg i1)) = 1 := c140
                  refine m_k1 (v := (-1)) (pc' := 144) cd_Mo_make rfl (by decide) rfl ?_
                  exact m_reti cd_Mo_make rfl ⟨_, rfl, (by rw [show mk_spec reg r a (nI i1) (nI i2) = (-1, reg) from (mk_in c4 hi1 nz1).trans (kp_z (co_n1 c71 c140))] at kk; have k2 := kk f A T (A 45) (mx_self 1 0 hM) hR; rw [mjF_self, mjA_self, fset_id] at k2; exact k2)⟩
            · have c71 : ¬ (10 : Int32) ≤ a := c71
              refine m_ild (pc' := 76) cd_Mo_make rfl (Or.inl ⟨rfl, rfl⟩) l4 rfl ?_
              refine m_k1 (v := (-1)) (pc' := 77) cd_Mo_make rfl (by decide) rfl ?_
              refine m_if2 (t := 89) (pc' := 80) cd_Mo_make rfl rfl rfl (fun c77 => ?_) (fun c77 => ?_)
              · have c77 : y = (-1) := c77
                refine m_ald (pc' := 90) cd_Mo_make rfl (Or.inr ⟨_, rfl, rfl, rfl⟩) l0 rfl rfl ?_
                refine m_ild (pc' := 91) cd_Mo_make rfl (Or.inr ⟨_, rfl, rfl, rfl⟩) l1 rfl ?_
                refine m_ald (pc' := 92) cd_Mo_make rfl (Or.inr ⟨_, rfl, rfl, rfl⟩) l0 rfl rfl ?_
                refine m_ild (pc' := 93) cd_Mo_make rfl (Or.inr ⟨_, rfl, rfl, rfl⟩) l2 rfl ?_
                refine m_ild (pc' := 95) cd_Mo_make rfl (Or.inl ⟨rfl, rfl⟩) l5 rfl ?_
                refine m_ild (pc' := 97) cd_Mo_make rfl (Or.inl ⟨rfl, rfl⟩) l4 rfl ?_
                refine m_k1 (v := (-1)) (pc' := 98) cd_Mo_make rfl (by decide) rfl ?_
                refine m_if2 (t := 105) (pc' := 101) cd_Mo_make rfl rfl rfl (fun c98 => ?_) (fun c98 => ?_)
                · have c98 : ¬ y = (-1) := c98
                  exact absurd c77 c98
                · have c98 : y = (-1) := Classical.not_not.mp c98
                  refine m_k1 (v := 0) (pc' := 102) cd_Mo_make rfl (by decide) rfl ?_
                  refine m_pure (pc' := 112) (st' := [.int 0, .int ((nI t1)), .int a, .ref 1482, .int r, .ref 1482]) cd_Mo_make rfl rfl (fun _ _ => rfl) ?_
                  refine m_ci (pc' := 115) cd_Mo_make rfl rfl rfl rfl rfl cd_Mo_mix rfl (Nat.le_of_ble_eq_true rfl) (m_mix hM hl0 hr0 ⟨t1, rfl, ht1⟩ (MT_z hM) (fun f1 A1 T1 r1 hx1 hr1 => ?_))
                  have hM1 := hx1.2.2.2
                  have hR1 : ∀ i, i < 32 → tv T1 (mjA A1 A 45 i) (reg i) := fun i hi => tv_mono hx1.1 (hR i hi)
                  show mg _ _ _ 115 _ [.int r1, .int r, .ref 1482] _ _
                  refine m_ci (pc' := 118) cd_Mo_make rfl rfl rfl rfl rfl cd_Mo_set rfl (Nat.le_of_ble_eq_true rfl) (m_set hM1 hR1 hr1 (fun g hg => ?_))
                  show mg _ _ _ 118 _ [.int ((kp reg r (Tmx a (reg i1) tz)).1)] _ _
                  refine m_pure (pc' := 122) (st' := [.int ((kp reg r (Tmx a (reg i1) tz)).1)]) cd_Mo_make rfl rfl (fun _ _ => rfl) ?_
                  exact m_reti cd_Mo_make rfl ⟨_, rfl, (by rw [show mk_spec reg r a (nI i1) y = kp reg r (Tmx a (reg i1) tz) from (mk_in c4 hi1 nz1).trans (by rw [show co_spec reg a (reg i1) y = (Tmx a (reg i1) tz) from (if_pos (inR_t c16 c71)).trans ((if_neg (fun q => q.2 c77)).trans (by rw [show hl reg y = tz from hl_out (by rw [c77]; decide)]))])] at kk; exact kk f1 A1 T1 g hx1 hg)⟩
              · have c77 : ¬ y = (-1) := c77
                refine m_ald (pc' := 81) cd_Mo_make rfl (Or.inr ⟨_, rfl, rfl, rfl⟩) l0 rfl rfl ?_
                refine m_ild (pc' := 83) cd_Mo_make rfl (Or.inl ⟨rfl, rfl⟩) l4 rfl ?_
                refine m_ci (pc' := 86) cd_Mo_make rfl rfl rfl rfl rfl cd_Mo_isHeld rfl (Nat.le_of_ble_eq_true rfl) (m_held hM hR ?_)
                show mg _ _ _ 86 _ [.int (bz (!tnil (hl reg y)))] _ _
                refine m_if1 (t := 121) (pc' := 89) cd_Mo_make rfl rfl rfl (fun c86 => ?_) (fun c86 => ?_)
                · have c86 : (!tnil (hl reg y)) = false := bz_f c86
                  refine m_k1 (v := (-1)) (pc' := 122) cd_Mo_make rfl (by decide) rfl ?_
                  exact m_reti cd_Mo_make rfl ⟨_, rfl, (by rw [show mk_spec reg r a (nI i1) y = (-1, reg) from (mk_in c4 hi1 nz1).trans (kp_z ((if_pos (inR_t c16 c71)).trans (if_pos ⟨tnil_iff.mpr (held_no c86), c77⟩)))] at kk; have k2 := kk f A T (A 45) (mx_self 1 0 hM) hR; rw [mjF_self, mjA_self, fset_id] at k2; exact k2)⟩
                · have c86 : (!tnil (hl reg y)) = true := bz_t c86
                  obtain ⟨i2, hi2, ex2, nz2⟩ := held_in c86
                  subst ex2
                  obtain ⟨t2, et2, ht2⟩ := hR i2 hi2
                  have htl2 := tv_lt ht2
                  have hTl0 := MT_len hM
                  refine m_ald (pc' := 90) cd_Mo_make rfl (Or.inr ⟨_, rfl, rfl, rfl⟩) l0 rfl rfl ?_
                  refine m_ild (pc' := 91) cd_Mo_make rfl (Or.inr ⟨_, rfl, rfl, rfl⟩) l1 rfl ?_
                  refine m_ald (pc' := 92) cd_Mo_make rfl (Or.inr ⟨_, rfl, rfl, rfl⟩) l0 rfl rfl ?_
                  refine m_ild (pc' := 93) cd_Mo_make rfl (Or.inr ⟨_, rfl, rfl, rfl⟩) l2 rfl ?_
                  refine m_ild (pc' := 95) cd_Mo_make rfl (Or.inl ⟨rfl, rfl⟩) l5 rfl ?_
                  refine m_ild (pc' := 97) cd_Mo_make rfl (Or.inl ⟨rfl, rfl⟩) l4 rfl ?_
                  refine m_k1 (v := (-1)) (pc' := 98) cd_Mo_make rfl (by decide) rfl ?_
                  refine m_if2 (t := 105) (pc' := 101) cd_Mo_make rfl rfl rfl (fun c98 => ?_) (fun c98 => ?_)
                  · have c98 : ¬ (nI i2) = (-1) := c98
                    refine m_ald (pc' := 106) cd_Mo_make rfl (Or.inr ⟨_, rfl, rfl, rfl⟩) l0 rfl rfl ?_
                    refine m_fR (r := 44) (a := 45) (ad := 1527) (pc' := 109) rfl rfl cd_Mo_make rfl rfl rfl rfl rfl ?_
                    refine m_ild (pc' := 111) cd_Mo_make rfl (Or.inl ⟨rfl, rfl⟩) l4 rfl ?_
                    refine m_aI (r := 44) (a := 45) (g := (A 45)) (x := (nI t2)) (pc' := 112) rfl rfl cd_Mo_make rfl rfl rfl (vp_in_nI (by omega) (by decide)) (by rw [(nI_clamp (by omega))]; exact et2) ?_
                    refine m_ci (pc' := 115) cd_Mo_make rfl rfl rfl rfl rfl cd_Mo_mix rfl (Nat.le_of_ble_eq_true rfl) (m_mix hM hl0 hr0 ⟨t1, rfl, ht1⟩ ⟨t2, rfl, ht2⟩ (fun f1 A1 T1 r1 hx1 hr1 => ?_))
                    have hM1 := hx1.2.2.2
                    have hR1 : ∀ i, i < 32 → tv T1 (mjA A1 A 45 i) (reg i) := fun i hi => tv_mono hx1.1 (hR i hi)
                    show mg _ _ _ 115 _ [.int r1, .int r, .ref 1482] _ _
                    refine m_ci (pc' := 118) cd_Mo_make rfl rfl rfl rfl rfl cd_Mo_set rfl (Nat.le_of_ble_eq_true rfl) (m_set hM1 hR1 hr1 (fun g hg => ?_))
                    show mg _ _ _ 118 _ [.int ((kp reg r (Tmx a (reg i1) (reg i2))).1)] _ _
                    refine m_pure (pc' := 122) (st' := [.int ((kp reg r (Tmx a (reg i1) (reg i2))).1)]) cd_Mo_make rfl rfl (fun _ _ => rfl) ?_
                    exact m_reti cd_Mo_make rfl ⟨_, rfl, (by rw [show mk_spec reg r a (nI i1) (nI i2) = kp reg r (Tmx a (reg i1) (reg i2)) from (mk_in c4 hi1 nz1).trans (by rw [show co_spec reg a (reg i1) (nI i2) = (Tmx a (reg i1) (reg i2)) from (if_pos (inR_t c16 c71)).trans ((if_neg (fun q => by rw [hl_in hi2] at q; exact nz2 (tnil_iff.mp q.1))).trans (by rw [hl_in hi2]))])] at kk; exact kk f1 A1 T1 g hx1 hg)⟩
                  · have c98 : (nI i2) = (-1) := Classical.not_not.mp c98
                    exact absurd c98 (nI_nm1 (by omega))
          · have c38 : a = 10 := Classical.not_not.mp c38
            refine m_ald (pc' := 42) cd_Mo_make rfl (Or.inr ⟨_, rfl, rfl, rfl⟩) l0 rfl rfl ?_
            refine m_fR (r := 0) (a := 1) (ad := 1483) (pc' := 45) rfl rfl cd_Mo_make rfl rfl rfl rfl rfl ?_
            refine m_ild (pc' := 47) cd_Mo_make rfl (Or.inl ⟨rfl, rfl⟩) l5 rfl ?_
            refine m_aI (r := 0) (a := 1) (g := (A 1)) (x := (kd (reg i1))) (pc' := 48) rfl rfl cd_Mo_make rfl rfl rfl (vp_in_nI (by omega) (by decide)) ((congrArg (A 1) (nI_clamp (by omega))).trans (MT_kd hM ht1)) ?_
            refine m_k1 (v := 1) (pc' := 49) cd_Mo_make rfl (by decide) rfl ?_
            refine m_if2 (t := 66) (pc' := 52) cd_Mo_make rfl rfl rfl (fun c49 => ?_) (fun c49 => ?_)
            · have c49 : ¬ (kd (reg i1)) = 1 := c49
              refine m_k1 (v := (-1)) (pc' := 67) cd_Mo_make rfl (by decide) rfl ?_
              exact m_reti cd_Mo_make rfl ⟨_, rfl, (by rw [show mk_spec reg r a (nI i1) y = (-1, reg) from (mk_in c4 hi1 nz1).trans (kp_z (co_n1 (show (10 : Int32) ≤ a by rw [c38]; decide) c49))] at kk; have k2 := kk f A T (A 45) (mx_self 1 0 hM) hR; rw [mjF_self, mjA_self, fset_id] at k2; exact k2)⟩
            · have c49 : (kd (reg i1)) = 1 := Classical.not_not.mp c49
              refine m_ald (pc' := 53) cd_Mo_make rfl (Or.inr ⟨_, rfl, rfl, rfl⟩) l0 rfl rfl ?_
              refine m_ild (pc' := 54) cd_Mo_make rfl (Or.inr ⟨_, rfl, rfl, rfl⟩) l1 rfl ?_
              refine m_ald (pc' := 55) cd_Mo_make rfl (Or.inr ⟨_, rfl, rfl, rfl⟩) l0 rfl rfl ?_
              refine m_ild (pc' := 57) cd_Mo_make rfl (Or.inl ⟨rfl, rfl⟩) l5 rfl ?_
              refine m_ci (pc' := 60) cd_Mo_make rfl rfl rfl rfl rfl cd_Mo_publicOf rfl (Nat.le_of_ble_eq_true rfl) (m_publicOf hM hl0 hr0 ⟨t1, rfl, ht1⟩ c49 (fun f1 A1 T1 r1 hx1 hr1 => ?_))
              have hM1 := hx1.2.2.2
              have hR1 : ∀ i, i < 32 → tv T1 (mjA A1 A 45 i) (reg i) := fun i hi => tv_mono hx1.1 (hR i hi)
              show mg _ _ _ 60 _ [.int r1, .int r, .ref 1482] _ _
              refine m_ci (pc' := 63) cd_Mo_make rfl rfl rfl rfl rfl cd_Mo_set rfl (Nat.le_of_ble_eq_true rfl) (m_set hM1 hR1 hr1 (fun g hg => ?_))
              show mg _ _ _ 63 _ [.int ((kp reg r (Tpub (reg i1))).1)] _ _
              refine m_pure (pc' := 67) (st' := [.int ((kp reg r (Tpub (reg i1))).1)]) cd_Mo_make rfl rfl (fun _ _ => rfl) ?_
              exact m_reti cd_Mo_make rfl ⟨_, rfl, (by rw [show mk_spec reg r a (nI i1) y = kp reg r (Tpub (reg i1)) from (mk_in c4 hi1 nz1).trans (by rw [show co_spec reg a (reg i1) y = (Tpub (reg i1)) from by unfold co_spec; rw [if_neg (fun q => Bool.noConfusion ((inR_hi (show (10 : Int32) ≤ a by rw [c38]; decide)).symm.trans q)), if_pos c49, if_pos c38]])] at kk; exact kk f1 A1 T1 g hx1 hg)⟩
        · have c22 : ¬ a ≤ 12 := c22
          refine m_k1 (v := (-1)) (pc' := 26) cd_Mo_make rfl (by decide) rfl ?_
          exact m_reti cd_Mo_make rfl ⟨_, rfl, (by rw [show mk_spec reg r a (nI i1) y = (-1, reg) from (mk_in c4 hi1 nz1).trans (kp_z (co_out (Or.inr c22)))] at kk; have k2 := kk f A T (A 45) (mx_self 1 0 hM) hR; rw [mjF_self, mjA_self, fset_id] at k2; exact k2)⟩
