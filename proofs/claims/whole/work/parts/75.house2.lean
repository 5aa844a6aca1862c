/-! The house: registers, room, work begun and finished -/
theorem CK_5 {B : bm_H} {F : Nat → Prop} {N S M ln : Nat} {T : List Tm} {dr : Nat} {K : Tm → Prop} {ca rm kc kl rk : Nat} (h : CK B F N S M ln T dr K ca rm kc kl rk) : 5 < bm_n B ∧ bm_K B 5 = 3 := by
  obtain ⟨L, fp, -, hK, -⟩ := h.2.1
  exact hK.1.1
theorem RDe_K {B : bm_H} {T : List Tm} {x : Nat} {w : SW} {D : DV} (h : RDe B T x w D) : x < bm_n B ∧ bm_K B x = 0 := by
  obtain ⟨id, K0, K1, on, ln, se, me⟩ := D
  exact h.1.1
theorem RSt_K {B : bm_H} {T : List Tm} {sa : Nat} {S : ST} (h : RSt B T sa S) : sa < bm_n B ∧ bm_K B sa = 8 := (RSt_S h).1.1
/-- cells of the class alone have changed -/
theorem CK_cls {X : Nat → Prop} {B B' : bm_H} {F : Nat → Prop} {N S M ln : Nat} {T : List Tm} {dr : Nat} {K : Tm → Prop} {ca rm kc kl rk : Nat} (h : CK B F N S M ln T dr K ca rm kc kl rk) (hf : fz X B B') (hX : ∀ y, X y → y = 0 ∨ (8 ≤ y ∧ y < 1482)) : CK B' F N S M ln T dr K ca rm kc kl rk := by
  have h6 := h.2.2.2.2.2.1
  have hT := TI_fr h.1 hf.1 (fun q => by have := hX _ q; omega) (fun q => by have := hX _ q; omega) (fun q => by have := hX _ q; omega)
  obtain ⟨h1, h2, h3, h4, h5, h6, h7, h8, h9, h10⟩ := h
  exact ⟨hT, KI_mono h2 hT (List.prefix_refl T) hf.1 (fun q => by have := hX _ q; omega) (fun q => by have := hX _ q; omega) (fun q => by have := hX _ q; omega), h3, h4, h5, h6, h7, h8, by rw [hf.2.1, hf.2.2]; exact h9, by rw [hf.2.1]; exact h10⟩
def hl (reg : Nat → Tm) (r : Int32) : Tm := if inR r 32 = true then reg r.toNatClampNeg else tz
theorem hl_in {reg : Nat → Tm} {p : Nat} (h : p < 32) : hl reg (nI p) = reg p := by unfold hl; rw [if_pos (show inR (nI p) 32 = true from inR_nI h (by decide)), nI_clamp (by omega)]
theorem hl_out {reg : Nat → Tm} {r : Int32} (h : inR r 32 = false) : hl reg r = tz := by unfold hl; rw [h]; rfl
set_option maxRecDepth 100000 in
theorem t_held1 {sc : tm_X} {d : Nat} {B : bm_H} {F : Nat → Prop} {N S M ln : Nat} {T : List Tm} {dr : Nat} {K : Tm → Prop} {ca rm kc kl rk : Nat} {ws : List (Tm × Int32)} {wt : List Tm} {G : LG} {ids dir reg : Nat → Tm} {seen : List Tm} {π : Nat → Nat} {w : Nat → SW} {dev : Nat → DV} {sto : Nat → ST} {p : Nat} {Q : Int32 → bm_H → Prop} (hC : CK B F N S M ln T dr K ca rm kc kl rk) (hH : RH B T ws wt G ids dir reg seen π w dev sto) (hp : p < 32) (kk : ∀ x, tv T x (hl reg (nI p)) → Q x B) : bm_Gi sc (d + 1) 131 [.ref 0, .int (nI p)] B Q := by
  show bm_G sc (d + 1) 131 0 [(0, .ref 0), (1, .int ((nI p)))] [] B _
  generalize elv : ([(0, .ref 0), (1, .int ((nI p)))] : tm_L) = lv
  have l0 : lv.lookup 0 = some (.ref 0) := by rw [← elv]; rfl
  have l1 : lv.lookup 1 = some (.int ((nI p))) := by rw [← elv]; rfl
  clear elv
  refine g_ild (pc' := 1) cd_Ho_held rfl (Or.inr ⟨_, rfl, rfl, rfl⟩) l1 rfl ?_
  refine g_calli (pc' := 4) cd_Ho_held rfl rfl rfl rfl rfl (tm_invS rfl rfl cd_Ho_isRegister rfl (Nat.le_of_ble_eq_true rfl)) (t_isRegister ?_)
  rw [show inR (nI p) 32 = true from inR_nI hp (by decide)]
  show bm_G _ _ _ _ _ (.int 1 :: _) _ _
  show bm_G _ _ _ 4 _ [.int 1] B _
  refine g_if1 (t := 16) (pc' := 7) cd_Ho_held rfl rfl rfl (fun c4 => ?_) (fun c4 => ?_)
  · exact absurd (show (1 : Int32) = 0 from c4) (by decide)
  · have c4 : ¬ (1 : Int32) = 0 := c4
    refine g_ald (pc' := 8) cd_Ho_held rfl (Or.inr ⟨_, rfl, rfl, rfl⟩) l0 rfl rfl ?_
    refine g_fR (c := 11) (k := 8) (x := 23) (pc' := 11) cd_Ho_held rfl rfl rfl rfl rfl (by decide) hH.1.1.1 hH.1.1.2 hH.1.2.1.2.2.2.2.2.2.2.2.1 ?_
    refine g_ild (pc' := 12) cd_Ho_held rfl (Or.inr ⟨_, rfl, rfl, rfl⟩) l1 rfl ?_
    refine g_aI (x := (bm_AI B 23 p)) (pc' := 13) cd_Ho_held rfl rfl hH.1.2.2.2.2.2.2.1.1 hH.1.2.2.2.2.2.2.1.2.1 (by rw [show bm_AL B 23 = 32 from hH.1.2.2.2.2.2.2.1.2.2]; exact vp_in_nI (by omega) (by decide)) (congrArg (bm_AI B 23) (nI_clamp (by omega))) ?_
    refine g_pure (pc' := 17) (st' := [.int ((bm_AI B 23 p))]) cd_Ho_held rfl rfl (fun _ _ => rfl) ?_
    exact g_reti cd_Ho_held rfl ⟨_, rfl, (kk _ (by rw [hl_in hp]; exact hH.2.2.2.1.2.2.1 p hp))⟩
set_option maxRecDepth 100000 in
theorem t_held0 {sc : tm_X} {d : Nat} {B : bm_H} {F : Nat → Prop} {N S M ln : Nat} {T : List Tm} {dr : Nat} {K : Tm → Prop} {ca rm kc kl rk : Nat} {ws : List (Tm × Int32)} {wt : List Tm} {G : LG} {ids dir reg : Nat → Tm} {seen : List Tm} {π : Nat → Nat} {w : Nat → SW} {dev : Nat → DV} {sto : Nat → ST} {r : Int32} {Q : Int32 → bm_H → Prop} (hC : CK B F N S M ln T dr K ca rm kc kl rk) (hH : RH B T ws wt G ids dir reg seen π w dev sto) (hr : inR r 32 = false) (kk : ∀ x, tv T x (hl reg r) → Q x B) : bm_Gi sc (d + 1) 131 [.ref 0, .int r] B Q := by
  show bm_G sc (d + 1) 131 0 [(0, .ref 0), (1, .int r)] [] B _
  generalize elv : ([(0, .ref 0), (1, .int r)] : tm_L) = lv
  have l0 : lv.lookup 0 = some (.ref 0) := by rw [← elv]; rfl
  have l1 : lv.lookup 1 = some (.int r) := by rw [← elv]; rfl
  clear elv
  refine g_ild (pc' := 1) cd_Ho_held rfl (Or.inr ⟨_, rfl, rfl, rfl⟩) l1 rfl ?_
  refine g_calli (pc' := 4) cd_Ho_held rfl rfl rfl rfl rfl (tm_invS rfl rfl cd_Ho_isRegister rfl (Nat.le_of_ble_eq_true rfl)) (t_isRegister ?_)
  rw [hr]
  show bm_G _ _ _ _ _ (.int 0 :: _) _ _
  show bm_G _ _ _ 4 _ [.int 0] B _
  refine g_if1 (t := 16) (pc' := 7) cd_Ho_held rfl rfl rfl (fun c4 => ?_) (fun c4 => ?_)
  · have c4 : (0 : Int32) = 0 := c4
    refine g_k1 (v := 0) (pc' := 17) cd_Ho_held rfl (by decide) rfl ?_
    exact g_reti cd_Ho_held rfl ⟨_, rfl, (kk _ (by rw [hl_out hr]; exact TI_z hC.1))⟩
  · exact absurd (show ¬ (0 : Int32) = 0 from c4) (by decide)
theorem t_held {sc : tm_X} {d : Nat} {B : bm_H} {F : Nat → Prop} {N S M ln : Nat} {T : List Tm} {dr : Nat} {K : Tm → Prop} {ca rm kc kl rk : Nat} {ws : List (Tm × Int32)} {wt : List Tm} {G : LG} {ids dir reg : Nat → Tm} {seen : List Tm} {π : Nat → Nat} {w : Nat → SW} {dev : Nat → DV} {sto : Nat → ST} {r : Int32} {Q : Int32 → bm_H → Prop} (hC : CK B F N S M ln T dr K ca rm kc kl rk) (hH : RH B T ws wt G ids dir reg seen π w dev sto) (kk : ∀ x, tv T x (hl reg r) → Q x B) : bm_Gi sc (d + 1) 131 [.ref 0, .int r] B Q := by
  cases h : inR r 32
  · exact t_held0 hC hH h kk
  · obtain ⟨p, hp, rfl⟩ := inR_of (n := 32) (by decide) h
    exact t_held1 hC hH hp kk
set_option maxRecDepth 100000 in
theorem t_keep1 {sc : tm_X} {d : Nat} {B : bm_H} {F : Nat → Prop} {N S M ln : Nat} {T : List Tm} {dr : Nat} {K : Tm → Prop} {ca rm kc kl rk : Nat} {ws : List (Tm × Int32)} {wt : List Tm} {G : LG} {ids dir reg : Nat → Tm} {seen : List Tm} {π : Nat → Nat} {w : Nat → SW} {dev : Nat → DV} {sto : Nat → ST} {p : Nat} {x : Int32} {A : Tm} {Q : Int32 → bm_H → Prop} (hC : CK B F N S M ln T dr K ca rm kc kl rk) (hH : RH B T ws wt G ids dir reg seen π w dev sto) (hp : p < 32) (hx : tv T x A) (kk0 : A = tz → Q (-1) B) (kk1 : ∀ B', A ≠ tz → CK B' F N S M ln T dr K ca rm kc kl rk → RH B' T ws wt G ids dir (fset reg p A) seen π w dev sto → fz (fun y => y = 23) B B' → Q 1 B') : bm_Gi sc (d + 1) 137 [.ref 0, .int (nI p), .int x] B Q := by
  show bm_G sc (d + 1) 137 0 [(0, .ref 0), (1, .int ((nI p))), (2, .int x)] [] B _
  generalize elv : ([(0, .ref 0), (1, .int ((nI p))), (2, .int x)] : tm_L) = lv
  have l0 : lv.lookup 0 = some (.ref 0) := by rw [← elv]; rfl
  have l1 : lv.lookup 1 = some (.int ((nI p))) := by rw [← elv]; rfl
  have l2 : lv.lookup 2 = some (.int x) := by rw [← elv]; rfl
  clear elv
  refine g_ild (pc' := 1) cd_Ho_keep rfl (Or.inr ⟨_, rfl, rfl, rfl⟩) l1 rfl ?_
  refine g_calli (pc' := 4) cd_Ho_keep rfl rfl rfl rfl rfl (tm_invS rfl rfl cd_Ho_isRegister rfl (Nat.le_of_ble_eq_true rfl)) (t_isRegister ?_)
  rw [show inR (nI p) 32 = true from inR_nI hp (by decide)]
  show bm_G _ _ _ _ _ (.int 1 :: _) _ _
  show bm_G _ _ _ 4 _ [.int 1] B _
  refine g_if1 (t := 11) (pc' := 7) cd_Ho_keep rfl rfl rfl (fun c4 => ?_) (fun c4 => ?_)
  · exact absurd (show (1 : Int32) = 0 from c4) (by decide)
  · have c4 : ¬ (1 : Int32) = 0 := c4
    refine g_ild (pc' := 8) cd_Ho_keep rfl (Or.inr ⟨_, rfl, rfl, rfl⟩) l2 rfl ?_
    refine g_if1 (t := 13) (pc' := 11) cd_Ho_keep rfl rfl rfl (fun c8 => ?_) (fun c8 => ?_)
    · have c8 : ¬ x = 0 := c8
      refine g_ald (pc' := 14) cd_Ho_keep rfl (Or.inr ⟨_, rfl, rfl, rfl⟩) l0 rfl rfl ?_
      refine g_fR (c := 11) (k := 8) (x := 23) (pc' := 17) cd_Ho_keep rfl rfl rfl rfl rfl (by decide) hH.1.1.1 hH.1.1.2 hH.1.2.1.2.2.2.2.2.2.2.2.1 ?_
      refine g_ild (pc' := 18) cd_Ho_keep rfl (Or.inr ⟨_, rfl, rfl, rfl⟩) l1 rfl ?_
      refine g_ild (pc' := 19) cd_Ho_keep rfl (Or.inr ⟨_, rfl, rfl, rfl⟩) l2 rfl ?_
      refine g_iast (pc' := 20) cd_Ho_keep rfl rfl hH.1.2.2.2.2.2.2.1.1 hH.1.2.2.2.2.2.2.1.2.1 (by rw [show bm_AL B 23 = 32 from hH.1.2.2.2.2.2.2.1.2.2]; exact vp_in_nI (by omega) (by decide)) ?_
      rw [show ((nI p) : Int32).toNatClampNeg = p from nI_clamp (by omega)]
      have A1 : bm_AI (bm_setI B 23 p x) 23 = (upd (bm_AI B 23) p x) := ((AI_set B 23 p x).trans (congrArg (fun f => upd f p x) (show bm_AI B 23 = (bm_AI B 23) from rfl)))
      have Z2 : fz (fun y => y = 23) B (bm_setI B 23 p x) := fz_trans (fz_rfl _ B) ⟨fr_mono (fun _ q => q) (fr_setI _ 23 _ _), rfl, rfl⟩
      refine g_k1 (v := 1) (pc' := 21) cd_Ho_keep rfl (by decide) rfl ?_
      exact g_reti cd_Ho_keep rfl ⟨_, rfl, (kk1 _ (fun q => c8 ((TI_0 hC.1 hx).mpr q)) (CK_cls hC Z2 (fun y q => by omega)) (RH_reg hH Z2.1 (fun y q => q.2) (List.prefix_refl T) (RA_set hH.2.2.2.1.2.2.1 A1 hx)) Z2)⟩
    · have c8 : x = 0 := Classical.not_not.mp c8
      refine g_k1 (v := (-1)) (pc' := 12) cd_Ho_keep rfl (by decide) rfl ?_
      exact g_reti cd_Ho_keep rfl ⟨_, rfl, (kk0 ((TI_0 hC.1 hx).mp c8))⟩
set_option maxRecDepth 100000 in
theorem t_keep0 {sc : tm_X} {d : Nat} {B : bm_H} {r x : Int32} {Q : Int32 → bm_H → Prop} (hr : inR r 32 = false) (kk0 : Q (-1) B) : bm_Gi sc (d + 1) 137 [.ref 0, .int r, .int x] B Q := by
  show bm_G sc (d + 1) 137 0 [(0, .ref 0), (1, .int r), (2, .int x)] [] B _
  generalize elv : ([(0, .ref 0), (1, .int r), (2, .int x)] : tm_L) = lv
  have l0 : lv.lookup 0 = some (.ref 0) := by rw [← elv]; rfl
  have l1 : lv.lookup 1 = some (.int r) := by rw [← elv]; rfl
  have l2 : lv.lookup 2 = some (.int x) := by rw [← elv]; rfl
  clear elv
  refine g_ild (pc' := 1) cd_Ho_keep rfl (Or.inr ⟨_, rfl, rfl, rfl⟩) l1 rfl ?_
  refine g_calli (pc' := 4) cd_Ho_keep rfl rfl rfl rfl rfl (tm_invS rfl rfl cd_Ho_isRegister rfl (Nat.le_of_ble_eq_true rfl)) (t_isRegister ?_)
  rw [hr]
  show bm_G _ _ _ _ _ (.int 0 :: _) _ _
  show bm_G _ _ _ 4 _ [.int 0] B _
  refine g_if1 (t := 11) (pc' := 7) cd_Ho_keep rfl rfl rfl (fun c4 => ?_) (fun c4 => ?_)
  · have c4 : (0 : Int32) = 0 := c4
    refine g_k1 (v := (-1)) (pc' := 12) cd_Ho_keep rfl (by decide) rfl ?_
    exact g_reti cd_Ho_keep rfl ⟨_, rfl, kk0⟩
  · exact absurd (show ¬ (0 : Int32) = 0 from c4) (by decide)
theorem t_keep {sc : tm_X} {d : Nat} {B : bm_H} {F : Nat → Prop} {N S M ln : Nat} {T : List Tm} {dr : Nat} {K : Tm → Prop} {ca rm kc kl rk : Nat} {ws : List (Tm × Int32)} {wt : List Tm} {G : LG} {ids dir reg : Nat → Tm} {seen : List Tm} {π : Nat → Nat} {w : Nat → SW} {dev : Nat → DV} {sto : Nat → ST} {r x : Int32} {A : Tm} {Q : Int32 → bm_H → Prop} (hC : CK B F N S M ln T dr K ca rm kc kl rk) (hH : RH B T ws wt G ids dir reg seen π w dev sto) (hx : tv T x A) (kk0 : (inR r 32 = false ∨ A = tz) → Q (-1) B) (kk1 : ∀ p B', p < 32 → r = nI p → A ≠ tz → CK B' F N S M ln T dr K ca rm kc kl rk → RH B' T ws wt G ids dir (fset reg p A) seen π w dev sto → fz (fun y => y = 23) B B' → Q 1 B') : bm_Gi sc (d + 1) 137 [.ref 0, .int r, .int x] B Q := by
  cases h : inR r 32
  · exact t_keep0 h (kk0 (Or.inl h))
  · obtain ⟨p, hp, rfl⟩ := inR_of (n := 32) (by decide) h
    exact t_keep1 hC hH hp hx (fun e => kk0 (Or.inr e)) (fun B' e q1 q2 q3 => kk1 p B' hp rfl e q1 q2 q3)
set_option maxRecDepth 100000 in
theorem t_isFull {sc : tm_X} {d : Nat} {B : bm_H} {F : Nat → Prop} {N S M ln : Nat} {T : List Tm} {dr : Nat} {K : Tm → Prop} {ca rm kc kl rk : Nat} {ws : List (Tm × Int32)} {wt : List Tm} {G : LG} {ids dir reg : Nat → Tm} {seen : List Tm} {π : Nat → Nat} {w : Nat → SW} {dev : Nat → DV} {sto : Nat → ST} {Q : Int32 → bm_H → Prop} (hC : CK B F N S M ln T dr K ca rm kc kl rk) (hH : RH B T ws wt G ids dir reg seen π w dev sto) (hdr : dr ≤ 2960) (hws : ws.length ≤ 692) (hTl : T.length ≤ 30000) (kk : ∀ B' ca' rm', CK B' F N S (T.length + 256) ln T dr K ca' rm' kc kl rk → RH B' T ws wt G ids dir reg seen π w dev sto → fr (fun y => y = 1) B B' → Q 0 B') : bm_Gi sc (d + 3) 33 [.ref 0] B Q := by
  show bm_G sc (d + 3) 33 0 [(0, .ref 0)] [] B _
  generalize elv : ([(0, .ref 0)] : tm_L) = lv
  have l0 : lv.lookup 0 = some (.ref 0) := by rw [← elv]; rfl
  clear elv
  refine g_k3 (v := 3000) (pc' := 3) cd_Ho_isFull rfl (by decide) rfl ?_
  refine g_ald (pc' := 4) cd_Ho_isFull rfl (Or.inr ⟨_, rfl, rfl, rfl⟩) l0 rfl rfl ?_
  refine g_fR (c := 11) (k := 0) (x := 1) (pc' := 7) cd_Ho_isFull rfl rfl rfl rfl rfl (by decide) hH.1.1.1 hH.1.1.2 hH.1.2.1.1 ?_
  refine g_fI (c := 9) (k := 5) (x := nI dr) (pc' := 10) cd_Ho_isFull rfl rfl rfl rfl rfl (by decide) hC.1.1.1.1 hC.1.1.1.2 hC.1.1.2.2.2.1.2.2 ?_
  refine g_pure (pc' := 11) (st' := [.int (3000 - (nI dr))]) cd_Ho_isFull rfl rfl (fun _ _ => rfl) ?_
  rw [show (3000 - (nI dr) : Int32) = nI (3000 - dr) from pk_sub (a := 3000) (b := dr) (by omega)]
  refine g_k2 (v := 40) (pc' := 13) cd_Ho_isFull rfl (by decide) rfl ?_
  refine g_if2 (t := 42) (pc' := 16) cd_Ho_isFull rfl rfl rfl (fun c13 => ?_) (fun c13 => ?_)
  · have c13 : (nI (3000 - dr)) < 40 := c13
    exact absurd c13 (nI_nlt (b := 40) (by omega) (by omega))
  · have c13 : ¬ (nI (3000 - dr)) < 40 := c13
    refine g_k3 (v := 700) (pc' := 19) cd_Ho_isFull rfl (by decide) rfl ?_
    refine g_ald (pc' := 20) cd_Ho_isFull rfl (Or.inr ⟨_, rfl, rfl, rfl⟩) l0 rfl rfl ?_
    refine g_fR (c := 11) (k := 2) (x := 8) (pc' := 23) cd_Ho_isFull rfl rfl rfl rfl rfl (by decide) hH.1.1.1 hH.1.1.2 hH.1.2.1.2.2.1 ?_
    refine g_fI (c := 10) (k := 2) (x := nI (ws.length)) (pc' := 26) cd_Ho_isFull rfl rfl rfl rfl rfl (by decide) hH.2.1.1.1.1 hH.2.1.1.1.2 hH.2.1.2.1.1 ?_
    refine g_pure (pc' := 27) (st' := [.int (700 - (nI (ws.length)))]) cd_Ho_isFull rfl rfl (fun _ _ => rfl) ?_
    rw [show (700 - (nI (ws.length)) : Int32) = nI (700 - (ws.length)) from pk_sub (a := 700) (b := (ws.length)) (by omega)]
    refine g_k2 (v := 8) (pc' := 29) cd_Ho_isFull rfl (by decide) rfl ?_
    refine g_if2 (t := 42) (pc' := 32) cd_Ho_isFull rfl rfl rfl (fun c29 => ?_) (fun c29 => ?_)
    · have c29 : (nI (700 - (ws.length))) < 8 := c29
      exact absurd c29 (nI_nlt (b := 8) (by omega) (by omega))
    · have c29 : ¬ (nI (700 - (ws.length))) < 8 := c29
      refine g_ald (pc' := 33) cd_Ho_isFull rfl (Or.inr ⟨_, rfl, rfl, rfl⟩) l0 rfl rfl ?_
      refine g_fR (c := 11) (k := 0) (x := 1) (pc' := 36) cd_Ho_isFull rfl rfl rfl rfl rfl (by decide) hH.1.1.1 hH.1.1.2 hH.1.2.1.1 ?_
      refine g_calli (pc' := 39) cd_Ho_isFull rfl rfl rfl rfl rfl (tm_invV rfl rfl cd_Te_hasRoom rfl (Nat.le_of_ble_eq_true rfl) (by decide) hC.1.1.1.1 hC.1.1.1.2) (t_roomC hC hTl (fun B1 ca1 rm1 hC1 hf1 => ?_))
      have hH1 := RH_fr hH hf1 (fun y q => by omega) (List.prefix_refl T)
      show bm_G _ _ _ 39 _ [.int 1] B1 _
      refine g_if1 (t := 46) (pc' := 42) cd_Ho_isFull rfl rfl rfl (fun c39 => ?_) (fun c39 => ?_)
      · have c39 : ¬ (1 : Int32) = 0 := c39
        refine g_k1 (v := 0) (pc' := 47) cd_Ho_isFull rfl (by decide) rfl ?_
        exact g_retz cd_Ho_isFull rfl (Or.inl rfl) ⟨_, rfl, (kk B1 ca1 rm1 hC1 hH1 hf1)⟩
      · exact absurd (show ¬ (¬ (1 : Int32) = 0) from c39) (by decide)
theorem RSt_dn {B : bm_H} {T : List Tm} {sa : Nat} {S : ST} (h : RSt B T sa S) : bm_FI B 8 6 sa = bz S.2.2.2.2 := by
  obtain ⟨p, P, O, c, dn⟩ := S
  exact h.2.1.2.2.1
set_option maxRecDepth 100000 in
theorem t_refusal {sc : tm_X} {d : Nat} {B : bm_H} {F : Nat → Prop} {N S M ln : Nat} {T : List Tm} {dr : Nat} {K : Tm → Prop} {ca rm kc kl rk : Nat} {ws : List (Tm × Int32)} {wt : List Tm} {G : LG} {ids dir reg : Nat → Tm} {seen : List Tm} {π : Nat → Nat} {w : Nat → SW} {dev : Nat → DV} {sto : Nat → ST} {p : Nat} {Q : Int32 → bm_H → Prop} (hC : CK B F N S M ln T dr K ca rm kc kl rk) (hH : RH B T ws wt G ids dir reg seen π w dev sto) (hdr : dr ≤ 2960) (hws : ws.length ≤ 692) (hTl : T.length ≤ 30000) (hp : p < 6) (kk0 : ∀ B' ca' rm', (sto p).2.2.2.2 = true → CK B' F N S (T.length + 256) ln T dr K ca' rm' kc kl rk → RH B' T ws wt G ids dir reg seen π w dev sto → fr (fun y => y = 1) B B' → Q (-3) B') (kk1 : ∀ B' ca' rm', (sto p).2.2.2.2 = false → CK B' F N S (T.length + 256) ln T dr K ca' rm' kc kl rk → RH B' T ws wt G ids dir reg seen π w dev sto → fr (fun y => y = 1) B B' → Q 0 B') : bm_Gi sc (d + 4) 32 [.ref 0, .int 1, .int (nI p)] B Q := by
  show bm_G sc (d + 4) 32 0 [(0, .ref 0), (1, .int 1), (2, .int (nI p))] [] B _
  generalize elv : ([(0, .ref 0), (1, .int 1), (2, .int (nI p))] : tm_L) = lv
  have l0 : lv.lookup 0 = some (.ref 0) := by rw [← elv]; rfl
  have l1 : lv.lookup 1 = some (.int 1) := by rw [← elv]; rfl
  have l2 : lv.lookup 2 = some (.int (nI p)) := by rw [← elv]; rfl
  clear elv
  refine g_ild (pc' := 1) cd_Ho_refusal rfl (Or.inr ⟨_, rfl, rfl, rfl⟩) l1 rfl ?_
  refine g_if1 (t := 6) (pc' := 4) cd_Ho_refusal rfl rfl rfl (fun c1 => ?_) (fun c1 => ?_)
  · have c1 : ¬ (1 : Int32) = 0 := c1
    refine g_ald (pc' := 7) cd_Ho_refusal rfl (Or.inr ⟨_, rfl, rfl, rfl⟩) l0 rfl rfl ?_
    refine g_calli (pc' := 10) cd_Ho_refusal rfl rfl rfl rfl rfl (tm_invV rfl rfl cd_Ho_isFull rfl (Nat.le_of_ble_eq_true rfl) (by decide) hH.1.1.1 hH.1.1.2) (t_isFull hC hH hdr hws hTl (fun B1 ca1 rm1 hC1 hH1 hf1 => ?_))
    have hS1 := hH1.2.2.2.2.2.2 p hp
    have hdn := RSt_dn hS1
    show bm_G _ _ _ 10 _ [.int 0] B1 _
    refine g_if1 (t := 16) (pc' := 13) cd_Ho_refusal rfl rfl rfl (fun c10 => ?_) (fun c10 => ?_)
    · have c10 : (0 : Int32) = 0 := c10
      refine g_ald (pc' := 17) cd_Ho_refusal rfl (Or.inr ⟨_, rfl, rfl, rfl⟩) l0 rfl rfl ?_
      refine g_fR (c := 11) (k := 5) (x := 20) (pc' := 20) cd_Ho_refusal rfl rfl rfl rfl rfl (by decide) hH1.1.1.1 hH1.1.1.2 hH1.1.2.1.2.2.2.2.2.1 ?_
      refine g_ild (pc' := 21) cd_Ho_refusal rfl (Or.inr ⟨_, rfl, rfl, rfl⟩) l2 rfl ?_
      refine g_aR (t := 3) (x := (431 + 209 * p)) (pc' := 22) cd_Ho_refusal rfl rfl hH1.1.2.2.2.1.1 hH1.1.2.2.2.1.2.1 (by decide) rfl rfl (by rw [show bm_AL B1 20 = 6 from hH1.1.2.2.2.1.2.2]; exact vp_in_nI (by omega) (by decide)) (by rw [nI_clamp (by omega)]; exact hH1.2.2.2.2.2.1 p hp) ?_
      refine g_fI (c := 8) (k := 6) (x := bz (sto p).2.2.2.2) (pc' := 25) cd_Ho_refusal rfl rfl rfl rfl rfl (by decide) (RSt_K hS1).1 (RSt_K hS1).2 hdn ?_
      refine g_if1 (t := 33) (pc' := 28) cd_Ho_refusal rfl rfl rfl (fun c25 => ?_) (fun c25 => ?_)
      · have c25 : (sto p).2.2.2.2 = false := bz_f c25
        refine g_k1 (v := 0) (pc' := 34) cd_Ho_refusal rfl (by decide) rfl ?_
        exact g_reti cd_Ho_refusal rfl ⟨_, rfl, (kk1 B1 ca1 rm1 c25 hC1 hH1 hf1)⟩
      · have c25 : (sto p).2.2.2.2 = true := bz_t c25
        refine g_k2 (v := (-3)) (pc' := 30) cd_Ho_refusal rfl (by decide) rfl ?_
        refine g_pure (pc' := 34) (st' := [.int (-3)]) cd_Ho_refusal rfl rfl (fun _ _ => rfl) ?_
        exact g_reti cd_Ho_refusal rfl ⟨_, rfl, (kk0 B1 ca1 rm1 c25 hC1 hH1 hf1)⟩
    · exact absurd (show ¬ (0 : Int32) = 0 from c10) (by decide)
  · exact absurd (show ¬ (¬ (1 : Int32) = 0) from c1) (by decide)
theorem t_refusal0 {sc : tm_X} {d : Nat} {B : bm_H} {x : Int32} {Q : Int32 → bm_H → Prop} (kk : Q (-1) B) : bm_Gi sc d 32 [.ref 0, .int 0, .int x] B Q := by
  show bm_G sc d 32 0 [(0, .ref 0), (1, .int 0), (2, .int x)] [] B _
  generalize elv : ([(0, .ref 0), (1, .int 0), (2, .int x)] : tm_L) = lv
  have l0 : lv.lookup 0 = some (.ref 0) := by rw [← elv]; rfl
  have l1 : lv.lookup 1 = some (.int 0) := by rw [← elv]; rfl
  have l2 : lv.lookup 2 = some (.int x) := by rw [← elv]; rfl
  clear elv
  refine g_ild (pc' := 1) cd_Ho_refusal rfl (Or.inr ⟨_, rfl, rfl, rfl⟩) l1 rfl ?_
  refine g_if1 (t := 6) (pc' := 4) cd_Ho_refusal rfl rfl rfl (fun c1 => ?_) (fun c1 => ?_)
  · exact absurd (show ¬ (0 : Int32) = 0 from c1) (by decide)
  · have c1 : (0 : Int32) = 0 := Classical.not_not.mp c1
    refine g_k1 (v := (-1)) (pc' := 5) cd_Ho_refusal rfl (by decide) rfl ?_
    exact g_reti cd_Ho_refusal rfl ⟨_, rfl, kk⟩
set_option maxRecDepth 100000 in
theorem t_startWork {sc : tm_X} {d : Nat} {B : bm_H} {F : Nat → Prop} {N S M ln : Nat} {T : List Tm} {dr : Nat} {K : Tm → Prop} {ca rm kc kl rk : Nat} {ws : List (Tm × Int32)} {wt : List Tm} {G : LG} {ids dir reg : Nat → Tm} {seen : List Tm} {π : Nat → Nat} {w : Nat → SW} {dev : Nat → DV} {sto : Nat → ST} {p : Nat} {Q : bm_H → Prop} (hC : CK B F N S M ln T dr K ca rm kc kl rk) (hH : RH B T ws wt G ids dir reg seen π w dev sto) (hp : p < 6) (kk : ∀ B', CK B' F N S M ln T dr K ca rm kc kl rk → RH B' T ws [] G ids dir reg seen π w (fset dev 6 (dev p)) sto → fz (fun y => 8 ≤ y ∧ y < 1482) B B' → Q B') : bm_Gv sc (d + 5) 35 [.ref 0, .int (nI p)] B Q := by
  have hV := hH.2.2.2.2.1
  have r6 := rb_in (hV.2.2.1 6 (by decide))
  have rp := rb_in (hV.2.2.1 p (by omega))
  have rn := rb_ne (hV.2.2.1 6 (by decide)) (hV.2.2.1 p (by omega)) (fun e => by have := hV.2.2.2.1 6 p (by decide) (by omega) e; omega)
  show bm_G sc (d + 5) 35 0 [(0, .ref 0), (1, .int (nI p))] [] B _
  generalize elv : ([(0, .ref 0), (1, .int (nI p))] : tm_L) = lv
  have l0 : lv.lookup 0 = some (.ref 0) := by rw [← elv]; rfl
  have l1 : lv.lookup 1 = some (.int (nI p)) := by rw [← elv]; rfl
  clear elv
  refine g_ald (pc' := 1) cd_Ho_startWork rfl (Or.inr ⟨_, rfl, rfl, rfl⟩) l0 rfl rfl ?_
  refine g_fR (c := 11) (k := 11) (x := (rb (π 6))) (pc' := 4) cd_Ho_startWork rfl rfl rfl rfl rfl (by decide) hH.1.1.1 hH.1.1.2 hH.2.2.2.2.1.2.1 ?_
  refine g_ald (pc' := 5) cd_Ho_startWork rfl (Or.inr ⟨_, rfl, rfl, rfl⟩) l0 rfl rfl ?_
  refine g_fR (c := 11) (k := 4) (x := 19) (pc' := 8) cd_Ho_startWork rfl rfl rfl rfl rfl (by decide) hH.1.1.1 hH.1.1.2 hH.1.2.1.2.2.2.2.1 ?_
  refine g_ild (pc' := 9) cd_Ho_startWork rfl (Or.inr ⟨_, rfl, rfl, rfl⟩) l1 rfl ?_
  refine g_aR (t := 2) (x := (rb (π p))) (pc' := 10) cd_Ho_startWork rfl rfl hH.1.2.2.1.1 hH.1.2.2.1.2.1 (by decide) rfl rfl (by rw [show bm_AL B 19 = 6 from hH.1.2.2.1.2.2]; exact vp_in_nI (by omega) (by decide)) (by rw [nI_clamp (by omega)]; exact hV.1 p hp) ?_
  obtain ⟨iD, D0, D1, D2, D3, D4, D5, eD⟩ : ∃ a b c d e f g, dev p = (a, b, c, d, e, f, g) := ⟨_, _, _, _, _, _, _, rfl⟩
  have hDp := hV.2.2.2.2 p (by omega)
  rw [eD] at hDp
  refine g_callv (pc' := 13) cd_Ho_startWork rfl rfl rfl rfl rfl (tm_invV rfl rfl cd_De_copyFrom rfl (Nat.le_of_ble_eq_true rfl) (by decide) (RDe_K (hH.2.2.2.2.1.2.2.2.2 6 (by decide))).1 (RDe_K (hH.2.2.2.2.1.2.2.2.2 6 (by decide))).2) (t_Dcopy (hV.2.2.2.2 6 (by decide)) hDp (by omega) (fun B1 hD1 hz1 => ?_))
  have hH1 := RH_dv (k := 6) hH hz1.1 (fun y q => by omega) (List.prefix_refl T) (by decide) hD1
  rw [fset_eta] at hH1
  have hC1 := CK_cls hC hz1 (fun y q => by omega)
  show bm_G _ _ _ 13 _ [] B1 _
  refine g_ald (pc' := 14) cd_Ho_startWork rfl (Or.inr ⟨_, rfl, rfl, rfl⟩) l0 rfl rfl ?_
  refine g_fR (c := 11) (k := 2) (x := 8) (pc' := 17) cd_Ho_startWork rfl rfl rfl rfl rfl (by decide) hH1.1.1.1 hH1.1.1.2 hH1.1.2.1.2.2.1 ?_
  refine g_callv (pc' := 20) cd_Ho_startWork rfl rfl rfl rfl rfl (tm_invV rfl rfl cd_Wi_startCall rfl (Nat.le_of_ble_eq_true rfl) (by decide) hH1.2.1.1.1.1 hH1.2.1.1.1.2) (t_startCall hH1.2.1 (fun B2 hW2 hz2 => ?_))
  have hH2 := RH_wi hH1 hz2.1 (fun y q => by omega) (List.prefix_refl T) hW2
  have hC2 := CK_cls hC1 hz2 (fun y q => by omega)
  rw [← eD] at hH2
  show bm_G _ _ _ 20 _ [] B2 _
  exact g_retv cd_Ho_startWork rfl ⟨rfl, (kk B2 hC2 hH2 (fz_trans (fz_mono (fun y q => by omega) hz1) (fz_mono (fun y q => by omega) hz2)))⟩
theorem st_commit_le {p : Bool} {P : EN2} {c : Option Nat} {W : EN2} : (st_commit p P c W).1 ≤ 2 := by
  unfold st_commit
  split
  · exact Nat.zero_le _
  · dsimp only; split <;> decide
set_option maxRecDepth 100000 in
theorem t_finish {sc : tm_X} {d : Nat} {B : bm_H} {F : Nat → Prop} {N S M ln : Nat} {T : List Tm} {dr : Nat} {K : Tm → Prop} {ca rm kc kl rk : Nat} {ws : List (Tm × Int32)} {wt : List Tm} {G : LG} {ids dir reg : Nat → Tm} {seen : List Tm} {π : Nat → Nat} {w : Nat → SW} {dev : Nat → DV} {sto : Nat → ST} {p : Nat} {p0 : Bool} {P : EN2} {c : Option Nat} {dn : Bool} {Q : Int32 → bm_H → Prop} (hC : CK B F N S M ln T dr K ca rm kc kl rk) (hH : RH B T ws wt G ids dir reg seen π w dev sto) (hp : p < 6) (hst : sto p = (p0, P, [], c, dn)) (hen : (dv_en (dev 6)).length ≤ 536) (kk0 : ∀ B', (st_commit p0 P c (dv_en (dev 6))).1 = 0 → CK B' F N S M ln T dr K ca rm kc kl rk → RH B' T ws wt G ids dir reg seen π w dev (fset sto p (st_commit p0 P c (dv_en (dev 6))).2) → fz (fun y => y = 0 ∨ (8 ≤ y ∧ y < 1482)) B B' → Q 0 B') (kk1 : ∀ B', (st_commit p0 P c (dv_en (dev 6))).1 ≠ 0 → CK B' F N S M ln T dr K ca rm kc kl rk → RH B' T ws wt G ids dir reg seen (sw6 π p) (sw6 w p) (sw6 dev p) (fset sto p (st_commit p0 P c (dv_en (dev 6))).2) → fz (fun y => y = 0 ∨ (8 ≤ y ∧ y < 1482)) B B' → Q (bz (decide ((st_commit p0 P c (dv_en (dev 6))).1 = 2))) B') : bm_Gi sc (d + 4) 45 [.ref 0, .int (nI p)] B Q := by
  have hV := hH.2.2.2.2.1
  have r6 := rb_in (hV.2.2.1 6 (by decide))
  have rs := rb_st (hV.2.2.1 6 (by decide)) hp
  have hS0 := hH.2.2.2.2.2.2 p hp
  rw [hst] at hS0
  obtain ⟨iD, D0, D1, D2, D3, D4, D5, eD⟩ : ∃ a b c d e f g, dev 6 = (a, b, c, d, e, f, g) := ⟨_, _, _, _, _, _, _, rfl⟩
  have hDp := hV.2.2.2.2 6 (by decide)
  have hen2 := hen
  rw [eD] at hDp hen2
  show bm_G sc (d + 4) 45 0 [(0, .ref 0), (1, .int (nI p))] [] B _
  generalize elv : ([(0, .ref 0), (1, .int (nI p))] : tm_L) = lv
  have l0 : lv.lookup 0 = some (.ref 0) := by rw [← elv]; rfl
  have l1 : lv.lookup 1 = some (.int (nI p)) := by rw [← elv]; rfl
  clear elv
  refine g_ald (pc' := 1) cd_Ho_finish rfl (Or.inr ⟨_, rfl, rfl, rfl⟩) l0 rfl rfl ?_
  refine g_fR (c := 11) (k := 11) (x := (rb (π 6))) (pc' := 4) cd_Ho_finish rfl rfl rfl rfl rfl (by decide) hH.1.1.1 hH.1.1.2 hH.2.2.2.2.1.2.1 ?_
  refine g_ald (pc' := 5) cd_Ho_finish rfl (Or.inr ⟨_, rfl, rfl, rfl⟩) l0 rfl rfl ?_
  refine g_fR (c := 11) (k := 5) (x := 20) (pc' := 8) cd_Ho_finish rfl rfl rfl rfl rfl (by decide) hH.1.1.1 hH.1.1.2 hH.1.2.1.2.2.2.2.2.1 ?_
  refine g_ild (pc' := 9) cd_Ho_finish rfl (Or.inr ⟨_, rfl, rfl, rfl⟩) l1 rfl ?_
  refine g_aR (t := 3) (x := (431 + 209 * p)) (pc' := 10) cd_Ho_finish rfl rfl hH.1.2.2.2.1.1 hH.1.2.2.2.1.2.1 (by decide) rfl rfl (by rw [show bm_AL B 20 = 6 from hH.1.2.2.2.1.2.2]; exact vp_in_nI (by omega) (by decide)) (by rw [nI_clamp (by omega)]; exact hH.2.2.2.2.2.1 p hp) ?_
  refine g_callv (pc' := 13) cd_Ho_finish rfl rfl rfl rfl rfl (tm_invV rfl rfl cd_De_writeEntries rfl (Nat.le_of_ble_eq_true rfl) (by decide) (RDe_K (hH.2.2.2.2.1.2.2.2.2 6 (by decide))).1 (RDe_K (hH.2.2.2.2.1.2.2.2.2 6 (by decide))).2) (t_Dw (TI_T0 hC.1) rs hDp hS0 hen2 (fun B1 hw1 hz1 => ?_))
  have hx1 : ∀ y, stx (431 + 209 * p) y → 431 + 209 * p ≤ y ∧ y < 431 + 209 * p + 6 := fun y q => by unfold stx at q; omega
  have hS1 := HoS_fr hH.1 hz1.1
  have hAR20 : bm_AR B1 20 p = some (431 + 209 * p) := by rw [fr_AR hz1.1 hH.1.2.2.2.1.1 (fun q => by have := hx1 _ q; omega)]; exact hH.2.2.2.2.2.1 p hp
  rw [← eD] at hw1
  show bm_G _ _ _ 13 _ [] B1 _
  refine g_ald (pc' := 14) cd_Ho_finish rfl (Or.inr ⟨_, rfl, rfl, rfl⟩) l0 rfl rfl ?_
  refine g_fR (c := 11) (k := 5) (x := 20) (pc' := 17) cd_Ho_finish rfl rfl rfl rfl rfl (by decide) hS1.1.1 hS1.1.2 hS1.2.1.2.2.2.2.2.1 ?_
  refine g_ild (pc' := 18) cd_Ho_finish rfl (Or.inr ⟨_, rfl, rfl, rfl⟩) l1 rfl ?_
  refine g_aR (t := 3) (x := (431 + 209 * p)) (pc' := 19) cd_Ho_finish rfl rfl hS1.2.2.2.1.1 hS1.2.2.2.1.2.1 (by decide) rfl rfl (by rw [show bm_AL B1 20 = 6 from hS1.2.2.2.1.2.2]; exact vp_in_nI (by omega) (by decide)) (by rw [nI_clamp (by omega)]; exact hAR20) ?_
  refine g_calli (pc' := 22) cd_Ho_finish rfl rfl rfl rfl rfl (tm_invV rfl rfl cd_St_commit rfl (Nat.le_of_ble_eq_true rfl) (by decide) hw1.1.1.1.1.1 hw1.1.1.1.1.2) (t_commit hw1 (fun B2 hR2 hz2 => ?_))
  have hz12 := fz_trans hz1 hz2
  have hx1 : ∀ y, stx (431 + 209 * p) y → 431 + 209 * p ≤ y ∧ y < 431 + 209 * p + 6 := fun y q => by unfold stx at q; omega
  have hH2 := RH_st (k := p) hH hz12.1 (fun y q r => by have := hx1 _ r; omega) (List.prefix_refl T) hp hR2
  have hC2 := CK_cls hC hz12 (fun y q => by have := hx1 _ q; omega)
  have hV2 := hH2.2.2.2.2.1
  have hcv : ((st_commit p0 P c (dv_en (dev 6)))).1 ≤ 2 := st_commit_le
  show bm_G _ _ _ 22 _ [.int (nI (st_commit p0 P c (dv_en (dev 6))).1)] B2 _
  refine g_ist (pc' := 23) cd_Ho_finish rfl (Or.inr ⟨_, rfl, rfl, rfl⟩) (by decide) rfl (fun lv el => ?_)
  have l0 := tm_lk el l0 rfl (by decide)
  have l1 := tm_lk el l1 rfl (by decide)
  have l2 : lv.lookup 2 = some (.int (nI (st_commit p0 P c (dv_en (dev 6))).1)) := tm_lks el
  clear el
  refine g_ild (pc' := 24) cd_Ho_finish rfl (Or.inr ⟨_, rfl, rfl, rfl⟩) l2 rfl ?_
  refine g_if1 (t := 49) (pc' := 27) cd_Ho_finish rfl rfl rfl (fun c24 => ?_) (fun c24 => ?_)
  · have c24 : (nI (st_commit p0 P c (dv_en (dev 6))).1) = 0 := c24
    refine g_ild (pc' := 50) cd_Ho_finish rfl (Or.inr ⟨_, rfl, rfl, rfl⟩) l2 rfl ?_
    refine g_k1 (v := 2) (pc' := 51) cd_Ho_finish rfl (by decide) rfl ?_
    refine g_if2 (t := 58) (pc' := 54) cd_Ho_finish rfl rfl rfl (fun c51 => ?_) (fun c51 => ?_)
    · have c51 : ¬ (nI (st_commit p0 P c (dv_en (dev 6))).1) = 2 := c51
      refine g_k1 (v := 0) (pc' := 59) cd_Ho_finish rfl (by decide) rfl ?_
      exact g_retz cd_Ho_finish rfl (Or.inl rfl) ⟨_, rfl, (kk0 B2 ((nI_eq (b := 0) (by omega) (by decide)).mp c24) hC2 hH2 (fz_mono (fun y q => by have := hx1 _ q; omega) hz12))⟩
    · have c51 : (nI (st_commit p0 P c (dv_en (dev 6))).1) = 2 := Classical.not_not.mp c51
      refine g_k1 (v := 1) (pc' := 55) cd_Ho_finish rfl (by decide) rfl ?_
      refine g_pure (pc' := 59) (st' := [.int 1]) cd_Ho_finish rfl rfl (fun _ _ => rfl) ?_
      exact g_retz cd_Ho_finish rfl (Or.inr rfl) ⟨_, rfl, (absurd c24 (by rw [show nI (st_commit p0 P c (dv_en (dev 6))).1 = 2 from c51]; decide))⟩
  · have c24 : ¬ (nI (st_commit p0 P c (dv_en (dev 6))).1) = 0 := c24
    refine g_ald (pc' := 28) cd_Ho_finish rfl (Or.inr ⟨_, rfl, rfl, rfl⟩) l0 rfl rfl ?_
    refine g_fR (c := 11) (k := 4) (x := 19) (pc' := 31) cd_Ho_finish rfl rfl rfl rfl rfl (by decide) hH2.1.1.1 hH2.1.1.2 hH2.1.2.1.2.2.2.2.1 ?_
    refine g_ild (pc' := 32) cd_Ho_finish rfl (Or.inr ⟨_, rfl, rfl, rfl⟩) l1 rfl ?_
    refine g_aR (t := 2) (x := (rb (π p))) (pc' := 33) cd_Ho_finish rfl rfl hH2.1.2.2.1.1 hH2.1.2.2.1.2.1 (by decide) rfl rfl (by rw [show bm_AL B2 19 = 6 from hH2.1.2.2.1.2.2]; exact vp_in_nI (by omega) (by decide)) (by rw [nI_clamp (by omega)]; exact hV2.1 p hp) ?_
    refine g_ast (pc' := 34) cd_Ho_finish rfl (Or.inr ⟨_, rfl, rfl, rfl⟩) rfl (by decide) rfl (fun lv el => ?_)
    have l0 := tm_lk el l0 rfl (by decide)
    have l1 := tm_lk el l1 rfl (by decide)
    have l2 := tm_lk el l2 rfl (by decide)
    have l3 : lv.lookup 3 = some (.ref ((rb (π p)))) := tm_lks el
    clear el
    refine g_ald (pc' := 35) cd_Ho_finish rfl (Or.inr ⟨_, rfl, rfl, rfl⟩) l0 rfl rfl ?_
    refine g_fR (c := 11) (k := 4) (x := 19) (pc' := 38) cd_Ho_finish rfl rfl rfl rfl rfl (by decide) hH2.1.1.1 hH2.1.1.2 hH2.1.2.1.2.2.2.2.1 ?_
    refine g_ild (pc' := 39) cd_Ho_finish rfl (Or.inr ⟨_, rfl, rfl, rfl⟩) l1 rfl ?_
    refine g_ald (pc' := 40) cd_Ho_finish rfl (Or.inr ⟨_, rfl, rfl, rfl⟩) l0 rfl rfl ?_
    refine g_fR (c := 11) (k := 11) (x := (rb (π 6))) (pc' := 43) cd_Ho_finish rfl rfl rfl rfl rfl (by decide) hH2.1.1.1 hH2.1.1.2 hH2.2.2.2.2.1.2.1 ?_
    refine g_aast (t := 2) (pc' := 44) cd_Ho_finish rfl rfl hH2.1.2.2.1.1 hH2.1.2.2.1.2.1 (by decide) rfl rfl (RDe_K (hH2.2.2.2.2.1.2.2.2.2 6 (by decide))).1 (RDe_K (hH2.2.2.2.2.1.2.2.2.2 6 (by decide))).2 (by rw [show bm_AL B2 19 = 6 from hH2.1.2.2.1.2.2]; exact vp_in_nI (by omega) (by decide)) ?_
    rw [nI_clamp (show p < 2 ^ 31 by omega)]
    refine g_ald (pc' := 45) cd_Ho_finish rfl (Or.inr ⟨_, rfl, rfl, rfl⟩) l0 rfl rfl ?_
    refine g_ald (pc' := 46) cd_Ho_finish rfl (Or.inr ⟨_, rfl, rfl, rfl⟩) l3 rfl rfl ?_
    refine g_putR (v := some (rb (π p))) (c := 11) (k := 11) (pc' := 49) rfl cd_Ho_finish rfl rfl rfl rfl (by simp [tm_okV, narrow, fits]) (Or.inl rfl) rfl (by decide) hH2.1.1.1 hH2.1.1.2 ?_
    refine g_ild (pc' := 50) cd_Ho_finish rfl (Or.inr ⟨_, rfl, rfl, rfl⟩) l2 rfl ?_
    refine g_k1 (v := 2) (pc' := 51) cd_Ho_finish rfl (by decide) rfl ?_
    refine g_if2 (t := 58) (pc' := 54) cd_Ho_finish rfl rfl rfl (fun c51 => ?_) (fun c51 => ?_)
    · have c51 : ¬ (nI (st_commit p0 P c (dv_en (dev 6))).1) = 2 := c51
      refine g_k1 (v := 0) (pc' := 59) cd_Ho_finish rfl (by decide) rfl ?_
      have hz3 : fz (fun y => y = 0 ∨ y = 19) B2 (bm_putR (bm_setR B2 19 p (some (rb (π 6)))) 11 11 0 (some (rb (π p)))) := fz_trans ⟨fr_mono (fun _ q => Or.inr q) (fr_setR B2 19 p _), rfl, rfl⟩ ⟨fr_mono (fun _ q => Or.inl q) (fr_putR _ 11 11 0 _ rfl), rfl, rfl⟩
      have hH3 := RH_swap hp hH2 hz3.1 (fun j => by show (if 19 = 19 ∧ j = p then some (rb (π 6)) else bm_AR B2 19 j) = _; simp) rfl rfl
      have hC3 := CK_cls hC2 hz3 (fun y q => by omega)
      exact g_retz cd_Ho_finish rfl (Or.inl rfl) ⟨_, rfl, (bm_eq (kk1 _ (fun q => c24 (by rw [q]; rfl)) hC3 hH3 (fz_trans (fz_mono (fun y q => by have := hx1 _ q; omega) hz12) (fz_mono (fun y q => by omega) hz3))) (by rw [decide_eq_false (fun q => c51 (by rw [q]; rfl))]; rfl))⟩
    · have c51 : (nI (st_commit p0 P c (dv_en (dev 6))).1) = 2 := Classical.not_not.mp c51
      refine g_k1 (v := 1) (pc' := 55) cd_Ho_finish rfl (by decide) rfl ?_
      refine g_pure (pc' := 59) (st' := [.int 1]) cd_Ho_finish rfl rfl (fun _ _ => rfl) ?_
      have hz3 : fz (fun y => y = 0 ∨ y = 19) B2 (bm_putR (bm_setR B2 19 p (some (rb (π 6)))) 11 11 0 (some (rb (π p)))) := fz_trans ⟨fr_mono (fun _ q => Or.inr q) (fr_setR B2 19 p _), rfl, rfl⟩ ⟨fr_mono (fun _ q => Or.inl q) (fr_putR _ 11 11 0 _ rfl), rfl, rfl⟩
      have hH3 := RH_swap hp hH2 hz3.1 (fun j => by show (if 19 = 19 ∧ j = p then some (rb (π 6)) else bm_AR B2 19 j) = _; simp) rfl rfl
      have hC3 := CK_cls hC2 hz3 (fun y q => by omega)
      exact g_retz cd_Ho_finish rfl (Or.inr rfl) ⟨_, rfl, (bm_eq (kk1 _ (fun q => c24 (by rw [q]; rfl)) hC3 hH3 (fz_trans (fz_mono (fun y q => by have := hx1 _ q; omega) hz12) (fz_mono (fun y q => by omega) hz3))) (by rw [decide_eq_true ((nI_eq (b := 2) (by omega) (by decide)).mp c51)]; rfl))⟩
