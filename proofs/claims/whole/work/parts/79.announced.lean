/-! What is announced -/
noncomputable def an_pre (dir ids : Nat → Tm) (p : Nat) : Tm := cif (kd (dir (p * 5)) = 6 ∧ pt (dir (p * 5)) 0 = ids p ∧ Tgood 1 (pt (dir (p * 5)) 1) = true ∧ nu (pt (dir (p * 5)) 1) 0 = nI p) (pt (pt (dir (p * 5)) 1) 0) tz
def an_once (dir : Nat → Tm) (p : Nat) : Nat → Nat → Tm × (Nat → Tm)
  | 0, _ => (tz, dir)
  | n + 1, i => if tnil (dir i) = true then an_once dir p n (i + 1) else ((if Tgood 2 (dir i) = true ∧ nu (dir i) 0 = nI p then pt (dir i) 0 else tz), fset dir i tz)
set_option maxRecDepth 100000 in
theorem t_annPre {sc : tm_X} {d : Nat} {B : bm_H} {F : Nat → Prop} {N S M ln : Nat} {T : List Tm} {dr : Nat} {K : Tm → Prop} {ca rm kc kl rk : Nat} {ws : List (Tm × Int32)} {wt : List Tm} {G : LG} {ids dir reg : Nat → Tm} {seen : List Tm} {π : Nat → Nat} {w : Nat → SW} {dev : Nat → DV} {sto : Nat → ST} {p : Nat} {Q : Int32 → bm_H → Prop} (hC : CK B F N S M ln T dr K ca rm kc kl rk) (hH : RH B T ws wt G ids dir reg seen π w dev sto) (hp : p < 6) (kk : ∀ x, tv T x (an_pre dir ids p) → Q x B) : bm_Gi sc (d + 3) 67 [.ref 0, .int (nI p)] B Q := by
  have t0 := hH.2.2.2.1.2.1 (p * 5) (by omega)
  have ti := hH.2.2.2.1.1 p hp
  show bm_G sc (d + 3) 67 0 [(0, .ref 0), (1, .int (nI p))] [] B _
  generalize elv : ([(0, .ref 0), (1, .int (nI p))] : tm_L) = lv
  have l0 : lv.lookup 0 = some (.ref 0) := by rw [← elv]; rfl
  have l1 : lv.lookup 1 = some (.int (nI p)) := by rw [← elv]; rfl
  clear elv
  refine g_ald (pc' := 1) cd_Ho_announcedPrekey rfl (Or.inr ⟨_, rfl, rfl, rfl⟩) l0 rfl rfl ?_
  refine g_fR (c := 11) (k := 7) (x := 22) (pc' := 4) cd_Ho_announcedPrekey rfl rfl rfl rfl rfl (by decide) hH.1.1.1 hH.1.1.2 hH.1.2.1.2.2.2.2.2.2.2.1 ?_
  refine g_ild (pc' := 5) cd_Ho_announcedPrekey rfl (Or.inr ⟨_, rfl, rfl, rfl⟩) l1 rfl ?_
  refine g_k1 (v := 5) (pc' := 6) cd_Ho_announcedPrekey rfl (by decide) rfl ?_
  refine g_pure (pc' := 7) (st' := [.int ((nI p) * 5), .ref 22]) cd_Ho_announcedPrekey rfl rfl (fun _ _ => rfl) ?_
  rw [show ((nI p) * 5 : Int32) = nI (p * 5) from pk_mul p 5]
  refine g_aI (x := (bm_AI B 22 (p * 5))) (pc' := 8) cd_Ho_announcedPrekey rfl rfl hH.1.2.2.2.2.2.1.1 hH.1.2.2.2.2.2.1.2.1 (by rw [show bm_AL B 22 = 30 from hH.1.2.2.2.2.2.1.2.2]; exact vp_in_nI (by omega) (by decide)) (congrArg (bm_AI B 22) (nI_clamp (by omega))) ?_
  refine g_ist (pc' := 9) cd_Ho_announcedPrekey rfl (Or.inr ⟨_, rfl, rfl, rfl⟩) (by decide) rfl (fun lv el => ?_)
  have l0 := tm_lk el l0 rfl (by decide)
  have l1 := tm_lk el l1 rfl (by decide)
  have l2 : lv.lookup 2 = some (.int ((bm_AI B 22 (p * 5)))) := tm_lks el
  clear el
  refine g_ald (pc' := 10) cd_Ho_announcedPrekey rfl (Or.inr ⟨_, rfl, rfl, rfl⟩) l0 rfl rfl ?_
  refine g_fR (c := 11) (k := 0) (x := 1) (pc' := 13) cd_Ho_announcedPrekey rfl rfl rfl rfl rfl (by decide) hH.1.1.1 hH.1.1.2 hH.1.2.1.1 ?_
  refine g_ild (pc' := 14) cd_Ho_announcedPrekey rfl (Or.inr ⟨_, rfl, rfl, rfl⟩) l2 rfl ?_
  refine g_k1 (v := 1) (pc' := 15) cd_Ho_announcedPrekey rfl (by decide) rfl ?_
  refine g_calli (pc' := 18) cd_Ho_announcedPrekey rfl rfl rfl rfl rfl (tm_invV rfl rfl cd_Te_partOf rfl (Nat.le_of_ble_eq_true rfl) (by decide) hC.1.1.1.1 hC.1.1.1.2) (t_partOf (i := 1) hC.1 t0 (by decide) (fun r1 ht1 => ?_))
  show bm_G _ _ _ 18 _ [.int r1] B _
  refine g_ist (pc' := 19) cd_Ho_announcedPrekey rfl (Or.inr ⟨_, rfl, rfl, rfl⟩) (by decide) rfl (fun lv el => ?_)
  have l0 := tm_lk el l0 rfl (by decide)
  have l1 := tm_lk el l1 rfl (by decide)
  have l2 := tm_lk el l2 rfl (by decide)
  have l3 : lv.lookup 3 = some (.int r1) := tm_lks el
  clear el
  refine g_ald (pc' := 20) cd_Ho_announcedPrekey rfl (Or.inr ⟨_, rfl, rfl, rfl⟩) l0 rfl rfl ?_
  refine g_fR (c := 11) (k := 0) (x := 1) (pc' := 23) cd_Ho_announcedPrekey rfl rfl rfl rfl rfl (by decide) hH.1.1.1 hH.1.1.2 hH.1.2.1.1 ?_
  refine g_ild (pc' := 24) cd_Ho_announcedPrekey rfl (Or.inr ⟨_, rfl, rfl, rfl⟩) l2 rfl ?_
  refine g_calli (pc' := 27) cd_Ho_announcedPrekey rfl rfl rfl rfl rfl (tm_invV rfl rfl cd_Te_kindOf rfl (Nat.le_of_ble_eq_true rfl) (by decide) hC.1.1.1.1 hC.1.1.1.2) (t_kindOf hC.1 t0 ?_)
  show bm_G _ _ _ 27 _ [.int (kd (dir (p * 5)))] B _
  refine g_k2 (v := 6) (pc' := 29) cd_Ho_announcedPrekey rfl (by decide) rfl ?_
  refine g_if2 (t := 79) (pc' := 32) cd_Ho_announcedPrekey rfl rfl rfl (fun c29 => ?_) (fun c29 => ?_)
  · have c29 : ¬ (kd (dir (p * 5))) = 6 := c29
    refine g_k1 (v := 0) (pc' := 80) cd_Ho_announcedPrekey rfl (by decide) rfl ?_
    refine g_ist (pc' := 82) cd_Ho_announcedPrekey rfl (Or.inl ⟨rfl, rfl⟩) (by decide) rfl (fun lv el => ?_)
    have l0 := tm_lk el l0 rfl (by decide)
    have l1 := tm_lk el l1 rfl (by decide)
    have l2 := tm_lk el l2 rfl (by decide)
    have l3 := tm_lk el l3 rfl (by decide)
    have l4 : lv.lookup 4 = some (.int 0) := tm_lks el
    clear el
    refine g_ild (pc' := 84) cd_Ho_announcedPrekey rfl (Or.inl ⟨rfl, rfl⟩) l4 rfl ?_
    refine g_if1 (t := 99) (pc' := 87) cd_Ho_announcedPrekey rfl rfl rfl (fun c84 => ?_) (fun c84 => ?_)
    · have c84 : (0 : Int32) = 0 := c84
      refine g_k1 (v := 0) (pc' := 100) cd_Ho_announcedPrekey rfl (by decide) rfl ?_
      exact g_reti cd_Ho_announcedPrekey rfl ⟨_, rfl, (kk _ (by unfold an_pre; rw [cif_f (fun q => c29 q.1)]; exact TI_z hC.1))⟩
    · exact absurd (show ¬ (0 : Int32) = 0 from c84) (by decide)
  · have c29 : (kd (dir (p * 5))) = 6 := Classical.not_not.mp c29
    refine g_ald (pc' := 33) cd_Ho_announcedPrekey rfl (Or.inr ⟨_, rfl, rfl, rfl⟩) l0 rfl rfl ?_
    refine g_fR (c := 11) (k := 0) (x := 1) (pc' := 36) cd_Ho_announcedPrekey rfl rfl rfl rfl rfl (by decide) hH.1.1.1 hH.1.1.2 hH.1.2.1.1 ?_
    refine g_ild (pc' := 37) cd_Ho_announcedPrekey rfl (Or.inr ⟨_, rfl, rfl, rfl⟩) l2 rfl ?_
    refine g_k1 (v := 0) (pc' := 38) cd_Ho_announcedPrekey rfl (by decide) rfl ?_
    refine g_calli (pc' := 41) cd_Ho_announcedPrekey rfl rfl rfl rfl rfl (tm_invV rfl rfl cd_Te_partOf rfl (Nat.le_of_ble_eq_true rfl) (by decide) hC.1.1.1.1 hC.1.1.1.2) (t_partOf (i := 0) hC.1 t0 (by decide) (fun r2 ht2 => ?_))
    show bm_G _ _ _ 41 _ [.int r2] B _
    refine g_ald (pc' := 42) cd_Ho_announcedPrekey rfl (Or.inr ⟨_, rfl, rfl, rfl⟩) l0 rfl rfl ?_
    refine g_fR (c := 11) (k := 6) (x := 21) (pc' := 45) cd_Ho_announcedPrekey rfl rfl rfl rfl rfl (by decide) hH.1.1.1 hH.1.1.2 hH.1.2.1.2.2.2.2.2.2.1 ?_
    refine g_ild (pc' := 46) cd_Ho_announcedPrekey rfl (Or.inr ⟨_, rfl, rfl, rfl⟩) l1 rfl ?_
    refine g_aI (x := (bm_AI B 21 p)) (pc' := 47) cd_Ho_announcedPrekey rfl rfl hH.1.2.2.2.2.1.1 hH.1.2.2.2.2.1.2.1 (by rw [show bm_AL B 21 = 6 from hH.1.2.2.2.2.1.2.2]; exact vp_in_nI (by omega) (by decide)) (congrArg (bm_AI B 21) (nI_clamp (by omega))) ?_
    refine g_if2 (t := 79) (pc' := 50) cd_Ho_announcedPrekey rfl rfl rfl (fun c47 => ?_) (fun c47 => ?_)
    · have c47 : ¬ r2 = (bm_AI B 21 p) := c47
      refine g_k1 (v := 0) (pc' := 80) cd_Ho_announcedPrekey rfl (by decide) rfl ?_
      refine g_ist (pc' := 82) cd_Ho_announcedPrekey rfl (Or.inl ⟨rfl, rfl⟩) (by decide) rfl (fun lv el => ?_)
      have l0 := tm_lk el l0 rfl (by decide)
      have l1 := tm_lk el l1 rfl (by decide)
      have l2 := tm_lk el l2 rfl (by decide)
      have l3 := tm_lk el l3 rfl (by decide)
      have l4 : lv.lookup 4 = some (.int 0) := tm_lks el
      clear el
      refine g_ild (pc' := 84) cd_Ho_announcedPrekey rfl (Or.inl ⟨rfl, rfl⟩) l4 rfl ?_
      refine g_if1 (t := 99) (pc' := 87) cd_Ho_announcedPrekey rfl rfl rfl (fun c84 => ?_) (fun c84 => ?_)
      · have c84 : (0 : Int32) = 0 := c84
        refine g_k1 (v := 0) (pc' := 100) cd_Ho_announcedPrekey rfl (by decide) rfl ?_
        exact g_reti cd_Ho_announcedPrekey rfl ⟨_, rfl, (kk _ (by unfold an_pre; rw [cif_f (fun q => c47 ((TI_eq hC.1 ht2 ti).mpr q.2.1))]; exact TI_z hC.1))⟩
      · exact absurd (show ¬ (0 : Int32) = 0 from c84) (by decide)
    · have c47 : r2 = (bm_AI B 21 p) := Classical.not_not.mp c47
      refine g_ald (pc' := 51) cd_Ho_announcedPrekey rfl (Or.inr ⟨_, rfl, rfl, rfl⟩) l0 rfl rfl ?_
      refine g_fR (c := 11) (k := 0) (x := 1) (pc' := 54) cd_Ho_announcedPrekey rfl rfl rfl rfl rfl (by decide) hH.1.1.1 hH.1.1.2 hH.1.2.1.1 ?_
      refine g_ild (pc' := 55) cd_Ho_announcedPrekey rfl (Or.inr ⟨_, rfl, rfl, rfl⟩) l3 rfl ?_
      refine g_k1 (v := 1) (pc' := 56) cd_Ho_announcedPrekey rfl (by decide) rfl ?_
      refine g_calli (pc' := 59) cd_Ho_announcedPrekey rfl rfl rfl rfl rfl (tm_invV rfl rfl cd_Te_isGood rfl (Nat.le_of_ble_eq_true rfl) (by decide) hC.1.1.1.1 hC.1.1.1.2) (t_isGood (k := 1) (by decide) hC.1 ht1 ?_)
      show bm_G _ _ _ 59 _ [.int (bz (Tgood 1 (pt (dir (p * 5)) 1)))] B _
      refine g_if1 (t := 79) (pc' := 62) cd_Ho_announcedPrekey rfl rfl rfl (fun c59 => ?_) (fun c59 => ?_)
      · have c59 : (Tgood 1 (pt (dir (p * 5)) 1)) = false := bz_f c59
        refine g_k1 (v := 0) (pc' := 80) cd_Ho_announcedPrekey rfl (by decide) rfl ?_
        refine g_ist (pc' := 82) cd_Ho_announcedPrekey rfl (Or.inl ⟨rfl, rfl⟩) (by decide) rfl (fun lv el => ?_)
        have l0 := tm_lk el l0 rfl (by decide)
        have l1 := tm_lk el l1 rfl (by decide)
        have l2 := tm_lk el l2 rfl (by decide)
        have l3 := tm_lk el l3 rfl (by decide)
        have l4 : lv.lookup 4 = some (.int 0) := tm_lks el
        clear el
        refine g_ild (pc' := 84) cd_Ho_announcedPrekey rfl (Or.inl ⟨rfl, rfl⟩) l4 rfl ?_
        refine g_if1 (t := 99) (pc' := 87) cd_Ho_announcedPrekey rfl rfl rfl (fun c84 => ?_) (fun c84 => ?_)
        · have c84 : (0 : Int32) = 0 := c84
          refine g_k1 (v := 0) (pc' := 100) cd_Ho_announcedPrekey rfl (by decide) rfl ?_
          exact g_reti cd_Ho_announcedPrekey rfl ⟨_, rfl, (kk _ (by unfold an_pre; rw [cif_f (fun q => absurd (c59.symm.trans q.2.2.1) (by decide))]; exact TI_z hC.1))⟩
        · exact absurd (show ¬ (0 : Int32) = 0 from c84) (by decide)
      · have c59 : (Tgood 1 (pt (dir (p * 5)) 1)) = true := bz_t c59
        refine g_ald (pc' := 63) cd_Ho_announcedPrekey rfl (Or.inr ⟨_, rfl, rfl, rfl⟩) l0 rfl rfl ?_
        refine g_fR (c := 11) (k := 0) (x := 1) (pc' := 66) cd_Ho_announcedPrekey rfl rfl rfl rfl rfl (by decide) hH.1.1.1 hH.1.1.2 hH.1.2.1.1 ?_
        refine g_ild (pc' := 67) cd_Ho_announcedPrekey rfl (Or.inr ⟨_, rfl, rfl, rfl⟩) l3 rfl ?_
        refine g_k1 (v := 0) (pc' := 68) cd_Ho_announcedPrekey rfl (by decide) rfl ?_
        refine g_calli (pc' := 71) cd_Ho_announcedPrekey rfl rfl rfl rfl rfl (tm_invV rfl rfl cd_Te_numberOf rfl (Nat.le_of_ble_eq_true rfl) (by decide) hC.1.1.1.1 hC.1.1.1.2) (t_numberOf (i := 0) hC.1 ht1 (by decide) ?_)
        show bm_G _ _ _ 71 _ [.int (nu (pt (dir (p * 5)) 1) 0)] B _
        refine g_ild (pc' := 72) cd_Ho_announcedPrekey rfl (Or.inr ⟨_, rfl, rfl, rfl⟩) l1 rfl ?_
        refine g_if2 (t := 79) (pc' := 75) cd_Ho_announcedPrekey rfl rfl rfl (fun c72 => ?_) (fun c72 => ?_)
        · have c72 : ¬ (nu (pt (dir (p * 5)) 1) 0) = (nI p) := c72
          refine g_k1 (v := 0) (pc' := 80) cd_Ho_announcedPrekey rfl (by decide) rfl ?_
          refine g_ist (pc' := 82) cd_Ho_announcedPrekey rfl (Or.inl ⟨rfl, rfl⟩) (by decide) rfl (fun lv el => ?_)
          have l0 := tm_lk el l0 rfl (by decide)
          have l1 := tm_lk el l1 rfl (by decide)
          have l2 := tm_lk el l2 rfl (by decide)
          have l3 := tm_lk el l3 rfl (by decide)
          have l4 : lv.lookup 4 = some (.int 0) := tm_lks el
          clear el
          refine g_ild (pc' := 84) cd_Ho_announcedPrekey rfl (Or.inl ⟨rfl, rfl⟩) l4 rfl ?_
          refine g_if1 (t := 99) (pc' := 87) cd_Ho_announcedPrekey rfl rfl rfl (fun c84 => ?_) (fun c84 => ?_)
          · have c84 : (0 : Int32) = 0 := c84
            refine g_k1 (v := 0) (pc' := 100) cd_Ho_announcedPrekey rfl (by decide) rfl ?_
            exact g_reti cd_Ho_announcedPrekey rfl ⟨_, rfl, (kk _ (by unfold an_pre; rw [cif_f (fun q => c72 q.2.2.2)]; exact TI_z hC.1))⟩
          · exact absurd (show ¬ (0 : Int32) = 0 from c84) (by decide)
        · have c72 : (nu (pt (dir (p * 5)) 1) 0) = (nI p) := Classical.not_not.mp c72
          refine g_k1 (v := 1) (pc' := 76) cd_Ho_announcedPrekey rfl (by decide) rfl ?_
          refine g_pure (pc' := 80) (st' := [.int 1]) cd_Ho_announcedPrekey rfl rfl (fun _ _ => rfl) ?_
          refine g_ist (pc' := 82) cd_Ho_announcedPrekey rfl (Or.inl ⟨rfl, rfl⟩) (by decide) rfl (fun lv el => ?_)
          have l0 := tm_lk el l0 rfl (by decide)
          have l1 := tm_lk el l1 rfl (by decide)
          have l2 := tm_lk el l2 rfl (by decide)
          have l3 := tm_lk el l3 rfl (by decide)
          have l4 : lv.lookup 4 = some (.int 1) := tm_lks el
          clear el
          refine g_ild (pc' := 84) cd_Ho_announcedPrekey rfl (Or.inl ⟨rfl, rfl⟩) l4 rfl ?_
          refine g_if1 (t := 99) (pc' := 87) cd_Ho_announcedPrekey rfl rfl rfl (fun c84 => ?_) (fun c84 => ?_)
          · exact absurd (show (1 : Int32) = 0 from c84) (by decide)
          · have c84 : ¬ (1 : Int32) = 0 := c84
            refine g_ald (pc' := 88) cd_Ho_announcedPrekey rfl (Or.inr ⟨_, rfl, rfl, rfl⟩) l0 rfl rfl ?_
            refine g_fR (c := 11) (k := 0) (x := 1) (pc' := 91) cd_Ho_announcedPrekey rfl rfl rfl rfl rfl (by decide) hH.1.1.1 hH.1.1.2 hH.1.2.1.1 ?_
            refine g_ild (pc' := 92) cd_Ho_announcedPrekey rfl (Or.inr ⟨_, rfl, rfl, rfl⟩) l3 rfl ?_
            refine g_k1 (v := 0) (pc' := 93) cd_Ho_announcedPrekey rfl (by decide) rfl ?_
            refine g_calli (pc' := 96) cd_Ho_announcedPrekey rfl rfl rfl rfl rfl (tm_invV rfl rfl cd_Te_partOf rfl (Nat.le_of_ble_eq_true rfl) (by decide) hC.1.1.1.1 hC.1.1.1.2) (t_partOf (i := 0) hC.1 ht1 (by decide) (fun r3 ht3 => ?_))
            show bm_G _ _ _ 96 _ [.int r3] B _
            refine g_pure (pc' := 100) (st' := [.int r3]) cd_Ho_announcedPrekey rfl rfl (fun _ _ => rfl) ?_
            exact g_reti cd_Ho_announcedPrekey rfl ⟨_, rfl, (kk _ (by unfold an_pre; rw [cif_t ⟨c29, (TI_eq hC.1 ht2 ti).mp c47, c59, c72⟩]; exact ht3))⟩
set_option maxRecDepth 100000 in
theorem l_annOnce {sc : tm_X} {d : Nat} {B : bm_H} {F : Nat → Prop} {N S M ln : Nat} {T : List Tm} {dr : Nat} {K : Tm → Prop} {ca rm kc kl rk : Nat} {ws : List (Tm × Int32)} {wt : List Tm} {G : LG} {ids dir reg : Nat → Tm} {seen : List Tm} {π : Nat → Nat} {w : Nat → SW} {dev : Nat → DV} {sto : Nat → ST} {p : Nat} {Q : Int32 → bm_H → Prop} (hC : CK B F N S M ln T dr K ca rm kc kl rk) (hH : RH B T ws wt G ids dir reg seen π w dev sto) (hp : p < 6) : ∀ (n i : Nat), i + n = p * 5 + 5 → (∀ B' x, tv T x (an_once dir p n i).1 → CK B' F N S M ln T dr K ca rm kc kl rk → RH B' T ws wt G ids (an_once dir p n i).2 reg seen π w dev sto → fz (fun y => y = 22) B B' → Q x B') → ∀ lv : tm_L, lv.lookup 0 = some (.ref 0) → lv.lookup 1 = some (.int (nI p)) → lv.lookup 2 = some (.int (nI i)) → bm_G sc (d + 3) 75 6 lv [] B (fun r B' => ∃ x, r = some (.int x) ∧ Q x B') := by
  intro n
  induction n with
  | zero =>
    intro i hi kk lv l0 l1 l2
    refine g_ild (pc' := 7) cd_Ho_takeAnnouncedOnce rfl (Or.inr ⟨_, rfl, rfl, rfl⟩) l2 rfl ?_
    refine g_ild (pc' := 8) cd_Ho_takeAnnouncedOnce rfl (Or.inr ⟨_, rfl, rfl, rfl⟩) l1 rfl ?_
    refine g_k1 (v := 1) (pc' := 9) cd_Ho_takeAnnouncedOnce rfl (by decide) rfl ?_
    refine g_pure (pc' := 10) (st' := [.int ((nI p) + 1), .int (nI i)]) cd_Ho_takeAnnouncedOnce rfl rfl (fun _ _ => rfl) ?_
    rw [show ((nI p) + 1 : Int32) = nI (p + 1) from nI_add p 1]
    refine g_k1 (v := 5) (pc' := 11) cd_Ho_takeAnnouncedOnce rfl (by decide) rfl ?_
    refine g_pure (pc' := 12) (st' := [.int ((nI (p + 1)) * 5), .int (nI i)]) cd_Ho_takeAnnouncedOnce rfl rfl (fun _ _ => rfl) ?_
    rw [show ((nI (p + 1)) * 5 : Int32) = nI ((p + 1) * 5) from pk_mul (p + 1) 5]
    refine g_if2 (t := 90) (pc' := 15) cd_Ho_takeAnnouncedOnce rfl rfl rfl (fun c12 => ?_) (fun c12 => ?_)
    · have c12 : (nI ((p + 1) * 5)) ≤ (nI i) := c12
      refine g_k1 (v := 0) (pc' := 91) cd_Ho_takeAnnouncedOnce rfl (by decide) rfl ?_
      exact g_reti cd_Ho_takeAnnouncedOnce rfl ⟨_, rfl, (kk B 0 (TI_z hC.1) hC hH (fz_rfl _ B))⟩
    · have c12 : ¬ (nI ((p + 1) * 5)) ≤ (nI i) := c12
      exact absurd (nI_le (a := (p + 1) * 5) (b := i) (by omega) (by omega)) c12
  | succ n ih =>
    intro i hi kk lv l0 l1 l2
    have t0 := hH.2.2.2.1.2.1 i (by omega)
    refine g_ild (pc' := 7) cd_Ho_takeAnnouncedOnce rfl (Or.inr ⟨_, rfl, rfl, rfl⟩) l2 rfl ?_
    refine g_ild (pc' := 8) cd_Ho_takeAnnouncedOnce rfl (Or.inr ⟨_, rfl, rfl, rfl⟩) l1 rfl ?_
    refine g_k1 (v := 1) (pc' := 9) cd_Ho_takeAnnouncedOnce rfl (by decide) rfl ?_
    refine g_pure (pc' := 10) (st' := [.int ((nI p) + 1), .int (nI i)]) cd_Ho_takeAnnouncedOnce rfl rfl (fun _ _ => rfl) ?_
    rw [show ((nI p) + 1 : Int32) = nI (p + 1) from nI_add p 1]
    refine g_k1 (v := 5) (pc' := 11) cd_Ho_takeAnnouncedOnce rfl (by decide) rfl ?_
    refine g_pure (pc' := 12) (st' := [.int ((nI (p + 1)) * 5), .int (nI i)]) cd_Ho_takeAnnouncedOnce rfl rfl (fun _ _ => rfl) ?_
    rw [show ((nI (p + 1)) * 5 : Int32) = nI ((p + 1) * 5) from pk_mul (p + 1) 5]
    refine g_if2 (t := 90) (pc' := 15) cd_Ho_takeAnnouncedOnce rfl rfl rfl (fun c12 => ?_) (fun c12 => ?_)
    · have c12 : (nI ((p + 1) * 5)) ≤ (nI i) := c12
      exact absurd c12 (nI_ge (a := i) (b := (p + 1) * 5) (by omega) (by omega))
    · have c12 : ¬ (nI ((p + 1) * 5)) ≤ (nI i) := c12
      refine g_ald (pc' := 16) cd_Ho_takeAnnouncedOnce rfl (Or.inr ⟨_, rfl, rfl, rfl⟩) l0 rfl rfl ?_
      refine g_fR (c := 11) (k := 7) (x := 22) (pc' := 19) cd_Ho_takeAnnouncedOnce rfl rfl rfl rfl rfl (by decide) hH.1.1.1 hH.1.1.2 hH.1.2.1.2.2.2.2.2.2.2.1 ?_
      refine g_ild (pc' := 20) cd_Ho_takeAnnouncedOnce rfl (Or.inr ⟨_, rfl, rfl, rfl⟩) l2 rfl ?_
      refine g_aI (x := (bm_AI B 22 i)) (pc' := 21) cd_Ho_takeAnnouncedOnce rfl rfl hH.1.2.2.2.2.2.1.1 hH.1.2.2.2.2.2.1.2.1 (by rw [show bm_AL B 22 = 30 from hH.1.2.2.2.2.2.1.2.2]; exact vp_in_nI (by omega) (by decide)) (congrArg (bm_AI B 22) (nI_clamp (by omega))) ?_
      refine g_ist (pc' := 22) cd_Ho_takeAnnouncedOnce rfl (Or.inr ⟨_, rfl, rfl, rfl⟩) (by decide) rfl (fun lv el => ?_)
      have l0 := tm_lk el l0 rfl (by decide)
      have l1 := tm_lk el l1 rfl (by decide)
      have l2 := tm_lk el l2 rfl (by decide)
      have l3 : lv.lookup 3 = some (.int ((bm_AI B 22 i))) := tm_lks el
      clear el
      refine g_ild (pc' := 23) cd_Ho_takeAnnouncedOnce rfl (Or.inr ⟨_, rfl, rfl, rfl⟩) l3 rfl ?_
      refine g_if1 (t := 84) (pc' := 26) cd_Ho_takeAnnouncedOnce rfl rfl rfl (fun c23 => ?_) (fun c23 => ?_)
      · have c23 : (bm_AI B 22 i) = 0 := c23
        refine g_inc (y := nI (i + 1)) (pc' := 87) cd_Ho_takeAnnouncedOnce rfl l2 (by decide) (nI_add i 1) rfl (fun lv el => ?_)
        have l0 := tm_lk el l0 rfl (by decide)
        have l1 := tm_lk el l1 rfl (by decide)
        have l3 := tm_lk el l3 rfl (by decide)
        have l2 : lv.lookup 2 = some (.int (nI (i + 1))) := tm_lks el
        clear el
        refine g_pure (pc' := 6) (st' := []) cd_Ho_takeAnnouncedOnce rfl rfl (fun _ _ => rfl) ?_
        have hE : an_once dir p (n + 1) i = an_once dir p n (i + 1) := if_pos (tnil_iff.mpr ((TI_0 hC.1 t0).mp c23))
        exact ih (i + 1) (by omega) (fun B' x q1 q2 q3 q4 => kk B' x (by rw [hE]; exact q1) q2 (by rw [hE]; exact q3) q4) lv l0 l1 l2
      · have c23 : ¬ (bm_AI B 22 i) = 0 := c23
        refine g_ald (pc' := 27) cd_Ho_takeAnnouncedOnce rfl (Or.inr ⟨_, rfl, rfl, rfl⟩) l0 rfl rfl ?_
        refine g_fR (c := 11) (k := 7) (x := 22) (pc' := 30) cd_Ho_takeAnnouncedOnce rfl rfl rfl rfl rfl (by decide) hH.1.1.1 hH.1.1.2 hH.1.2.1.2.2.2.2.2.2.2.1 ?_
        refine g_ild (pc' := 31) cd_Ho_takeAnnouncedOnce rfl (Or.inr ⟨_, rfl, rfl, rfl⟩) l2 rfl ?_
        refine g_k1 (v := 0) (pc' := 32) cd_Ho_takeAnnouncedOnce rfl (by decide) rfl ?_
        refine g_iast (pc' := 33) cd_Ho_takeAnnouncedOnce rfl rfl hH.1.2.2.2.2.2.1.1 hH.1.2.2.2.2.2.1.2.1 (by rw [show bm_AL B 22 = 30 from hH.1.2.2.2.2.2.1.2.2]; exact vp_in_nI (by omega) (by decide)) ?_
        rw [show (nI i : Int32).toNatClampNeg = i from nI_clamp (by omega)]
        have A4 : bm_AI (bm_setI B 22 i 0) 22 = (upd (bm_AI B 22) i 0) := ((AI_set B 22 i 0).trans (congrArg (fun f => upd f i 0) (show bm_AI B 22 = (bm_AI B 22) from rfl)))
        have Z5 : fz (fun y => y = 22) B (bm_setI B 22 i 0) := fz_trans (fz_rfl _ B) ⟨fr_mono (fun _ q => q) (fr_setI _ 22 _ _), rfl, rfl⟩
        have hz1 := Z5
        have hH1 := RH_dir hH hz1.1 (fun y q => q.2) (List.prefix_refl T) (RA_set hH.2.2.2.1.2.1 A4 (TI_z hC.1))
        have hC1 := CK_cls hC hz1 (fun y q => by omega)
        have hE : an_once dir p (n + 1) i = ((if Tgood 2 (dir i) = true ∧ nu (dir i) 0 = nI p then pt (dir i) 0 else tz), fset dir i tz) := if_neg (fun q => c23 ((TI_0 hC.1 t0).mpr (tnil_iff.mp q)))
        generalize (bm_setI B 22 i 0) = B1 at hz1 hH1 hC1 ⊢
        refine g_ald (pc' := 34) cd_Ho_takeAnnouncedOnce rfl (Or.inr ⟨_, rfl, rfl, rfl⟩) l0 rfl rfl ?_
        refine g_fR (c := 11) (k := 0) (x := 1) (pc' := 37) cd_Ho_takeAnnouncedOnce rfl rfl rfl rfl rfl (by decide) hH1.1.1.1 hH1.1.1.2 hH1.1.2.1.1 ?_
        refine g_ild (pc' := 38) cd_Ho_takeAnnouncedOnce rfl (Or.inr ⟨_, rfl, rfl, rfl⟩) l3 rfl ?_
        refine g_k1 (v := 2) (pc' := 39) cd_Ho_takeAnnouncedOnce rfl (by decide) rfl ?_
        refine g_calli (pc' := 42) cd_Ho_takeAnnouncedOnce rfl rfl rfl rfl rfl (tm_invV rfl rfl cd_Te_isGood rfl (Nat.le_of_ble_eq_true rfl) (by decide) hC1.1.1.1.1 hC1.1.1.1.2) (t_isGood (k := 2) (by decide) hC1.1 t0 ?_)
        show bm_G _ _ _ 42 _ [.int (bz (Tgood 2 (dir i)))] B1 _
        refine g_if1 (t := 62) (pc' := 45) cd_Ho_takeAnnouncedOnce rfl rfl rfl (fun c42 => ?_) (fun c42 => ?_)
        · have c42 : (Tgood 2 (dir i)) = false := bz_f c42
          refine g_k1 (v := 0) (pc' := 63) cd_Ho_takeAnnouncedOnce rfl (by decide) rfl ?_
          refine g_ist (pc' := 65) cd_Ho_takeAnnouncedOnce rfl (Or.inl ⟨rfl, rfl⟩) (by decide) rfl (fun lv el => ?_)
          have l0 := tm_lk el l0 rfl (by decide)
          have l1 := tm_lk el l1 rfl (by decide)
          have l2 := tm_lk el l2 rfl (by decide)
          have l3 := tm_lk el l3 rfl (by decide)
          have l4 : lv.lookup 4 = some (.int 0) := tm_lks el
          clear el
          refine g_ild (pc' := 67) cd_Ho_takeAnnouncedOnce rfl (Or.inl ⟨rfl, rfl⟩) l4 rfl ?_
          refine g_if1 (t := 82) (pc' := 70) cd_Ho_takeAnnouncedOnce rfl rfl rfl (fun c67 => ?_) (fun c67 => ?_)
          · have c67 : (0 : Int32) = 0 := c67
            refine g_k1 (v := 0) (pc' := 83) cd_Ho_takeAnnouncedOnce rfl (by decide) rfl ?_
            exact g_reti cd_Ho_takeAnnouncedOnce rfl ⟨_, rfl, (kk B1 _ (by rw [hE, if_neg (fun q => absurd (c42.symm.trans q.1) (by decide))]; exact TI_z hC1.1) hC1 (by rw [hE]; exact hH1) hz1)⟩
          · exact absurd (show ¬ (0 : Int32) = 0 from c67) (by decide)
        · have c42 : (Tgood 2 (dir i)) = true := bz_t c42
          refine g_ald (pc' := 46) cd_Ho_takeAnnouncedOnce rfl (Or.inr ⟨_, rfl, rfl, rfl⟩) l0 rfl rfl ?_
          refine g_fR (c := 11) (k := 0) (x := 1) (pc' := 49) cd_Ho_takeAnnouncedOnce rfl rfl rfl rfl rfl (by decide) hH1.1.1.1 hH1.1.1.2 hH1.1.2.1.1 ?_
          refine g_ild (pc' := 50) cd_Ho_takeAnnouncedOnce rfl (Or.inr ⟨_, rfl, rfl, rfl⟩) l3 rfl ?_
          refine g_k1 (v := 0) (pc' := 51) cd_Ho_takeAnnouncedOnce rfl (by decide) rfl ?_
          refine g_calli (pc' := 54) cd_Ho_takeAnnouncedOnce rfl rfl rfl rfl rfl (tm_invV rfl rfl cd_Te_numberOf rfl (Nat.le_of_ble_eq_true rfl) (by decide) hC1.1.1.1.1 hC1.1.1.1.2) (t_numberOf (i := 0) hC1.1 t0 (by decide) ?_)
          show bm_G _ _ _ 54 _ [.int (nu (dir i) 0)] B1 _
          refine g_ild (pc' := 55) cd_Ho_takeAnnouncedOnce rfl (Or.inr ⟨_, rfl, rfl, rfl⟩) l1 rfl ?_
          refine g_if2 (t := 62) (pc' := 58) cd_Ho_takeAnnouncedOnce rfl rfl rfl (fun c55 => ?_) (fun c55 => ?_)
          · have c55 : ¬ (nu (dir i) 0) = (nI p) := c55
            refine g_k1 (v := 0) (pc' := 63) cd_Ho_takeAnnouncedOnce rfl (by decide) rfl ?_
            refine g_ist (pc' := 65) cd_Ho_takeAnnouncedOnce rfl (Or.inl ⟨rfl, rfl⟩) (by decide) rfl (fun lv el => ?_)
            have l0 := tm_lk el l0 rfl (by decide)
            have l1 := tm_lk el l1 rfl (by decide)
            have l2 := tm_lk el l2 rfl (by decide)
            have l3 := tm_lk el l3 rfl (by decide)
            have l4 : lv.lookup 4 = some (.int 0) := tm_lks el
            clear el
            refine g_ild (pc' := 67) cd_Ho_takeAnnouncedOnce rfl (Or.inl ⟨rfl, rfl⟩) l4 rfl ?_
            refine g_if1 (t := 82) (pc' := 70) cd_Ho_takeAnnouncedOnce rfl rfl rfl (fun c67 => ?_) (fun c67 => ?_)
            · have c67 : (0 : Int32) = 0 := c67
              refine g_k1 (v := 0) (pc' := 83) cd_Ho_takeAnnouncedOnce rfl (by decide) rfl ?_
              exact g_reti cd_Ho_takeAnnouncedOnce rfl ⟨_, rfl, (kk B1 _ (by rw [hE, if_neg (fun q => c55 q.2)]; exact TI_z hC1.1) hC1 (by rw [hE]; exact hH1) hz1)⟩
            · exact absurd (show ¬ (0 : Int32) = 0 from c67) (by decide)
          · have c55 : (nu (dir i) 0) = (nI p) := Classical.not_not.mp c55
            refine g_k1 (v := 1) (pc' := 59) cd_Ho_takeAnnouncedOnce rfl (by decide) rfl ?_
            refine g_pure (pc' := 63) (st' := [.int 1]) cd_Ho_takeAnnouncedOnce rfl rfl (fun _ _ => rfl) ?_
            refine g_ist (pc' := 65) cd_Ho_takeAnnouncedOnce rfl (Or.inl ⟨rfl, rfl⟩) (by decide) rfl (fun lv el => ?_)
            have l0 := tm_lk el l0 rfl (by decide)
            have l1 := tm_lk el l1 rfl (by decide)
            have l2 := tm_lk el l2 rfl (by decide)
            have l3 := tm_lk el l3 rfl (by decide)
            have l4 : lv.lookup 4 = some (.int 1) := tm_lks el
            clear el
            refine g_ild (pc' := 67) cd_Ho_takeAnnouncedOnce rfl (Or.inl ⟨rfl, rfl⟩) l4 rfl ?_
            refine g_if1 (t := 82) (pc' := 70) cd_Ho_takeAnnouncedOnce rfl rfl rfl (fun c67 => ?_) (fun c67 => ?_)
            · exact absurd (show (1 : Int32) = 0 from c67) (by decide)
            · have c67 : ¬ (1 : Int32) = 0 := c67
              refine g_ald (pc' := 71) cd_Ho_takeAnnouncedOnce rfl (Or.inr ⟨_, rfl, rfl, rfl⟩) l0 rfl rfl ?_
              refine g_fR (c := 11) (k := 0) (x := 1) (pc' := 74) cd_Ho_takeAnnouncedOnce rfl rfl rfl rfl rfl (by decide) hH1.1.1.1 hH1.1.1.2 hH1.1.2.1.1 ?_
              refine g_ild (pc' := 75) cd_Ho_takeAnnouncedOnce rfl (Or.inr ⟨_, rfl, rfl, rfl⟩) l3 rfl ?_
              refine g_k1 (v := 0) (pc' := 76) cd_Ho_takeAnnouncedOnce rfl (by decide) rfl ?_
              refine g_calli (pc' := 79) cd_Ho_takeAnnouncedOnce rfl rfl rfl rfl rfl (tm_invV rfl rfl cd_Te_partOf rfl (Nat.le_of_ble_eq_true rfl) (by decide) hC1.1.1.1.1 hC1.1.1.1.2) (t_partOf (i := 0) hC1.1 t0 (by decide) (fun r6 ht6 => ?_))
              show bm_G _ _ _ 79 _ [.int r6] B1 _
              refine g_pure (pc' := 83) (st' := [.int r6]) cd_Ho_takeAnnouncedOnce rfl rfl (fun _ _ => rfl) ?_
              exact g_reti cd_Ho_takeAnnouncedOnce rfl ⟨_, rfl, (kk B1 _ (by rw [hE, if_pos ⟨c42, c55⟩]; exact ht6) hC1 (by rw [hE]; exact hH1) hz1)⟩
theorem t_annOnce {sc : tm_X} {d : Nat} {B : bm_H} {F : Nat → Prop} {N S M ln : Nat} {T : List Tm} {dr : Nat} {K : Tm → Prop} {ca rm kc kl rk : Nat} {ws : List (Tm × Int32)} {wt : List Tm} {G : LG} {ids dir reg : Nat → Tm} {seen : List Tm} {π : Nat → Nat} {w : Nat → SW} {dev : Nat → DV} {sto : Nat → ST} {p : Nat} {Q : Int32 → bm_H → Prop} (hC : CK B F N S M ln T dr K ca rm kc kl rk) (hH : RH B T ws wt G ids dir reg seen π w dev sto) (hp : p < 6) (kk : ∀ B' x, tv T x (an_once dir p 4 (p * 5 + 1)).1 → CK B' F N S M ln T dr K ca rm kc kl rk → RH B' T ws wt G ids (an_once dir p 4 (p * 5 + 1)).2 reg seen π w dev sto → fz (fun y => y = 22) B B' → Q x B') : bm_Gi sc (d + 3) 75 [.ref 0, .int (nI p)] B Q := by
  show bm_G sc (d + 3) 75 0 [(0, .ref 0), (1, .int (nI p))] [] B _
  generalize elv : ([(0, .ref 0), (1, .int (nI p))] : tm_L) = lv
  have l0 : lv.lookup 0 = some (.ref 0) := by rw [← elv]; rfl
  have l1 : lv.lookup 1 = some (.int (nI p)) := by rw [← elv]; rfl
  clear elv
  refine g_ild (pc' := 1) cd_Ho_takeAnnouncedOnce rfl (Or.inr ⟨_, rfl, rfl, rfl⟩) l1 rfl ?_
  refine g_k1 (v := 5) (pc' := 2) cd_Ho_takeAnnouncedOnce rfl (by decide) rfl ?_
  refine g_pure (pc' := 3) (st' := [.int ((nI p) * 5)]) cd_Ho_takeAnnouncedOnce rfl rfl (fun _ _ => rfl) ?_
  rw [show ((nI p) * 5 : Int32) = nI (p * 5) from pk_mul p 5]
  refine g_k1 (v := 1) (pc' := 4) cd_Ho_takeAnnouncedOnce rfl (by decide) rfl ?_
  refine g_pure (pc' := 5) (st' := [.int ((nI (p * 5)) + 1)]) cd_Ho_takeAnnouncedOnce rfl rfl (fun _ _ => rfl) ?_
  rw [show ((nI (p * 5)) + 1 : Int32) = nI ((p * 5) + 1) from nI_add (p * 5) 1]
  refine g_ist (pc' := 6) cd_Ho_takeAnnouncedOnce rfl (Or.inr ⟨_, rfl, rfl, rfl⟩) (by decide) rfl (fun lv el => ?_)
  have l0 := tm_lk el l0 rfl (by decide)
  have l1 := tm_lk el l1 rfl (by decide)
  have l2 : lv.lookup 2 = some (.int (nI ((p * 5) + 1))) := tm_lks el
  clear el
  exact l_annOnce hC hH hp 4 (p * 5 + 1) (by omega) kk lv l0 l1 l2
