/-! Sessions, groups, counts; what is derived, leaked; a look -/
def se_spec (l : List SS) (k a : Int32) : Int32 := if inR k (nI l.length) = true then (match l[k.toNatClampNeg]? with
  | some S => ss_tell S a
  | none => -1) else -1
def ct_spec (ws : List (Tm × Int32)) (L : List LT) (dr : Nat) (a : Int32) : Int32 := if a = 0 then nI ws.length else if a = 1 then nI L.length else if a = 2 then nI dr else -1
theorem t_two {sc : tm_X} {d : Nat} {B : bm_H} {s p : Nat} {Q : Int32 → bm_H → Prop} (hs : s < 6) (hp : p < 6) (hsp : s ≠ p) (kk : Q 1 B) : bm_Gi sc (d + 1) 65 [.int (nI s), .int (nI p)] B Q := t_areTwo (by rw [show inR (nI s) 6 = true from inR_nI hs (by decide), show inR (nI p) 6 = true from inR_nI hp (by decide), decide_eq_false (fun q => hsp ((nI_eq (by omega) (by omega)).mp q))]; exact kk)
theorem t_notTwo {sc : tm_X} {d : Nat} {B : bm_H} {s p : Int32} {Q : Int32 → bm_H → Prop} (h : inR s 6 = false ∨ inR p 6 = false ∨ s = p) (kk : Q 0 B) : bm_Gi sc (d + 1) 65 [.int s, .int p] B Q := t_areTwo (by
  have : (inR s 6 && inR p 6 && !decide (s = p)) = false := by
    rcases h with h | h | h
    · rw [h]; rfl
    · rw [h, Bool.and_false]; rfl
    · rw [decide_eq_true h, Bool.not_true, Bool.and_false]
  rw [this]; exact kk)
set_option maxRecDepth 100000 in
theorem t_session {sc : tm_X} {d : Nat} {B : bm_H} {F : Nat → Prop} {N S M ln : Nat} {T : List Tm} {dr : Nat} {K : Tm → Prop} {ca rm kc kl rk : Nat} {ws : List (Tm × Int32)} {wt : List Tm} {G : LG} {ids dir reg : Nat → Tm} {seen : List Tm} {π : Nat → Nat} {w : Nat → SW} {dev : Nat → DV} {sto : Nat → ST} {s p : Nat} {k a : Int32} {Q : Int32 → bm_H → Prop} (hC : CK B F N S M ln T dr K ca rm kc kl rk) (hH : RH B T ws wt G ids dir reg seen π w dev sto) (hs : s < 6) (hp : p < 6) (hsp : s ≠ p) (kk : Q (se_spec ((dev s).2.2.2.2.2.1 p) k a) B) : bm_Gi sc (d + 2) 165 [.ref 0, .int (nI s), .int (nI p), .int k, .int a] B Q := by
  have hW := hH.2.2.2.2.1.2.2.2.2 s (by omega)
  obtain ⟨id, K0, K1, on, lnu, se, me, eD⟩ : ∃ a1 a2 a3 a4 a5 a6 a7, dev s = (a1, a2, a3, a4, a5, a6, a7) := ⟨_, _, _, _, _, _, _, rfl⟩
  rw [eD] at hW kk
  have hRS := hW.2.2.2.2.1 p hp
  have r6 := rb_in (hH.2.2.2.2.1.2.2.1 s (by omega))
  show bm_G sc (d + 2) 165 0 [(0, .ref 0), (1, .int (nI s)), (2, .int (nI p)), (3, .int k), (4, .int a)] [] B _
  generalize elv : ([(0, .ref 0), (1, .int (nI s)), (2, .int (nI p)), (3, .int k), (4, .int a)] : tm_L) = lv
  have l0 : lv.lookup 0 = some (.ref 0) := by rw [← elv]; rfl
  have l1 : lv.lookup 1 = some (.int (nI s)) := by rw [← elv]; rfl
  have l2 : lv.lookup 2 = some (.int (nI p)) := by rw [← elv]; rfl
  have l3 : lv.lookup 3 = some (.int k) := by rw [← elv]; rfl
  have l4 : lv.lookup 4 = some (.int a) := by rw [← elv]; rfl
  clear elv
  refine g_ild (pc' := 1) cd_Ho_session rfl (Or.inr ⟨_, rfl, rfl, rfl⟩) l1 rfl ?_
  refine g_ild (pc' := 2) cd_Ho_session rfl (Or.inr ⟨_, rfl, rfl, rfl⟩) l2 rfl ?_
  refine g_calli (pc' := 5) cd_Ho_session rfl rfl rfl rfl rfl (tm_invS rfl rfl cd_Ho_areTwo rfl (Nat.le_of_ble_eq_true rfl)) (t_two hs hp hsp ?_)
  show bm_G _ _ _ 5 _ [.int 1] B _
  refine g_if1 (t := 27) (pc' := 8) cd_Ho_session rfl rfl rfl (fun c5 => ?_) (fun c5 => ?_)
  · exact absurd (show (1 : Int32) = 0 from c5) (by decide)
  · have c5 : ¬ (1 : Int32) = 0 := c5
    refine g_ild (pc' := 9) cd_Ho_session rfl (Or.inr ⟨_, rfl, rfl, rfl⟩) l3 rfl ?_
    refine g_if1 (t := 27) (pc' := 12) cd_Ho_session rfl rfl rfl (fun c9 => ?_) (fun c9 => ?_)
    · have c9 : k < 0 := c9
      refine g_k1 (v := (-1)) (pc' := 28) cd_Ho_session rfl (by decide) rfl ?_
      exact g_reti cd_Ho_session rfl ⟨_, rfl, (bm_eq kk (if_neg (by rw [show inR k (nI (se p).length) = false from inR_lo c9]; decide)))⟩
    · have c9 : ¬ k < 0 := c9
      refine g_ild (pc' := 13) cd_Ho_session rfl (Or.inr ⟨_, rfl, rfl, rfl⟩) l3 rfl ?_
      refine g_ald (pc' := 14) cd_Ho_session rfl (Or.inr ⟨_, rfl, rfl, rfl⟩) l0 rfl rfl ?_
      refine g_fR (c := 11) (k := 4) (x := 19) (pc' := 17) cd_Ho_session rfl rfl rfl rfl rfl (by decide) hH.1.1.1 hH.1.1.2 hH.1.2.1.2.2.2.2.1 ?_
      refine g_ild (pc' := 18) cd_Ho_session rfl (Or.inr ⟨_, rfl, rfl, rfl⟩) l1 rfl ?_
      refine g_aR (t := 2) (x := (rb (π s))) (pc' := 19) cd_Ho_session rfl rfl hH.1.2.2.1.1 hH.1.2.2.1.2.1 (by decide) rfl rfl (by rw [show bm_AL B 19 = 6 from hH.1.2.2.1.2.2]; exact vp_in_nI hs (by decide)) (by rw [nI_clamp (by omega)]; exact hH.2.2.2.2.1.1 s hs) ?_
      refine g_fR (c := 0) (k := 3) (x := (rb (π s) + 8)) (pc' := 22) cd_Ho_session rfl rfl rfl rfl rfl (by decide) hW.1.1.1 hW.1.1.2 hW.1.2.1.2.2.2.1 ?_
      refine g_ild (pc' := 23) cd_Ho_session rfl (Or.inr ⟨_, rfl, rfl, rfl⟩) l2 rfl ?_
      refine g_aI (x := nI (se p).length) (pc' := 24) cd_Ho_session rfl rfl hW.1.2.2.2.2.2.1.1 hW.1.2.2.2.2.2.1.2.1 (by rw [show bm_AL B (rb (π s) + 8) = 6 from hW.1.2.2.2.2.2.1.2.2]; exact vp_in_nI (by omega) (by decide)) (by rw [nI_clamp (by omega)]; exact hRS.1.1) ?_
      refine g_if2 (t := 29) (pc' := 27) cd_Ho_session rfl rfl rfl (fun c24 => ?_) (fun c24 => ?_)
      · have c24 : k < (nI (se p).length) := c24
        obtain ⟨j, hj, ej⟩ := inR_of (n := (se p).length) (by have := hRS.1.2; omega) (inR_t c9 (Int32.not_le.mpr c24))
        obtain ⟨S5, hS5⟩ : ∃ S5, (se p)[j]? = some S5 := ⟨_, List.getElem?_eq_getElem hj⟩
        have hg := RSs_get hRS hS5
        rw [ej] at l3
        refine g_ald (pc' := 30) cd_Ho_session rfl (Or.inr ⟨_, rfl, rfl, rfl⟩) l0 rfl rfl ?_
        refine g_fR (c := 11) (k := 4) (x := 19) (pc' := 33) cd_Ho_session rfl rfl rfl rfl rfl (by decide) hH.1.1.1 hH.1.1.2 hH.1.2.1.2.2.2.2.1 ?_
        refine g_ild (pc' := 34) cd_Ho_session rfl (Or.inr ⟨_, rfl, rfl, rfl⟩) l1 rfl ?_
        refine g_aR (t := 2) (x := (rb (π s))) (pc' := 35) cd_Ho_session rfl rfl hH.1.2.2.1.1 hH.1.2.2.1.2.1 (by decide) rfl rfl (by rw [show bm_AL B 19 = 6 from hH.1.2.2.1.2.2]; exact vp_in_nI hs (by decide)) (by rw [nI_clamp (by omega)]; exact hH.2.2.2.2.1.1 s hs) ?_
        refine g_fR (c := 0) (k := 4) (x := (rb (π s) + 9)) (pc' := 38) cd_Ho_session rfl rfl rfl rfl rfl (by decide) hW.1.1.1 hW.1.1.2 hW.1.2.1.2.2.2.2.1 ?_
        refine g_ild (pc' := 39) cd_Ho_session rfl (Or.inr ⟨_, rfl, rfl, rfl⟩) l2 rfl ?_
        refine g_k1 (v := 2) (pc' := 40) cd_Ho_session rfl (by decide) rfl ?_
        refine g_pure (pc' := 41) (st' := [.int ((nI p) * 2), .ref ((rb (π s) + 9))]) cd_Ho_session rfl rfl (fun _ _ => rfl) ?_
        rw [show ((nI p) * 2 : Int32) = nI (p * 2) from pk_mul p 2]
        refine g_ild (pc' := 42) cd_Ho_session rfl (Or.inr ⟨_, rfl, rfl, rfl⟩) l3 rfl ?_
        refine g_pure (pc' := 43) (st' := [.int ((nI (p * 2)) + (nI j)), .ref ((rb (π s) + 9))]) cd_Ho_session rfl rfl (fun _ _ => rfl) ?_
        rw [show ((nI (p * 2)) + (nI j) : Int32) = nI ((p * 2) + j) from nI_add (p * 2) j]
        refine g_aR (t := 5) (x := (sA (rb (π s)) (w s).2.1 p j)) (pc' := 44) cd_Ho_session rfl rfl hW.1.2.2.2.2.2.2.1.1 hW.1.2.2.2.2.2.2.1.2.1 (by decide) rfl rfl (by rw [show bm_AL B (rb (π s) + 9) = 12 from hW.1.2.2.2.2.2.2.1.2.2]; exact vp_in_nI (by omega) (by decide)) (by rw [nI_clamp (by omega), show p * 2 + j = 2 * p + j by omega]; exact hg.2.2) ?_
        refine g_ild (pc' := 46) cd_Ho_session rfl (Or.inl ⟨rfl, rfl⟩) l4 rfl ?_
        have hnt : ∀ y, 8 ≤ y → y < 1482 → ¬ tcs 1 ca 3 4 y := fun y a b => CK_tcs hC a b
        have isl := sA_in (rb (π s)) (w s).2.1 hp hg.1
        obtain ⟨I, xb, xr, xm, xs, n5, b5, br, bp, bo, on1⟩ := S5
        refine g_calli (pc' := 49) cd_Ho_session rfl rfl rfl rfl rfl (tm_invV rfl rfl cd_Se_tell rfl (Nat.le_of_ble_eq_true rfl) (by decide) (RSe_S hg.2.1).1.1 (RSe_S hg.2.1).1.2) (t_Stell hC.1 hg.2.1 (hnt _ (by omega) (by omega)) (hnt _ (by omega) (by omega)) (hnt _ (by omega) (by omega)) ?_)
        show bm_G _ _ _ 49 _ [.int (ss_tell (I, xb, xr, xm, xs, n5, b5, br, bp, bo, on1) a)] B _
        exact g_reti cd_Ho_session rfl ⟨_, rfl, (bm_eq kk (by unfold se_spec; rw [if_pos (inR_t c9 (Int32.not_le.mpr c24)), ej, nI_clamp (by have := hRS.1.2; omega), hS5]))⟩
      · have c24 : ¬ k < (nI (se p).length) := c24
        refine g_k1 (v := (-1)) (pc' := 28) cd_Ho_session rfl (by decide) rfl ?_
        exact g_reti cd_Ho_session rfl ⟨_, rfl, (bm_eq kk (if_neg (by rw [show inR k (nI (se p).length) = false from inR_hi (Int32.not_lt.mp c24)]; decide)))⟩
set_option maxRecDepth 100000 in
theorem t_session0 {sc : tm_X} {d : Nat} {B : bm_H} {F : Nat → Prop} {N S M ln : Nat} {T : List Tm} {dr : Nat} {K : Tm → Prop} {ca rm kc kl rk : Nat} {ws : List (Tm × Int32)} {wt : List Tm} {G : LG} {ids dir reg : Nat → Tm} {seen : List Tm} {π : Nat → Nat} {w : Nat → SW} {dev : Nat → DV} {sto : Nat → ST} {s p k a : Int32} {Q : Int32 → bm_H → Prop} (hC : CK B F N S M ln T dr K ca rm kc kl rk) (hH : RH B T ws wt G ids dir reg seen π w dev sto) (h : inR s 6 = false ∨ inR p 6 = false ∨ s = p) (kk : Q (-1) B) : bm_Gi sc (d + 2) 165 [.ref 0, .int s, .int p, .int k, .int a] B Q := by
  show bm_G sc (d + 2) 165 0 [(0, .ref 0), (1, .int s), (2, .int p), (3, .int k), (4, .int a)] [] B _
  generalize elv : ([(0, .ref 0), (1, .int s), (2, .int p), (3, .int k), (4, .int a)] : tm_L) = lv
  have l0 : lv.lookup 0 = some (.ref 0) := by rw [← elv]; rfl
  have l1 : lv.lookup 1 = some (.int s) := by rw [← elv]; rfl
  have l2 : lv.lookup 2 = some (.int p) := by rw [← elv]; rfl
  have l3 : lv.lookup 3 = some (.int k) := by rw [← elv]; rfl
  have l4 : lv.lookup 4 = some (.int a) := by rw [← elv]; rfl
  clear elv
  refine g_ild (pc' := 1) cd_Ho_session rfl (Or.inr ⟨_, rfl, rfl, rfl⟩) l1 rfl ?_
  refine g_ild (pc' := 2) cd_Ho_session rfl (Or.inr ⟨_, rfl, rfl, rfl⟩) l2 rfl ?_
  refine g_calli (pc' := 5) cd_Ho_session rfl rfl rfl rfl rfl (tm_invS rfl rfl cd_Ho_areTwo rfl (Nat.le_of_ble_eq_true rfl)) (t_notTwo h ?_)
  show bm_G _ _ _ 5 _ [.int 0] B _
  refine g_if1 (t := 27) (pc' := 8) cd_Ho_session rfl rfl rfl (fun c5 => ?_) (fun c5 => ?_)
  · have c5 : (0 : Int32) = 0 := c5
    refine g_k1 (v := (-1)) (pc' := 28) cd_Ho_session rfl (by decide) rfl ?_
    exact g_reti cd_Ho_session rfl ⟨_, rfl, kk⟩
  · exact absurd (show ¬ (0 : Int32) = 0 from c5) (by decide)
set_option maxRecDepth 100000 in
theorem t_group {sc : tm_X} {d : Nat} {B : bm_H} {F : Nat → Prop} {N S M ln : Nat} {T : List Tm} {dr : Nat} {K : Tm → Prop} {ca rm kc kl rk : Nat} {ws : List (Tm × Int32)} {wt : List Tm} {G : LG} {ids dir reg : Nat → Tm} {seen : List Tm} {π : Nat → Nat} {w : Nat → SW} {dev : Nat → DV} {sto : Nat → ST} {s g : Nat} {a : Int32} {Q : Int32 → bm_H → Prop} (hC : CK B F N S M ln T dr K ca rm kc kl rk) (hH : RH B T ws wt G ids dir reg seen π w dev sto) (hs : s < 6) (hg : g < 4) (kk : Q (mm_tell ((dev s).2.2.2.2.2.2 g) a) B) : bm_Gi sc (d + 3) 167 [.ref 0, .int (nI s), .int (nI g), .int a] B Q := by
  have hW := hH.2.2.2.2.1.2.2.2.2 s (by omega)
  obtain ⟨id, K0, K1, on, lnu, se, me, eD⟩ : ∃ a1 a2 a3 a4 a5 a6 a7, dev s = (a1, a2, a3, a4, a5, a6, a7) := ⟨_, _, _, _, _, _, _, rfl⟩
  rw [eD] at hW kk
  have hM0 := hW.2.2.2.2.2.2 g hg
  obtain ⟨ve, ma, go, ge, ch, si, ix, ga, sl, gv, eM⟩ : ∃ a1 a2 a3 a4 a5 a6 a7 a8 a9 a10, me g = (a1, a2, a3, a4, a5, a6, a7, a8, a9, a10) := ⟨_, _, _, _, _, _, _, _, _, _, rfl⟩
  rw [eM] at hM0
  have kk : Q (mm_tell (me g) a) B := kk
  rw [eM] at kk
  show bm_G sc (d + 3) 167 0 [(0, .ref 0), (1, .int (nI s)), (2, .int (nI g)), (3, .int a)] [] B _
  generalize elv : ([(0, .ref 0), (1, .int (nI s)), (2, .int (nI g)), (3, .int a)] : tm_L) = lv
  have l0 : lv.lookup 0 = some (.ref 0) := by rw [← elv]; rfl
  have l1 : lv.lookup 1 = some (.int (nI s)) := by rw [← elv]; rfl
  have l2 : lv.lookup 2 = some (.int (nI g)) := by rw [← elv]; rfl
  have l3 : lv.lookup 3 = some (.int a) := by rw [← elv]; rfl
  clear elv
  refine g_ild (pc' := 1) cd_Ho_group rfl (Or.inr ⟨_, rfl, rfl, rfl⟩) l1 rfl ?_
  refine g_calli (pc' := 4) cd_Ho_group rfl rfl rfl rfl rfl (tm_invS rfl rfl cd_Ho_isDevice rfl (Nat.le_of_ble_eq_true rfl)) (t_isDev hs ?_)
  show bm_G _ _ _ 4 _ [.int 1] B _
  refine g_if1 (t := 14) (pc' := 7) cd_Ho_group rfl rfl rfl (fun c4 => ?_) (fun c4 => ?_)
  · exact absurd (show (1 : Int32) = 0 from c4) (by decide)
  · have c4 : ¬ (1 : Int32) = 0 := c4
    refine g_ild (pc' := 8) cd_Ho_group rfl (Or.inr ⟨_, rfl, rfl, rfl⟩) l2 rfl ?_
    refine g_calli (pc' := 11) cd_Ho_group rfl rfl rfl rfl rfl (tm_invS rfl rfl cd_Ho_isGroup rfl (Nat.le_of_ble_eq_true rfl)) (t_isGroup ?_)
    rw [show inR (nI g) 4 = true from inR_nI hg (by decide)]
    show bm_G _ _ _ _ _ (.int 1 :: _) _ _
    show bm_G _ _ _ 11 _ [.int 1] B _
    refine g_if1 (t := 16) (pc' := 14) cd_Ho_group rfl rfl rfl (fun c11 => ?_) (fun c11 => ?_)
    · have c11 : ¬ (1 : Int32) = 0 := c11
      refine g_ald (pc' := 17) cd_Ho_group rfl (Or.inr ⟨_, rfl, rfl, rfl⟩) l0 rfl rfl ?_
      refine g_fR (c := 11) (k := 4) (x := 19) (pc' := 20) cd_Ho_group rfl rfl rfl rfl rfl (by decide) hH.1.1.1 hH.1.1.2 hH.1.2.1.2.2.2.2.1 ?_
      refine g_ild (pc' := 21) cd_Ho_group rfl (Or.inr ⟨_, rfl, rfl, rfl⟩) l1 rfl ?_
      refine g_aR (t := 2) (x := (rb (π s))) (pc' := 22) cd_Ho_group rfl rfl hH.1.2.2.1.1 hH.1.2.2.1.2.1 (by decide) rfl rfl (by rw [show bm_AL B 19 = 6 from hH.1.2.2.1.2.2]; exact vp_in_nI hs (by decide)) (by rw [nI_clamp (by omega)]; exact hH.2.2.2.2.1.1 s hs) ?_
      refine g_fR (c := 0) (k := 5) (x := (rb (π s) + 10)) (pc' := 25) cd_Ho_group rfl rfl rfl rfl rfl (by decide) hW.1.1.1 hW.1.1.2 hW.1.2.1.2.2.2.2.2 ?_
      refine g_ild (pc' := 26) cd_Ho_group rfl (Or.inr ⟨_, rfl, rfl, rfl⟩) l2 rfl ?_
      refine g_aR (t := 6) (x := (rb (π s) + 47 + 39 * g)) (pc' := 27) cd_Ho_group rfl rfl hW.1.2.2.2.2.2.2.2.1 hW.1.2.2.2.2.2.2.2.2.1 (by decide) rfl rfl (by rw [show bm_AL B (rb (π s) + 10) = 4 from hW.1.2.2.2.2.2.2.2.2.2]; exact vp_in_nI (by omega) (by decide)) (by rw [nI_clamp (by omega)]; exact hW.2.2.2.2.2.1 g hg) ?_
      refine g_ild (pc' := 28) cd_Ho_group rfl (Or.inr ⟨_, rfl, rfl, rfl⟩) l3 rfl ?_
      refine g_calli (pc' := 31) cd_Ho_group rfl rfl rfl rfl rfl (tm_invV rfl rfl cd_Me_tell rfl (Nat.le_of_ble_eq_true rfl) (by decide) hM0.1.1.1 hM0.1.1.2) (t_Mtell hM0 ?_)
      show bm_G _ _ _ 31 _ [.int (mm_tell (ve, ma, go, ge, ch, si, ix, ga, sl, gv) a)] B _
      exact g_reti cd_Ho_group rfl ⟨_, rfl, kk⟩
    · exact absurd (show ¬ (¬ (1 : Int32) = 0) from c11) (by decide)
set_option maxRecDepth 100000 in
theorem t_group0 {sc : tm_X} {d : Nat} {B : bm_H} {F : Nat → Prop} {N S M ln : Nat} {T : List Tm} {dr : Nat} {K : Tm → Prop} {ca rm kc kl rk : Nat} {ws : List (Tm × Int32)} {wt : List Tm} {G : LG} {ids dir reg : Nat → Tm} {seen : List Tm} {π : Nat → Nat} {w : Nat → SW} {dev : Nat → DV} {sto : Nat → ST} {s g a : Int32} {Q : Int32 → bm_H → Prop} (hC : CK B F N S M ln T dr K ca rm kc kl rk) (hH : RH B T ws wt G ids dir reg seen π w dev sto) (h : inR s 6 = false ∨ inR g 4 = false) (kk : Q (-1) B) : bm_Gi sc (d + 3) 167 [.ref 0, .int s, .int g, .int a] B Q := by
  show bm_G sc (d + 3) 167 0 [(0, .ref 0), (1, .int s), (2, .int g), (3, .int a)] [] B _
  generalize elv : ([(0, .ref 0), (1, .int s), (2, .int g), (3, .int a)] : tm_L) = lv
  have l0 : lv.lookup 0 = some (.ref 0) := by rw [← elv]; rfl
  have l1 : lv.lookup 1 = some (.int s) := by rw [← elv]; rfl
  have l2 : lv.lookup 2 = some (.int g) := by rw [← elv]; rfl
  have l3 : lv.lookup 3 = some (.int a) := by rw [← elv]; rfl
  clear elv
  refine g_ild (pc' := 1) cd_Ho_group rfl (Or.inr ⟨_, rfl, rfl, rfl⟩) l1 rfl ?_
  refine g_calli (pc' := 4) cd_Ho_group rfl rfl rfl rfl rfl (tm_invS rfl rfl cd_Ho_isDevice rfl (Nat.le_of_ble_eq_true rfl)) (t_isDevice ?_)
  show bm_G _ _ _ 4 _ [.int (bz (inR s 6))] B _
  refine g_if1 (t := 14) (pc' := 7) cd_Ho_group rfl rfl rfl (fun c4 => ?_) (fun c4 => ?_)
  · have c4 : (inR s 6) = false := bz_f c4
    refine g_k1 (v := (-1)) (pc' := 15) cd_Ho_group rfl (by decide) rfl ?_
    exact g_reti cd_Ho_group rfl ⟨_, rfl, kk⟩
  · have c4 : (inR s 6) = true := bz_t c4
    refine g_ild (pc' := 8) cd_Ho_group rfl (Or.inr ⟨_, rfl, rfl, rfl⟩) l2 rfl ?_
    refine g_calli (pc' := 11) cd_Ho_group rfl rfl rfl rfl rfl (tm_invS rfl rfl cd_Ho_isGroup rfl (Nat.le_of_ble_eq_true rfl)) (t_isGroup ?_)
    show bm_G _ _ _ 11 _ [.int (bz (inR g 4))] B _
    refine g_if1 (t := 16) (pc' := 14) cd_Ho_group rfl rfl rfl (fun c11 => ?_) (fun c11 => ?_)
    · have c11 : (inR g 4) = true := bz_t c11
      exact h.elim (fun q => absurd (q.symm.trans c4) (by decide)) (fun q => absurd (q.symm.trans c11) (by decide))
    · have c11 : (inR g 4) = false := bz_f (Classical.not_not.mp c11)
      refine g_k1 (v := (-1)) (pc' := 15) cd_Ho_group rfl (by decide) rfl ?_
      exact g_reti cd_Ho_group rfl ⟨_, rfl, kk⟩
theorem RLf_n {B : bm_H} {T : List Tm} {L : List LT} {bd ll tc tl tf tg : Nat → Int32} {cf cg : Int32} {ct : Tm} {co : Bool} {li fo db : Int32} (h : RLe B T (L, bd, ll, tc, tl, tf, tg, cf, cg, ct, co, li, fo, db)) : bm_FI B 4 11 11 = nI L.length := h.2.1.1.1
theorem RLf_fo {B : bm_H} {T : List Tm} {L : List LT} {bd ll tc tl tf tg : Nat → Int32} {cf cg : Int32} {ct : Tm} {co : Bool} {li fo db : Int32} (h : RLe B T (L, bd, ll, tc, tl, tf, tg, cf, cg, ct, co, li, fo, db)) : bm_FI B 4 13 11 = fo ∧ bm_FI B 4 14 11 = db := ⟨h.2.1.2.2.2.2.1, h.2.1.2.2.2.2.2⟩
set_option maxRecDepth 100000 in
theorem t_count {sc : tm_X} {d : Nat} {B : bm_H} {F : Nat → Prop} {N S M ln : Nat} {T : List Tm} {dr : Nat} {K : Tm → Prop} {ca rm kc kl rk : Nat} {ws : List (Tm × Int32)} {wt : List Tm} {L : List LT} {bd ll tc tl tf tg : Nat → Int32} {cf cg : Int32} {ct : Tm} {co : Bool} {li fo db : Int32} {ids dir reg : Nat → Tm} {seen : List Tm} {π : Nat → Nat} {w : Nat → SW} {dev : Nat → DV} {sto : Nat → ST} {a : Int32} {Q : Int32 → bm_H → Prop} (hC : CK B F N S M ln T dr K ca rm kc kl rk) (hH : RH B T ws wt (L, bd, ll, tc, tl, tf, tg, cf, cg, ct, co, li, fo, db) ids dir reg seen π w dev sto)  (kk : Q (ct_spec ws L dr a) B) : bm_Gi sc (d + 1) 170 [.ref 0, .int a] B Q := by
  show bm_G sc (d + 1) 170 0 [(0, .ref 0), (1, .int a)] [] B _
  generalize elv : ([(0, .ref 0), (1, .int a)] : tm_L) = lv
  have l0 : lv.lookup 0 = some (.ref 0) := by rw [← elv]; rfl
  have l1 : lv.lookup 1 = some (.int a) := by rw [← elv]; rfl
  clear elv
  refine g_ild (pc' := 1) cd_Ho_count rfl (Or.inr ⟨_, rfl, rfl, rfl⟩) l1 rfl ?_
  by_cases s1_0 : a = 0
  · skip
    refine g_swk (pc' := 28) s1_0 cd_Ho_count rfl rfl (fun _ _ => rfl) ?_
    refine g_ald (pc' := 29) cd_Ho_count rfl (Or.inr ⟨_, rfl, rfl, rfl⟩) l0 rfl rfl ?_
    refine g_fR (c := 11) (k := 2) (x := 8) (pc' := 32) cd_Ho_count rfl rfl rfl rfl rfl (by decide) hH.1.1.1 hH.1.1.2 hH.1.2.1.2.2.1 ?_
    refine g_fI (c := 10) (k := 2) (x := nI ws.length) (pc' := 35) cd_Ho_count rfl rfl rfl rfl rfl (by decide) hH.2.1.1.1.1 hH.2.1.1.1.2 hH.2.1.2.1.1 ?_
    exact g_reti cd_Ho_count rfl ⟨_, rfl, (bm_eq kk (by unfold ct_spec; rw [if_pos s1_0]))⟩
  by_cases s1_1 : a = 1
  · skip
    refine g_swk (pc' := 36) s1_1 cd_Ho_count rfl rfl (fun _ _ => rfl) ?_
    refine g_ald (pc' := 37) cd_Ho_count rfl (Or.inr ⟨_, rfl, rfl, rfl⟩) l0 rfl rfl ?_
    refine g_fR (c := 11) (k := 3) (x := 11) (pc' := 40) cd_Ho_count rfl rfl rfl rfl rfl (by decide) hH.1.1.1 hH.1.1.2 hH.1.2.1.2.2.2.1 ?_
    refine g_fI (c := 4) (k := 11) (x := nI L.length) (pc' := 43) cd_Ho_count rfl rfl rfl rfl rfl (by decide) hH.2.2.1.1.1.1 hH.2.2.1.1.1.2 (RLf_n hH.2.2.1) ?_
    exact g_reti cd_Ho_count rfl ⟨_, rfl, (bm_eq kk (by unfold ct_spec; rw [if_neg (by rw [s1_1]; decide), if_pos s1_1]))⟩
  by_cases s1_2 : a = 2
  · skip
    refine g_swk (pc' := 44) s1_2 cd_Ho_count rfl rfl (fun _ _ => rfl) ?_
    refine g_ald (pc' := 45) cd_Ho_count rfl (Or.inr ⟨_, rfl, rfl, rfl⟩) l0 rfl rfl ?_
    refine g_fR (c := 11) (k := 0) (x := 1) (pc' := 48) cd_Ho_count rfl rfl rfl rfl rfl (by decide) hH.1.1.1 hH.1.1.2 hH.1.2.1.1 ?_
    refine g_fI (c := 9) (k := 5) (x := nI dr) (pc' := 51) cd_Ho_count rfl rfl rfl rfl rfl (by decide) hC.1.1.1.1 hC.1.1.1.2 hC.1.1.2.2.2.1.2.2 ?_
    exact g_reti cd_Ho_count rfl ⟨_, rfl, (bm_eq kk (by unfold ct_spec; rw [if_neg (by rw [s1_2]; decide), if_neg (by rw [s1_2]; decide), if_pos s1_2]))⟩
  refine g_swd (t := 52) cd_Ho_count rfl rfl (by have := i32_ne (n := 0) (by decide) s1_0; have := i32_ne (n := 1) (by decide) s1_1; have := i32_ne (n := 2) (by decide) s1_2; omega) ?_
  refine g_k1 (v := (-1)) (pc' := 53) cd_Ho_count rfl (by decide) rfl ?_
  exact g_reti cd_Ho_count rfl ⟨_, rfl, (bm_eq kk (by unfold ct_spec; rw [if_neg s1_0, if_neg s1_1, if_neg s1_2]))⟩
set_option maxRecDepth 100000 in
theorem t_forged {sc : tm_X} {d : Nat} {B : bm_H} {F : Nat → Prop} {N S M ln : Nat} {T : List Tm} {dr : Nat} {K : Tm → Prop} {ca rm kc kl rk : Nat} {ws : List (Tm × Int32)} {wt : List Tm} {L : List LT} {bd ll tc tl tf tg : Nat → Int32} {cf cg : Int32} {ct : Tm} {co : Bool} {li fo db : Int32} {ids dir reg : Nat → Tm} {seen : List Tm} {π : Nat → Nat} {w : Nat → SW} {dev : Nat → DV} {sto : Nat → ST}  {Q : Int32 → bm_H → Prop} (hC : CK B F N S M ln T dr K ca rm kc kl rk) (hH : RH B T ws wt (L, bd, ll, tc, tl, tf, tg, cf, cg, ct, co, li, fo, db) ids dir reg seen π w dev sto)  (kk : Q fo B) : bm_Gi sc (d + 1) 171 [.ref 0] B Q := by
  show bm_G sc (d + 1) 171 0 [(0, .ref 0)] [] B _
  generalize elv : ([(0, .ref 0)] : tm_L) = lv
  have l0 : lv.lookup 0 = some (.ref 0) := by rw [← elv]; rfl
  clear elv
  refine g_ald (pc' := 1) cd_Ho_forged rfl (Or.inr ⟨_, rfl, rfl, rfl⟩) l0 rfl rfl ?_
  refine g_fR (c := 11) (k := 3) (x := 11) (pc' := 4) cd_Ho_forged rfl rfl rfl rfl rfl (by decide) hH.1.1.1 hH.1.1.2 hH.1.2.1.2.2.2.1 ?_
  refine g_fI (c := 4) (k := 13) (x := fo) (pc' := 7) cd_Ho_forged rfl rfl rfl rfl rfl (by decide) hH.2.2.1.1.1.1 hH.2.2.1.1.1.2 (RLf_fo hH.2.2.1).1 ?_
  exact g_reti cd_Ho_forged rfl ⟨_, rfl, kk⟩
set_option maxRecDepth 100000 in
theorem t_doubled {sc : tm_X} {d : Nat} {B : bm_H} {F : Nat → Prop} {N S M ln : Nat} {T : List Tm} {dr : Nat} {K : Tm → Prop} {ca rm kc kl rk : Nat} {ws : List (Tm × Int32)} {wt : List Tm} {L : List LT} {bd ll tc tl tf tg : Nat → Int32} {cf cg : Int32} {ct : Tm} {co : Bool} {li fo db : Int32} {ids dir reg : Nat → Tm} {seen : List Tm} {π : Nat → Nat} {w : Nat → SW} {dev : Nat → DV} {sto : Nat → ST}  {Q : Int32 → bm_H → Prop} (hC : CK B F N S M ln T dr K ca rm kc kl rk) (hH : RH B T ws wt (L, bd, ll, tc, tl, tf, tg, cf, cg, ct, co, li, fo, db) ids dir reg seen π w dev sto)  (kk : Q db B) : bm_Gi sc (d + 1) 172 [.ref 0] B Q := by
  show bm_G sc (d + 1) 172 0 [(0, .ref 0)] [] B _
  generalize elv : ([(0, .ref 0)] : tm_L) = lv
  have l0 : lv.lookup 0 = some (.ref 0) := by rw [← elv]; rfl
  clear elv
  refine g_ald (pc' := 1) cd_Ho_doubled rfl (Or.inr ⟨_, rfl, rfl, rfl⟩) l0 rfl rfl ?_
  refine g_fR (c := 11) (k := 3) (x := 11) (pc' := 4) cd_Ho_doubled rfl rfl rfl rfl rfl (by decide) hH.1.1.1 hH.1.1.2 hH.1.2.1.2.2.2.1 ?_
  refine g_fI (c := 4) (k := 14) (x := db) (pc' := 7) cd_Ho_doubled rfl rfl rfl rfl rfl (by decide) hH.2.2.1.1.1.1 hH.2.2.1.1.1.2 (RLf_fo hH.2.2.1).2 ?_
  exact g_reti cd_Ho_doubled rfl ⟨_, rfl, kk⟩
theorem t_secretOf {sc : tm_X} {d : Nat} {B : bm_H} {T : List Tm} {L : List LT} {bd ll tc tl tf tg : Nat → Int32} {cf cg : Int32} {ct : Tm} {co : Bool} {li fo db : Int32} {i : Nat} {Q : Int32 → bm_H → Prop} (hR : RLe B T (L, bd, ll, tc, tl, tf, tg, cf, cg, ct, co, li, fo, db)) (hi : i < L.length) (hl7 : L.length ≤ 700) (kk : Q (bm_AI B 12 (i * 10 + 0)) B) : bm_Gi sc (d + 2) 158 [.ref 11, .int (nI i)] B Q := by
  show bm_G sc (d + 2) 158 0 [(0, .ref 11), (1, .int (nI i))] [] B _
  refine g_ald (pc' := 1) cd_Le_secretOf rfl (Or.inr ⟨_, rfl, rfl, rfl⟩) rfl rfl rfl ?_
  refine g_ild (pc' := 2) cd_Le_secretOf rfl (Or.inr ⟨_, rfl, rfl, rfl⟩) rfl rfl ?_
  refine g_k1 (v := 0) (pc' := 3) cd_Le_secretOf rfl (by decide) rfl ?_
  refine g_calli (pc' := 6) cd_Le_secretOf rfl rfl rfl rfl rfl (tm_invV rfl rfl cd_Le_of rfl (Nat.le_of_ble_eq_true rfl) (by decide) hR.1.1.1 hR.1.1.2) (t_Lof (i := i) (k := 0) hR hi (by decide) ?_)
  exact g_reti cd_Le_secretOf rfl ⟨_, rfl, kk⟩
theorem t_isKn {sc : tm_X} {d : Nat} {B : bm_H} {F : Nat → Prop} {N S M ln : Nat} {T : List Tm} {dr : Nat} {K : Tm → Prop} {ca rm kc kl rk : Nat} {x : Int32} {A : Tm} {u : Nat} {Q : Int32 → bm_H → Prop} (hC : CK B F N S M ln T dr K ca rm kc kl rk) (hx : tv T x A) (hu : u < ln) (hA : T[u]? = some A) (kt : Kn K A → Q 1 B) (kf : ¬ Kn K A → Q 0 B) : bm_Gi sc d 25 [.ref 5, .int x] B Q := by
  have ex : x = nI u := TI_inj hC.1 hx ⟨u, rfl, hA⟩
  subst ex
  have hi := KI_iff hC.1 hC.2.1 hu hA
  obtain ⟨L, fp, h1, h2, h3⟩ := hC.2.1
  refine k_Kn_isKnown h2.1 ?_
  cases c : kn_is B kc ln (nI u) with
  | true => exact kt (hi.mp c)
  | false => exact kf (fun q => by rw [hi.mpr q] at c; cases c)
set_option maxRecDepth 100000 in
theorem t_derived {sc : tm_X} {d : Nat} {B : bm_H} {F : Nat → Prop} {N S M ln : Nat} {T : List Tm} {dr : Nat} {K : Tm → Prop} {ca rm kc kl rk : Nat} {ws : List (Tm × Int32)} {wt : List Tm} {L : List LT} {bd ll tc tl tf tg : Nat → Int32} {cf cg : Int32} {ct : Tm} {co : Bool} {li fo db : Int32} {ids dir reg : Nat → Tm} {seen : List Tm} {π : Nat → Nat} {w : Nat → SW} {dev : Nat → DV} {sto : Nat → ST} {i : Nat} {e : LT} {Q : Int32 → bm_H → Prop} (hC : CK B F N S M ln T dr K ca rm kc kl rk) (hH : RH B T ws wt (L, bd, ll, tc, tl, tf, tg, cf, cg, ct, co, li, fo, db) ids dir reg seen π w dev sto) (he : L[i]? = some e) (hL7 : L.length ≤ 700) (hlk : ∀ (i : Nat) (e : LT), L[i]? = some e → ∃ u, u < ln ∧ T[u]? = some e.1) (kk : Q (cif (Kn K e.1) 1 0) B) : bm_Gi sc (d + 3) 157 [.ref 0, .int (nI i)] B Q := by
  have hi := (List.getElem?_eq_some_iff.mp he).1
  obtain ⟨u, hu, hA⟩ := hlk i e he
  have te := (hH.2.2.1.2.2.1 i e he).1
  show bm_G sc (d + 3) 157 0 [(0, .ref 0), (1, .int (nI i))] [] B _
  generalize elv : ([(0, .ref 0), (1, .int (nI i))] : tm_L) = lv
  have l0 : lv.lookup 0 = some (.ref 0) := by rw [← elv]; rfl
  have l1 : lv.lookup 1 = some (.int (nI i)) := by rw [← elv]; rfl
  clear elv
  refine g_ald (pc' := 1) cd_Ho_derived rfl (Or.inr ⟨_, rfl, rfl, rfl⟩) l0 rfl rfl ?_
  refine g_fR (c := 11) (k := 3) (x := 11) (pc' := 4) cd_Ho_derived rfl rfl rfl rfl rfl (by decide) hH.1.1.1 hH.1.1.2 hH.1.2.1.2.2.2.1 ?_
  refine g_ild (pc' := 5) cd_Ho_derived rfl (Or.inr ⟨_, rfl, rfl, rfl⟩) l1 rfl ?_
  refine g_calli (pc' := 8) cd_Ho_derived rfl rfl rfl rfl rfl (tm_invV rfl rfl cd_Le_has rfl (Nat.le_of_ble_eq_true rfl) (by decide) hH.2.2.1.1.1.1 hH.2.2.1.1.1.2) (t_Lhas hH.2.2.1 ?_)
  rw [inR_nI hi (by omega)]
  show bm_G _ _ _ _ _ (.int 1 :: _) _ _
  show bm_G _ _ _ 8 _ [.int 1] B _
  refine g_if1 (t := 13) (pc' := 11) cd_Ho_derived rfl rfl rfl (fun c8 => ?_) (fun c8 => ?_)
  · have c8 : ¬ (1 : Int32) = 0 := c8
    refine g_ald (pc' := 14) cd_Ho_derived rfl (Or.inr ⟨_, rfl, rfl, rfl⟩) l0 rfl rfl ?_
    refine g_fR (c := 11) (k := 1) (x := 5) (pc' := 17) cd_Ho_derived rfl rfl rfl rfl rfl (by decide) hH.1.1.1 hH.1.1.2 hH.1.2.1.2.1 ?_
    refine g_ald (pc' := 18) cd_Ho_derived rfl (Or.inr ⟨_, rfl, rfl, rfl⟩) l0 rfl rfl ?_
    refine g_fR (c := 11) (k := 3) (x := 11) (pc' := 21) cd_Ho_derived rfl rfl rfl rfl rfl (by decide) hH.1.1.1 hH.1.1.2 hH.1.2.1.2.2.2.1 ?_
    refine g_ild (pc' := 22) cd_Ho_derived rfl (Or.inr ⟨_, rfl, rfl, rfl⟩) l1 rfl ?_
    refine g_calli (pc' := 25) cd_Ho_derived rfl rfl rfl rfl rfl (tm_invV rfl rfl cd_Le_secretOf rfl (Nat.le_of_ble_eq_true rfl) (by decide) hH.2.2.1.1.1.1 hH.2.2.1.1.1.2) (t_secretOf hH.2.2.1 hi hL7 ?_)
    show bm_G _ _ _ 25 _ [.int ((bm_AI B 12 (i * 10 + 0))), .ref 5] B _
    refine g_calli (pc' := 28) cd_Ho_derived rfl rfl rfl rfl rfl (tm_invV rfl rfl cd_Kn_isKnown rfl (Nat.le_of_ble_eq_true rfl) (by decide) (CK_5 hC).1 (CK_5 hC).2) (t_isKn hC te hu hA (fun q => ?_) (fun q => ?_))
    · skip
      show bm_G _ _ _ 28 _ [.int 1] B _
      refine g_if1 (t := 35) (pc' := 31) cd_Ho_derived rfl rfl rfl (fun c28 => ?_) (fun c28 => ?_)
      · exact absurd (show (1 : Int32) = 0 from c28) (by decide)
      · have c28 : ¬ (1 : Int32) = 0 := c28
        refine g_k1 (v := 1) (pc' := 32) cd_Ho_derived rfl (by decide) rfl ?_
        refine g_pure (pc' := 36) (st' := [.int 1]) cd_Ho_derived rfl rfl (fun _ _ => rfl) ?_
        exact g_reti cd_Ho_derived rfl ⟨_, rfl, (bm_eq kk (cif_t q))⟩
    · skip
      show bm_G _ _ _ 28 _ [.int 0] B _
      refine g_if1 (t := 35) (pc' := 31) cd_Ho_derived rfl rfl rfl (fun c28 => ?_) (fun c28 => ?_)
      · have c28 : (0 : Int32) = 0 := c28
        refine g_k1 (v := 0) (pc' := 36) cd_Ho_derived rfl (by decide) rfl ?_
        exact g_reti cd_Ho_derived rfl ⟨_, rfl, (bm_eq kk (cif_f q))⟩
      · exact absurd (show ¬ (0 : Int32) = 0 from c28) (by decide)
  · exact absurd (show ¬ (¬ (1 : Int32) = 0) from c8) (by decide)
set_option maxRecDepth 100000 in
theorem t_derived0 {sc : tm_X} {d : Nat} {B : bm_H} {F : Nat → Prop} {N S M ln : Nat} {T : List Tm} {dr : Nat} {K : Tm → Prop} {ca rm kc kl rk : Nat} {ws : List (Tm × Int32)} {wt : List Tm} {L : List LT} {bd ll tc tl tf tg : Nat → Int32} {cf cg : Int32} {ct : Tm} {co : Bool} {li fo db : Int32} {ids dir reg : Nat → Tm} {seen : List Tm} {π : Nat → Nat} {w : Nat → SW} {dev : Nat → DV} {sto : Nat → ST} {x : Int32} {Q : Int32 → bm_H → Prop} (hC : CK B F N S M ln T dr K ca rm kc kl rk) (hH : RH B T ws wt (L, bd, ll, tc, tl, tf, tg, cf, cg, ct, co, li, fo, db) ids dir reg seen π w dev sto) (h : inR x (nI L.length) = false) (kk : Q (-1) B) : bm_Gi sc (d + 3) 157 [.ref 0, .int x] B Q := by
  show bm_G sc (d + 3) 157 0 [(0, .ref 0), (1, .int x)] [] B _
  generalize elv : ([(0, .ref 0), (1, .int x)] : tm_L) = lv
  have l0 : lv.lookup 0 = some (.ref 0) := by rw [← elv]; rfl
  have l1 : lv.lookup 1 = some (.int x) := by rw [← elv]; rfl
  clear elv
  refine g_ald (pc' := 1) cd_Ho_derived rfl (Or.inr ⟨_, rfl, rfl, rfl⟩) l0 rfl rfl ?_
  refine g_fR (c := 11) (k := 3) (x := 11) (pc' := 4) cd_Ho_derived rfl rfl rfl rfl rfl (by decide) hH.1.1.1 hH.1.1.2 hH.1.2.1.2.2.2.1 ?_
  refine g_ild (pc' := 5) cd_Ho_derived rfl (Or.inr ⟨_, rfl, rfl, rfl⟩) l1 rfl ?_
  refine g_calli (pc' := 8) cd_Ho_derived rfl rfl rfl rfl rfl (tm_invV rfl rfl cd_Le_has rfl (Nat.le_of_ble_eq_true rfl) (by decide) hH.2.2.1.1.1.1 hH.2.2.1.1.1.2) (t_Lhas hH.2.2.1 ?_)
  rw [h]
  show bm_G _ _ _ _ _ (.int 0 :: _) _ _
  show bm_G _ _ _ 8 _ [.int 0] B _
  refine g_if1 (t := 13) (pc' := 11) cd_Ho_derived rfl rfl rfl (fun c8 => ?_) (fun c8 => ?_)
  · exact absurd (show ¬ (0 : Int32) = 0 from c8) (by decide)
  · have c8 : (0 : Int32) = 0 := Classical.not_not.mp c8
    refine g_k1 (v := (-1)) (pc' := 12) cd_Ho_derived rfl (by decide) rfl ?_
    exact g_reti cd_Ho_derived rfl ⟨_, rfl, kk⟩
noncomputable def lk_count (K : Tm → Prop) (ll : Nat → Int32) (li : Int32) : List LT → Nat
  | [] => 0
  | e :: l => cif (Kn K e.1 ∧ lt_safe e ll li = true) 1 0 + lk_count K ll li l
theorem lk_cons (K : Tm → Prop) (ll : Nat → Int32) (li : Int32) (e : LT) (l : List LT) : lk_count K ll li (e :: l) = cif (Kn K e.1 ∧ lt_safe e ll li = true) 1 0 + lk_count K ll li l := rfl
theorem drop_at {α : Type} {l : List α} {i : Nat} {e : α} (h : l[i]? = some e) : l.drop i = e :: l.drop (i + 1) := by
  have hi := (List.getElem?_eq_some_iff.mp h).1
  rw [List.drop_eq_getElem_cons hi]
  congr 1
  exact (List.getElem?_eq_some_iff.mp h).2
set_option maxRecDepth 100000 in
theorem l_leaked {sc : tm_X} {d : Nat} {B : bm_H} {F : Nat → Prop} {N S M ln : Nat} {T : List Tm} {dr : Nat} {K : Tm → Prop} {ca rm kc kl rk : Nat} {ws : List (Tm × Int32)} {wt : List Tm} {L : List LT} {bd ll tc tl tf tg : Nat → Int32} {cf cg : Int32} {ct : Tm} {co : Bool} {li fo db : Int32} {ids dir reg : Nat → Tm} {seen : List Tm} {π : Nat → Nat} {w : Nat → SW} {dev : Nat → DV} {sto : Nat → ST} {Q : Int32 → bm_H → Prop} (hC : CK B F N S M ln T dr K ca rm kc kl rk) (hH : RH B T ws wt (L, bd, ll, tc, tl, tf, tg, cf, cg, ct, co, li, fo, db) ids dir reg seen π w dev sto) (hL7 : L.length ≤ 700) (hlk : ∀ (i : Nat) (e : LT), L[i]? = some e → ∃ u, u < ln ∧ T[u]? = some e.1) (hto : ∀ (i : Nat) (e : LT), L[i]? = some e → (e.2.2.2.1 = -1 → ∃ q, q < 6 ∧ e.2.2.1 = nI q) ∧ ∃ r, r < 6 ∧ e.2.1 = nI r) (kk : Q (nI (lk_count K ll li L)) B) : ∀ (m i n : Nat), i + m = L.length → n + lk_count K ll li (L.drop i) = lk_count K ll li L → ∀ lv : tm_L, lv.lookup 0 = some (.ref 0) → lv.lookup 1 = some (.int (nI n)) → lv.lookup 2 = some (.int (nI i)) → bm_G sc (d + 4) 173 4 lv [] B (fun r B' => ∃ v, r = some (.int v) ∧ Q v B') := by
  intro m
  induction m with
  | zero =>
    intro i n him hc lv l0 l1 l2
    have ei : i = L.length := by omega
    refine g_ild (pc' := 5) cd_Ho_leaked rfl (Or.inr ⟨_, rfl, rfl, rfl⟩) l2 rfl ?_
    refine g_ald (pc' := 6) cd_Ho_leaked rfl (Or.inr ⟨_, rfl, rfl, rfl⟩) l0 rfl rfl ?_
    refine g_fR (c := 11) (k := 3) (x := 11) (pc' := 9) cd_Ho_leaked rfl rfl rfl rfl rfl (by decide) hH.1.1.1 hH.1.1.2 hH.1.2.1.2.2.2.1 ?_
    refine g_fI (c := 4) (k := 11) (x := nI L.length) (pc' := 12) cd_Ho_leaked rfl rfl rfl rfl rfl (by decide) hH.2.2.1.1.1.1 hH.2.2.1.1.1.2 (RLf_n hH.2.2.1) ?_
    refine g_if2 (t := 57) (pc' := 15) cd_Ho_leaked rfl rfl rfl (fun c12 => ?_) (fun c12 => ?_)
    · have c12 : (nI L.length) ≤ (nI i) := c12
      refine g_ild (pc' := 58) cd_Ho_leaked rfl (Or.inr ⟨_, rfl, rfl, rfl⟩) l1 rfl ?_
      exact g_reti cd_Ho_leaked rfl ⟨_, rfl, (bm_eq kk (by rw [← hc, ei, List.drop_length]; rfl))⟩
    · have c12 : ¬ (nI L.length) ≤ (nI i) := c12
      exact absurd (show nI L.length ≤ nI i by rw [ei]; exact Int32.le_refl _) c12
  | succ m ih =>
    intro i n him hc lv l0 l1 l2
    have hi : i < L.length := by omega
    obtain ⟨e, he⟩ : ∃ e, L[i]? = some e := ⟨_, List.getElem?_eq_getElem hi⟩
    obtain ⟨u, hu, hA⟩ := hlk i e he
    have te := (hH.2.2.1.2.2.1 i e he).1
    rw [drop_at he] at hc
    obtain ⟨xs, xf, xt, xg, xm, xo, xi, xh, xk, xz⟩ := e
    refine g_ild (pc' := 5) cd_Ho_leaked rfl (Or.inr ⟨_, rfl, rfl, rfl⟩) l2 rfl ?_
    refine g_ald (pc' := 6) cd_Ho_leaked rfl (Or.inr ⟨_, rfl, rfl, rfl⟩) l0 rfl rfl ?_
    refine g_fR (c := 11) (k := 3) (x := 11) (pc' := 9) cd_Ho_leaked rfl rfl rfl rfl rfl (by decide) hH.1.1.1 hH.1.1.2 hH.1.2.1.2.2.2.1 ?_
    refine g_fI (c := 4) (k := 11) (x := nI L.length) (pc' := 12) cd_Ho_leaked rfl rfl rfl rfl rfl (by decide) hH.2.2.1.1.1.1 hH.2.2.1.1.1.2 (RLf_n hH.2.2.1) ?_
    refine g_if2 (t := 57) (pc' := 15) cd_Ho_leaked rfl rfl rfl (fun c12 => ?_) (fun c12 => ?_)
    · have c12 : (nI L.length) ≤ (nI i) := c12
      exact absurd c12 (nI_ge hi (by omega))
    · have c12 : ¬ (nI L.length) ≤ (nI i) := c12
      refine g_ald (pc' := 16) cd_Ho_leaked rfl (Or.inr ⟨_, rfl, rfl, rfl⟩) l0 rfl rfl ?_
      refine g_fR (c := 11) (k := 1) (x := 5) (pc' := 19) cd_Ho_leaked rfl rfl rfl rfl rfl (by decide) hH.1.1.1 hH.1.1.2 hH.1.2.1.2.1 ?_
      refine g_ald (pc' := 20) cd_Ho_leaked rfl (Or.inr ⟨_, rfl, rfl, rfl⟩) l0 rfl rfl ?_
      refine g_fR (c := 11) (k := 3) (x := 11) (pc' := 23) cd_Ho_leaked rfl rfl rfl rfl rfl (by decide) hH.1.1.1 hH.1.1.2 hH.1.2.1.2.2.2.1 ?_
      refine g_ild (pc' := 24) cd_Ho_leaked rfl (Or.inr ⟨_, rfl, rfl, rfl⟩) l2 rfl ?_
      refine g_calli (pc' := 27) cd_Ho_leaked rfl rfl rfl rfl rfl (tm_invV rfl rfl cd_Le_secretOf rfl (Nat.le_of_ble_eq_true rfl) (by decide) hH.2.2.1.1.1.1 hH.2.2.1.1.1.2) (t_secretOf hH.2.2.1 hi hL7 ?_)
      show bm_G _ _ _ 27 _ [.int ((bm_AI B 12 (i * 10 + 0))), .ref 5] B _
      refine g_calli (pc' := 30) cd_Ho_leaked rfl rfl rfl rfl rfl (tm_invV rfl rfl cd_Kn_isKnown rfl (Nat.le_of_ble_eq_true rfl) (by decide) (CK_5 hC).1 (CK_5 hC).2) (t_isKn hC te hu hA (fun q => ?_) (fun q => ?_))
      · skip
        show bm_G _ _ _ 30 _ [.int 1] B _
        refine g_if1 (t := 51) (pc' := 33) cd_Ho_leaked rfl rfl rfl (fun c30 => ?_) (fun c30 => ?_)
        · exact absurd (show (1 : Int32) = 0 from c30) (by decide)
        · have c30 : ¬ (1 : Int32) = 0 := c30
          refine g_ald (pc' := 34) cd_Ho_leaked rfl (Or.inr ⟨_, rfl, rfl, rfl⟩) l0 rfl rfl ?_
          refine g_fR (c := 11) (k := 3) (x := 11) (pc' := 37) cd_Ho_leaked rfl rfl rfl rfl rfl (by decide) hH.1.1.1 hH.1.1.2 hH.1.2.1.2.2.2.1 ?_
          refine g_ald (pc' := 38) cd_Ho_leaked rfl (Or.inr ⟨_, rfl, rfl, rfl⟩) l0 rfl rfl ?_
          refine g_fR (c := 11) (k := 0) (x := 1) (pc' := 41) cd_Ho_leaked rfl rfl rfl rfl rfl (by decide) hH.1.1.1 hH.1.1.2 hH.1.2.1.1 ?_
          refine g_ild (pc' := 42) cd_Ho_leaked rfl (Or.inr ⟨_, rfl, rfl, rfl⟩) l2 rfl ?_
          refine g_calli (pc' := 45) cd_Ho_leaked rfl rfl rfl rfl rfl (tm_invV rfl rfl cd_Le_isSheltered rfl (Nat.le_of_ble_eq_true rfl) (by decide) hH.2.2.1.1.1.1 hH.2.2.1.1.1.2) (t_sheltered hC.1 hH.2.2.1 he (hto i _ he).1 (hto i _ he).2 ?_)
          show bm_G _ _ _ 45 _ [.int (bz (lt_safe (xs, xf, xt, xg, xm, xo, xi, xh, xk, xz) ll li))] B _
          refine g_if1 (t := 51) (pc' := 48) cd_Ho_leaked rfl rfl rfl (fun c45 => ?_) (fun c45 => ?_)
          · have c45 : (lt_safe (xs, xf, xt, xg, xm, xo, xi, xh, xk, xz) ll li) = false := bz_f c45
            refine g_inc (y := nI (i + 1)) (pc' := 54) cd_Ho_leaked rfl l2 (by decide) (nI_add i 1) rfl (fun lv el => ?_)
            have l0 := tm_lk el l0 rfl (by decide)
            have l1 := tm_lk el l1 rfl (by decide)
            have l2 : lv.lookup 2 = some (.int (nI (i + 1))) := tm_lks el
            clear el
            refine g_pure (pc' := 4) (st' := []) cd_Ho_leaked rfl rfl (fun _ _ => rfl) ?_
            rw [lk_cons, cif_f (fun z => absurd (c45.symm.trans z.2) (by decide))] at hc
            exact ih (i + 1) n (by omega) (by omega) lv l0 l1 l2
          · have c45 : (lt_safe (xs, xf, xt, xg, xm, xo, xi, xh, xk, xz) ll li) = true := bz_t c45
            refine g_inc (y := nI (n + 1)) (pc' := 51) cd_Ho_leaked rfl l1 (by decide) (nI_add n 1) rfl (fun lv el => ?_)
            have l0 := tm_lk el l0 rfl (by decide)
            have l2 := tm_lk el l2 rfl (by decide)
            have l1 : lv.lookup 1 = some (.int (nI (n + 1))) := tm_lks el
            clear el
            refine g_inc (y := nI (i + 1)) (pc' := 54) cd_Ho_leaked rfl l2 (by decide) (nI_add i 1) rfl (fun lv el => ?_)
            have l0 := tm_lk el l0 rfl (by decide)
            have l1 := tm_lk el l1 rfl (by decide)
            have l2 : lv.lookup 2 = some (.int (nI (i + 1))) := tm_lks el
            clear el
            refine g_pure (pc' := 4) (st' := []) cd_Ho_leaked rfl rfl (fun _ _ => rfl) ?_
            rw [lk_cons, cif_t ⟨q, c45⟩] at hc
            exact ih (i + 1) (n + 1) (by omega) (by omega) lv l0 l1 l2
      · skip
        show bm_G _ _ _ 30 _ [.int 0] B _
        refine g_if1 (t := 51) (pc' := 33) cd_Ho_leaked rfl rfl rfl (fun c30 => ?_) (fun c30 => ?_)
        · have c30 : (0 : Int32) = 0 := c30
          refine g_inc (y := nI (i + 1)) (pc' := 54) cd_Ho_leaked rfl l2 (by decide) (nI_add i 1) rfl (fun lv el => ?_)
          have l0 := tm_lk el l0 rfl (by decide)
          have l1 := tm_lk el l1 rfl (by decide)
          have l2 : lv.lookup 2 = some (.int (nI (i + 1))) := tm_lks el
          clear el
          refine g_pure (pc' := 4) (st' := []) cd_Ho_leaked rfl rfl (fun _ _ => rfl) ?_
          rw [lk_cons, cif_f (fun z => q z.1)] at hc
          exact ih (i + 1) n (by omega) (by omega) lv l0 l1 l2
        · exact absurd (show ¬ (0 : Int32) = 0 from c30) (by decide)
set_option maxRecDepth 100000 in
theorem t_leaked {sc : tm_X} {d : Nat} {B : bm_H} {F : Nat → Prop} {N S M ln : Nat} {T : List Tm} {dr : Nat} {K : Tm → Prop} {ca rm kc kl rk : Nat} {ws : List (Tm × Int32)} {wt : List Tm} {L : List LT} {bd ll tc tl tf tg : Nat → Int32} {cf cg : Int32} {ct : Tm} {co : Bool} {li fo db : Int32} {ids dir reg : Nat → Tm} {seen : List Tm} {π : Nat → Nat} {w : Nat → SW} {dev : Nat → DV} {sto : Nat → ST}  {Q : Int32 → bm_H → Prop} (hC : CK B F N S M ln T dr K ca rm kc kl rk) (hH : RH B T ws wt (L, bd, ll, tc, tl, tf, tg, cf, cg, ct, co, li, fo, db) ids dir reg seen π w dev sto) (hL7 : L.length ≤ 700) (hlk : ∀ (i : Nat) (e : LT), L[i]? = some e → ∃ u, u < ln ∧ T[u]? = some e.1) (hto : ∀ (i : Nat) (e : LT), L[i]? = some e → (e.2.2.2.1 = -1 → ∃ q, q < 6 ∧ e.2.2.1 = nI q) ∧ ∃ r, r < 6 ∧ e.2.1 = nI r) (kk : Q (nI (lk_count K ll li L)) B) : bm_Gi sc (d + 4) 173 [.ref 0] B Q := by
  show bm_G sc (d + 4) 173 0 [(0, .ref 0)] [] B _
  generalize elv : ([(0, .ref 0)] : tm_L) = lv
  have l0 : lv.lookup 0 = some (.ref 0) := by rw [← elv]; rfl
  clear elv
  refine g_k1 (v := 0) (pc' := 1) cd_Ho_leaked rfl (by decide) rfl ?_
  refine g_ist (pc' := 2) cd_Ho_leaked rfl (Or.inr ⟨_, rfl, rfl, rfl⟩) (by decide) rfl (fun lv el => ?_)
  have l0 := tm_lk el l0 rfl (by decide)
  have l1 : lv.lookup 1 = some (.int 0) := tm_lks el
  clear el
  refine g_k1 (v := 0) (pc' := 3) cd_Ho_leaked rfl (by decide) rfl ?_
  refine g_ist (pc' := 4) cd_Ho_leaked rfl (Or.inr ⟨_, rfl, rfl, rfl⟩) (by decide) rfl (fun lv el => ?_)
  have l0 := tm_lk el l0 rfl (by decide)
  have l1 := tm_lk el l1 rfl (by decide)
  have l2 : lv.lookup 2 = some (.int 0) := tm_lks el
  clear el
  exact l_leaked hC hH hL7 hlk hto kk L.length 0 0 (by omega) (by rw [List.drop_zero]; omega) lv l0 l1 l2
set_option maxRecDepth 100000 in
theorem t_deliver {sc : tm_X} {d : Nat} {B : bm_H} {F : Nat → Prop} {N S M ln : Nat} {T : List Tm} {dr : Nat} {K : Tm → Prop} {ca rm kc kl rk : Nat} {ws : List (Tm × Int32)} {wt : List Tm} {L : List LT} {bd ll tc tl tf tg : Nat → Int32} {cf cg : Int32} {ct : Tm} {co : Bool} {li fo db : Int32} {ids dir reg : Nat → Tm} {seen : List Tm} {π : Nat → Nat} {w : Nat → SW} {dev : Nat → DV} {sto : Nat → ST} {id : Tm} {K0 K1 : PK} {on : List (Tm × Int32)} {lnu : Int32} {se : Nat → List SS} {me : Nat → MM} {q i : Nat} {A : Tm} {p0 : Bool} {P : EN2} {c : Option Nat} {Q : Int32 → bm_H → Prop} (hC : CK B F N S M ln T dr K ca rm kc kl rk) (hH : RH B T ws wt (L, bd, ll, tc, tl, tf, tg, cf, cg, ct, co, li, fo, db) ids dir reg seen π w dev sto) (hTl : T.length ≤ 30000) (hq : q < 6) (eD : dev q = (id, K0, K1, on, lnu, se, me)) (hst : (sto q).2.2.2.2 = false → sto q = (p0, P, [], c, false)) (kI : kd id = 1) (kJ : ∀ p, p < 6 → kd (ids p) = 1) (hk0 : 0 < K0.2.1 → kd K0.1 = 1) (hk1 : 0 < K1.2.1 → kd K1.1 = 1) (hk : ∀ e, e ∈ on → kd e.1 = 1) (hse : ∀ (p k : Nat) (S : SS), (se p)[k]? = some S → okI S.1 ∧ kd S.2.2.2.1 = 1) (hme : ∀ (g p k : Nat) (G : GV), (mgv (me g) p)[k]? = some G → okI G.1) (hi : i < ws.length) (eA : (ws.getD i (tz, 0)).1 = A) (hen : 0 ≤ (ar_spec (id, K0, K1, on, lnu, se, me) ids q A).1 → (dv_en (ar_spec (id, K0, K1, on, lnu, se, me) ids q A).2.1).length ≤ 536) (kD : (sto q).2.2.2.2 = true → Q (-3) B) (kN : ∀ B' T' M' ca' rm' w' D' G', T <+: T' → T'.length ≤ T.length + 34 → (ar_spec (id, K0, K1, on, lnu, se, me) ids q A).1 < 0 → (∃ cf' cg' ct' co', G' = (L, bd, ll, tc, tl, tf, tg, cf', cg', ct', co', li, fo, db)) → CK B' F N S M' ln T' dr K ca' rm' kc kl rk → RH B' T' ws [] G' ids dir reg seen π w' (fset dev 6 D') sto → fr (fun y => ¬ F y) B B' → Q (ar_spec (id, K0, K1, on, lnu, se, me) ids q A).1 B') (k0 : ∀ B' T' M' ca' rm' w' D' G', T <+: T' → T'.length ≤ T.length + 34 → 0 ≤ (ar_spec (id, K0, K1, on, lnu, se, me) ids q A).1 → (st_commit p0 P c (dv_en (ar_spec (id, K0, K1, on, lnu, se, me) ids q A).2.1)).1 = 0 → (∃ cf' cg' ct' co', G' = (L, bd, ll, tc, tl, tf, tg, cf', cg', ct', co', li, fo, db)) → CK B' F N S M' ln T' dr K ca' rm' kc kl rk → RH B' T' ws [] G' ids dir reg seen π w' (fset dev 6 D') (fset sto q (st_commit p0 P c (dv_en (ar_spec (id, K0, K1, on, lnu, se, me) ids q A).2.1)).2) → fr (fun y => ¬ F y) B B' → Q (-4) B') (k1 : ∀ B' T' M' ca' rm' w' G', T <+: T' → T'.length ≤ T.length + 34 → 0 ≤ (ar_spec (id, K0, K1, on, lnu, se, me) ids q A).1 → (st_commit p0 P c (dv_en (ar_spec (id, K0, K1, on, lnu, se, me) ids q A).2.1)).1 = 1 → (∃ cf' cg' ct' co', G' = (L, bd, ll, tc, tl, tf, tg, cf', cg', ct', co', li, fo, db)) → CK B' F N S M' ln T' dr K ca' rm' kc kl rk → RH B' T' ws [] G' ids dir reg seen (sw6 π q) w' (sw6 (fset dev 6 (ar_spec (id, K0, K1, on, lnu, se, me) ids q A).2.1) q) (fset sto q (st_commit p0 P c (dv_en (ar_spec (id, K0, K1, on, lnu, se, me) ids q A).2.1)).2) → fr (fun y => ¬ F y) B B' → Q (-4) B') (k2 : ∀ B' T' M' ca' rm' w' G', T <+: T' → T'.length ≤ T.length + 34 → 0 ≤ (ar_spec (id, K0, K1, on, lnu, se, me) ids q A).1 → (st_commit p0 P c (dv_en (ar_spec (id, K0, K1, on, lnu, se, me) ids q A).2.1)).1 = 2 → ((ar_spec (id, K0, K1, on, lnu, se, me) ids q A).1 = 1 → G' = lg_taken (L, bd, ll, tc, tl, tf, tg, (ar_spec (id, K0, K1, on, lnu, se, me) ids q A).2.2.1, (ar_spec (id, K0, K1, on, lnu, se, me) ids q A).2.2.2.1, (ar_spec (id, K0, K1, on, lnu, se, me) ids q A).2.2.2.2.1, (ar_spec (id, K0, K1, on, lnu, se, me) ids q A).2.2.2.2.2, li, fo, db) q) → ((ar_spec (id, K0, K1, on, lnu, se, me) ids q A).1 ≠ 1 → G' = (L, bd, ll, tc, tl, tf, tg, cf, cg, ct, co, li, fo, db)) → CK B' F N S M' ln T' dr K ca' rm' kc kl rk → RH B' T' ws [] G' ids dir reg seen (sw6 π q) w' (sw6 (fset dev 6 (ar_spec (id, K0, K1, on, lnu, se, me) ids q A).2.1) q) (fset sto q (st_commit p0 P c (dv_en (ar_spec (id, K0, K1, on, lnu, se, me) ids q A).2.1)).2) → fr (fun y => ¬ F y) B B' → Q (ar_spec (id, K0, K1, on, lnu, se, me) ids q A).1 B') : bm_Gi sc (d + 7) 103 [.ref 0, .int (nI q), .int (nI i)] B Q := by
  have tj := (RWi_at hH.2.1 hi).1
  rw [eA] at tj
  have h7 := hH.2.1.2.1.2.2
  show bm_G sc (d + 7) 103 0 [(0, .ref 0), (1, .int (nI q)), (2, .int (nI i))] [] B _
  generalize elv : ([(0, .ref 0), (1, .int (nI q)), (2, .int (nI i))] : tm_L) = lv
  have l0 : lv.lookup 0 = some (.ref 0) := by rw [← elv]; rfl
  have l1 : lv.lookup 1 = some (.int (nI q)) := by rw [← elv]; rfl
  have l2 : lv.lookup 2 = some (.int (nI i)) := by rw [← elv]; rfl
  clear elv
  refine g_ild (pc' := 1) cd_Ho_deliver rfl (Or.inr ⟨_, rfl, rfl, rfl⟩) l1 rfl ?_
  refine g_calli (pc' := 4) cd_Ho_deliver rfl rfl rfl rfl rfl (tm_invS rfl rfl cd_Ho_isDevice rfl (Nat.le_of_ble_eq_true rfl)) (t_isDev hq ?_)
  show bm_G _ _ _ 4 _ [.int 1] B _
  refine g_if1 (t := 18) (pc' := 7) cd_Ho_deliver rfl rfl rfl (fun c4 => ?_) (fun c4 => ?_)
  · exact absurd (show (1 : Int32) = 0 from c4) (by decide)
  · have c4 : ¬ (1 : Int32) = 0 := c4
    refine g_ald (pc' := 8) cd_Ho_deliver rfl (Or.inr ⟨_, rfl, rfl, rfl⟩) l0 rfl rfl ?_
    refine g_fR (c := 11) (k := 2) (x := 8) (pc' := 11) cd_Ho_deliver rfl rfl rfl rfl rfl (by decide) hH.1.1.1 hH.1.1.2 hH.1.2.1.2.2.1 ?_
    refine g_ild (pc' := 12) cd_Ho_deliver rfl (Or.inr ⟨_, rfl, rfl, rfl⟩) l2 rfl ?_
    refine g_calli (pc' := 15) cd_Ho_deliver rfl rfl rfl rfl rfl (tm_invV rfl rfl cd_Wi_has rfl (Nat.le_of_ble_eq_true rfl) (by decide) hH.2.1.1.1.1 hH.2.1.1.1.2) (t_Whas hH.2.1 ?_)
    rw [inR_nI hi (by omega)]
    show bm_G _ _ _ _ _ (.int 1 :: _) _ _
    show bm_G _ _ _ 15 _ [.int 1] B _
    refine g_if1 (t := 20) (pc' := 18) cd_Ho_deliver rfl rfl rfl (fun c15 => ?_) (fun c15 => ?_)
    · have c15 : ¬ (1 : Int32) = 0 := c15
      refine g_ald (pc' := 21) cd_Ho_deliver rfl (Or.inr ⟨_, rfl, rfl, rfl⟩) l0 rfl rfl ?_
      refine g_ild (pc' := 22) cd_Ho_deliver rfl (Or.inr ⟨_, rfl, rfl, rfl⟩) l1 rfl ?_
      refine g_ald (pc' := 23) cd_Ho_deliver rfl (Or.inr ⟨_, rfl, rfl, rfl⟩) l0 rfl rfl ?_
      refine g_fR (c := 11) (k := 2) (x := 8) (pc' := 26) cd_Ho_deliver rfl rfl rfl rfl rfl (by decide) hH.1.1.1 hH.1.1.2 hH.1.2.1.2.2.1 ?_
      refine g_fR (c := 10) (k := 0) (x := 9) (pc' := 29) cd_Ho_deliver rfl rfl rfl rfl rfl (by decide) hH.2.1.1.1.1 hH.2.1.1.1.2 hH.2.1.1.2.1.1 ?_
      refine g_ild (pc' := 30) cd_Ho_deliver rfl (Or.inr ⟨_, rfl, rfl, rfl⟩) l2 rfl ?_
      refine g_aI (x := (bm_AI B 9 i)) (pc' := 31) cd_Ho_deliver rfl rfl hH.2.1.1.2.2.1.1 hH.2.1.1.2.2.1.2.1 (by rw [show bm_AL B 9 = 700 from hH.2.1.1.2.2.1.2.2]; exact vp_in_nI (by omega) (by decide)) (by rw [nI_clamp (by omega)]) ?_
      refine g_calli (pc' := 34) cd_Ho_deliver rfl rfl rfl rfl rfl (tm_invV rfl rfl cd_Ho_arrive rfl (Nat.le_of_ble_eq_true rfl) (by decide) hH.1.1.1 hH.1.1.2) (t_arrive hC hH hTl hq eD hst kI kJ hk0 hk1 hk hse hme tj hen (fun z => ?_) (fun B1 T1 M1 ca1 rm1 w1 D1 G1 z1 z2 z3 z4 z5 z6 z7 => ?_) (fun B1 T1 M1 ca1 rm1 w1 D1 G1 z1 z2 z3 z4 z5 z6 z7 z8 => ?_) (fun B1 T1 M1 ca1 rm1 w1 G1 z1 z2 z3 z4 z5 z6 z7 z8 => ?_) (fun B1 T1 M1 ca1 rm1 w1 G1 z1 z2 z3 z4 z5 z6 z7 z8 z9 => ?_))
      · skip
        show bm_G _ _ _ 34 _ [.int (-3)] B _
        exact g_reti cd_Ho_deliver rfl ⟨_, rfl, (kD z)⟩
      · skip
        show bm_G _ _ _ 34 _ [.int ((ar_spec (id, K0, K1, on, lnu, se, me) ids q A).1)] B1 _
        exact g_reti cd_Ho_deliver rfl ⟨_, rfl, (kN B1 T1 M1 ca1 rm1 w1 D1 G1 z1 z2 z3 z4 z5 z6 z7)⟩
      · skip
        show bm_G _ _ _ 34 _ [.int (-4)] B1 _
        exact g_reti cd_Ho_deliver rfl ⟨_, rfl, (k0 B1 T1 M1 ca1 rm1 w1 D1 G1 z1 z2 z3 z4 z5 z6 z7 z8)⟩
      · skip
        show bm_G _ _ _ 34 _ [.int (-4)] B1 _
        exact g_reti cd_Ho_deliver rfl ⟨_, rfl, (k1 B1 T1 M1 ca1 rm1 w1 G1 z1 z2 z3 z4 z5 z6 z7 z8)⟩
      · skip
        show bm_G _ _ _ 34 _ [.int ((ar_spec (id, K0, K1, on, lnu, se, me) ids q A).1)] B1 _
        exact g_reti cd_Ho_deliver rfl ⟨_, rfl, (k2 B1 T1 M1 ca1 rm1 w1 G1 z1 z2 z3 z4 z5 z6 z7 z8 z9)⟩
    · exact absurd (show ¬ (¬ (1 : Int32) = 0) from c15) (by decide)
set_option maxRecDepth 100000 in
theorem t_deliver0 {sc : tm_X} {d : Nat} {B : bm_H} {F : Nat → Prop} {N S M ln : Nat} {T : List Tm} {dr : Nat} {K : Tm → Prop} {ca rm kc kl rk : Nat} {ws : List (Tm × Int32)} {wt : List Tm} {G : LG} {ids dir reg : Nat → Tm} {seen : List Tm} {π : Nat → Nat} {w : Nat → SW} {dev : Nat → DV} {sto : Nat → ST} {p x : Int32} {Q : Int32 → bm_H → Prop} (hC : CK B F N S M ln T dr K ca rm kc kl rk) (hH : RH B T ws wt G ids dir reg seen π w dev sto) (h : inR p 6 = false ∨ inR x (nI ws.length) = false) (kk : Q (-1) B) : bm_Gi sc (d + 7) 103 [.ref 0, .int p, .int x] B Q := by
  show bm_G sc (d + 7) 103 0 [(0, .ref 0), (1, .int p), (2, .int x)] [] B _
  generalize elv : ([(0, .ref 0), (1, .int p), (2, .int x)] : tm_L) = lv
  have l0 : lv.lookup 0 = some (.ref 0) := by rw [← elv]; rfl
  have l1 : lv.lookup 1 = some (.int p) := by rw [← elv]; rfl
  have l2 : lv.lookup 2 = some (.int x) := by rw [← elv]; rfl
  clear elv
  refine g_ild (pc' := 1) cd_Ho_deliver rfl (Or.inr ⟨_, rfl, rfl, rfl⟩) l1 rfl ?_
  refine g_calli (pc' := 4) cd_Ho_deliver rfl rfl rfl rfl rfl (tm_invS rfl rfl cd_Ho_isDevice rfl (Nat.le_of_ble_eq_true rfl)) (t_isDevice ?_)
  show bm_G _ _ _ 4 _ [.int (bz (inR p 6))] B _
  refine g_if1 (t := 18) (pc' := 7) cd_Ho_deliver rfl rfl rfl (fun c4 => ?_) (fun c4 => ?_)
  · have c4 : (inR p 6) = false := bz_f c4
    refine g_k1 (v := (-1)) (pc' := 19) cd_Ho_deliver rfl (by decide) rfl ?_
    exact g_reti cd_Ho_deliver rfl ⟨_, rfl, kk⟩
  · have c4 : (inR p 6) = true := bz_t c4
    refine g_ald (pc' := 8) cd_Ho_deliver rfl (Or.inr ⟨_, rfl, rfl, rfl⟩) l0 rfl rfl ?_
    refine g_fR (c := 11) (k := 2) (x := 8) (pc' := 11) cd_Ho_deliver rfl rfl rfl rfl rfl (by decide) hH.1.1.1 hH.1.1.2 hH.1.2.1.2.2.1 ?_
    refine g_ild (pc' := 12) cd_Ho_deliver rfl (Or.inr ⟨_, rfl, rfl, rfl⟩) l2 rfl ?_
    refine g_calli (pc' := 15) cd_Ho_deliver rfl rfl rfl rfl rfl (tm_invV rfl rfl cd_Wi_has rfl (Nat.le_of_ble_eq_true rfl) (by decide) hH.2.1.1.1.1 hH.2.1.1.1.2) (t_Whas hH.2.1 ?_)
    show bm_G _ _ _ 15 _ [.int (bz (inR x (nI ws.length)))] B _
    refine g_if1 (t := 20) (pc' := 18) cd_Ho_deliver rfl rfl rfl (fun c15 => ?_) (fun c15 => ?_)
    · have c15 : (inR x (nI ws.length)) = true := bz_t c15
      exact h.elim (fun q => absurd (q.symm.trans c4) (by decide)) (fun q => absurd (q.symm.trans c15) (by decide))
    · have c15 : (inR x (nI ws.length)) = false := bz_f (Classical.not_not.mp c15)
      refine g_k1 (v := (-1)) (pc' := 19) cd_Ho_deliver rfl (by decide) rfl ?_
      exact g_reti cd_Ho_deliver rfl ⟨_, rfl, kk⟩
set_option maxRecDepth 100000 in
theorem t_inject {sc : tm_X} {d : Nat} {B : bm_H} {F : Nat → Prop} {N S M ln : Nat} {T : List Tm} {dr : Nat} {K : Tm → Prop} {ca rm kc kl rk : Nat} {ws : List (Tm × Int32)} {wt : List Tm} {L : List LT} {bd ll tc tl tf tg : Nat → Int32} {cf cg : Int32} {ct : Tm} {co : Bool} {li fo db : Int32} {ids dir reg : Nat → Tm} {seen : List Tm} {π : Nat → Nat} {w : Nat → SW} {dev : Nat → DV} {sto : Nat → ST} {id : Tm} {K0 K1 : PK} {on : List (Tm × Int32)} {lnu : Int32} {se : Nat → List SS} {me : Nat → MM} {q : Nat} {r : Int32} {A : Tm} {p0 : Bool} {P : EN2} {c : Option Nat} {Q : Int32 → bm_H → Prop} (hC : CK B F N S M ln T dr K ca rm kc kl rk) (hH : RH B T ws wt (L, bd, ll, tc, tl, tf, tg, cf, cg, ct, co, li, fo, db) ids dir reg seen π w dev sto) (hTl : T.length ≤ 30000) (hq : q < 6) (eD : dev q = (id, K0, K1, on, lnu, se, me)) (hst : (sto q).2.2.2.2 = false → sto q = (p0, P, [], c, false)) (kI : kd id = 1) (kJ : ∀ p, p < 6 → kd (ids p) = 1) (hk0 : 0 < K0.2.1 → kd K0.1 = 1) (hk1 : 0 < K1.2.1 → kd K1.1 = 1) (hk : ∀ e, e ∈ on → kd e.1 = 1) (hse : ∀ (p k : Nat) (S : SS), (se p)[k]? = some S → okI S.1 ∧ kd S.2.2.2.1 = 1) (hme : ∀ (g p k : Nat) (G : GV), (mgv (me g) p)[k]? = some G → okI G.1) (eA : hl reg r = A) (hA : A ≠ tz) (hen : 0 ≤ (ar_spec (id, K0, K1, on, lnu, se, me) ids q A).1 → (dv_en (ar_spec (id, K0, K1, on, lnu, se, me) ids q A).2.1).length ≤ 536) (kD : (sto q).2.2.2.2 = true → Q (-3) B) (kN : ∀ B' T' M' ca' rm' w' D' G', T <+: T' → T'.length ≤ T.length + 34 → (ar_spec (id, K0, K1, on, lnu, se, me) ids q A).1 < 0 → (∃ cf' cg' ct' co', G' = (L, bd, ll, tc, tl, tf, tg, cf', cg', ct', co', li, fo, db)) → CK B' F N S M' ln T' dr K ca' rm' kc kl rk → RH B' T' ws [] G' ids dir reg seen π w' (fset dev 6 D') sto → fr (fun y => ¬ F y) B B' → Q (ar_spec (id, K0, K1, on, lnu, se, me) ids q A).1 B') (k0 : ∀ B' T' M' ca' rm' w' D' G', T <+: T' → T'.length ≤ T.length + 34 → 0 ≤ (ar_spec (id, K0, K1, on, lnu, se, me) ids q A).1 → (st_commit p0 P c (dv_en (ar_spec (id, K0, K1, on, lnu, se, me) ids q A).2.1)).1 = 0 → (∃ cf' cg' ct' co', G' = (L, bd, ll, tc, tl, tf, tg, cf', cg', ct', co', li, fo, db)) → CK B' F N S M' ln T' dr K ca' rm' kc kl rk → RH B' T' ws [] G' ids dir reg seen π w' (fset dev 6 D') (fset sto q (st_commit p0 P c (dv_en (ar_spec (id, K0, K1, on, lnu, se, me) ids q A).2.1)).2) → fr (fun y => ¬ F y) B B' → Q (-4) B') (k1 : ∀ B' T' M' ca' rm' w' G', T <+: T' → T'.length ≤ T.length + 34 → 0 ≤ (ar_spec (id, K0, K1, on, lnu, se, me) ids q A).1 → (st_commit p0 P c (dv_en (ar_spec (id, K0, K1, on, lnu, se, me) ids q A).2.1)).1 = 1 → (∃ cf' cg' ct' co', G' = (L, bd, ll, tc, tl, tf, tg, cf', cg', ct', co', li, fo, db)) → CK B' F N S M' ln T' dr K ca' rm' kc kl rk → RH B' T' ws [] G' ids dir reg seen (sw6 π q) w' (sw6 (fset dev 6 (ar_spec (id, K0, K1, on, lnu, se, me) ids q A).2.1) q) (fset sto q (st_commit p0 P c (dv_en (ar_spec (id, K0, K1, on, lnu, se, me) ids q A).2.1)).2) → fr (fun y => ¬ F y) B B' → Q (-4) B') (k2 : ∀ B' T' M' ca' rm' w' G', T <+: T' → T'.length ≤ T.length + 34 → 0 ≤ (ar_spec (id, K0, K1, on, lnu, se, me) ids q A).1 → (st_commit p0 P c (dv_en (ar_spec (id, K0, K1, on, lnu, se, me) ids q A).2.1)).1 = 2 → ((ar_spec (id, K0, K1, on, lnu, se, me) ids q A).1 = 1 → G' = lg_taken (L, bd, ll, tc, tl, tf, tg, (ar_spec (id, K0, K1, on, lnu, se, me) ids q A).2.2.1, (ar_spec (id, K0, K1, on, lnu, se, me) ids q A).2.2.2.1, (ar_spec (id, K0, K1, on, lnu, se, me) ids q A).2.2.2.2.1, (ar_spec (id, K0, K1, on, lnu, se, me) ids q A).2.2.2.2.2, li, fo, db) q) → ((ar_spec (id, K0, K1, on, lnu, se, me) ids q A).1 ≠ 1 → G' = (L, bd, ll, tc, tl, tf, tg, cf, cg, ct, co, li, fo, db)) → CK B' F N S M' ln T' dr K ca' rm' kc kl rk → RH B' T' ws [] G' ids dir reg seen (sw6 π q) w' (sw6 (fset dev 6 (ar_spec (id, K0, K1, on, lnu, se, me) ids q A).2.1) q) (fset sto q (st_commit p0 P c (dv_en (ar_spec (id, K0, K1, on, lnu, se, me) ids q A).2.1)).2) → fr (fun y => ¬ F y) B B' → Q (ar_spec (id, K0, K1, on, lnu, se, me) ids q A).1 B') : bm_Gi sc (d + 7) 130 [.ref 0, .int (nI q), .int r] B Q := by
  show bm_G sc (d + 7) 130 0 [(0, .ref 0), (1, .int (nI q)), (2, .int r)] [] B _
  generalize elv : ([(0, .ref 0), (1, .int (nI q)), (2, .int r)] : tm_L) = lv
  have l0 : lv.lookup 0 = some (.ref 0) := by rw [← elv]; rfl
  have l1 : lv.lookup 1 = some (.int (nI q)) := by rw [← elv]; rfl
  have l2 : lv.lookup 2 = some (.int r) := by rw [← elv]; rfl
  clear elv
  refine g_ald (pc' := 1) cd_Ho_inject rfl (Or.inr ⟨_, rfl, rfl, rfl⟩) l0 rfl rfl ?_
  refine g_ild (pc' := 2) cd_Ho_inject rfl (Or.inr ⟨_, rfl, rfl, rfl⟩) l2 rfl ?_
  refine g_calli (pc' := 5) cd_Ho_inject rfl rfl rfl rfl rfl (tm_invV rfl rfl cd_Ho_held rfl (Nat.le_of_ble_eq_true rfl) (by decide) hH.1.1.1 hH.1.1.2) (t_held hC hH (fun x5 tj => ?_))
  rw [eA] at tj
  show bm_G _ _ _ 5 _ [.int x5] B _
  refine g_ist (pc' := 6) cd_Ho_inject rfl (Or.inr ⟨_, rfl, rfl, rfl⟩) (by decide) rfl (fun lv el => ?_)
  have l0 := tm_lk el l0 rfl (by decide)
  have l1 := tm_lk el l1 rfl (by decide)
  have l2 := tm_lk el l2 rfl (by decide)
  have l3 : lv.lookup 3 = some (.int x5) := tm_lks el
  clear el
  refine g_ild (pc' := 7) cd_Ho_inject rfl (Or.inr ⟨_, rfl, rfl, rfl⟩) l1 rfl ?_
  refine g_calli (pc' := 10) cd_Ho_inject rfl rfl rfl rfl rfl (tm_invS rfl rfl cd_Ho_isDevice rfl (Nat.le_of_ble_eq_true rfl)) (t_isDev hq ?_)
  show bm_G _ _ _ 10 _ [.int 1] B _
  refine g_if1 (t := 17) (pc' := 13) cd_Ho_inject rfl rfl rfl (fun c10 => ?_) (fun c10 => ?_)
  · exact absurd (show (1 : Int32) = 0 from c10) (by decide)
  · have c10 : ¬ (1 : Int32) = 0 := c10
    refine g_ild (pc' := 14) cd_Ho_inject rfl (Or.inr ⟨_, rfl, rfl, rfl⟩) l3 rfl ?_
    refine g_if1 (t := 19) (pc' := 17) cd_Ho_inject rfl rfl rfl (fun c14 => ?_) (fun c14 => ?_)
    · have c14 : ¬ x5 = 0 := c14
      refine g_ald (pc' := 20) cd_Ho_inject rfl (Or.inr ⟨_, rfl, rfl, rfl⟩) l0 rfl rfl ?_
      refine g_ild (pc' := 21) cd_Ho_inject rfl (Or.inr ⟨_, rfl, rfl, rfl⟩) l1 rfl ?_
      refine g_ild (pc' := 22) cd_Ho_inject rfl (Or.inr ⟨_, rfl, rfl, rfl⟩) l3 rfl ?_
      refine g_calli (pc' := 25) cd_Ho_inject rfl rfl rfl rfl rfl (tm_invV rfl rfl cd_Ho_arrive rfl (Nat.le_of_ble_eq_true rfl) (by decide) hH.1.1.1 hH.1.1.2) (t_arrive hC hH hTl hq eD hst kI kJ hk0 hk1 hk hse hme tj hen (fun z => ?_) (fun B1 T1 M1 ca1 rm1 w1 D1 G1 z1 z2 z3 z4 z5 z6 z7 => ?_) (fun B1 T1 M1 ca1 rm1 w1 D1 G1 z1 z2 z3 z4 z5 z6 z7 z8 => ?_) (fun B1 T1 M1 ca1 rm1 w1 G1 z1 z2 z3 z4 z5 z6 z7 z8 => ?_) (fun B1 T1 M1 ca1 rm1 w1 G1 z1 z2 z3 z4 z5 z6 z7 z8 z9 => ?_))
      · skip
        show bm_G _ _ _ 25 _ [.int (-3)] B _
        exact g_reti cd_Ho_inject rfl ⟨_, rfl, (kD z)⟩
      · skip
        show bm_G _ _ _ 25 _ [.int ((ar_spec (id, K0, K1, on, lnu, se, me) ids q A).1)] B1 _
        exact g_reti cd_Ho_inject rfl ⟨_, rfl, (kN B1 T1 M1 ca1 rm1 w1 D1 G1 z1 z2 z3 z4 z5 z6 z7)⟩
      · skip
        show bm_G _ _ _ 25 _ [.int (-4)] B1 _
        exact g_reti cd_Ho_inject rfl ⟨_, rfl, (k0 B1 T1 M1 ca1 rm1 w1 D1 G1 z1 z2 z3 z4 z5 z6 z7 z8)⟩
      · skip
        show bm_G _ _ _ 25 _ [.int (-4)] B1 _
        exact g_reti cd_Ho_inject rfl ⟨_, rfl, (k1 B1 T1 M1 ca1 rm1 w1 G1 z1 z2 z3 z4 z5 z6 z7 z8)⟩
      · skip
        show bm_G _ _ _ 25 _ [.int ((ar_spec (id, K0, K1, on, lnu, se, me) ids q A).1)] B1 _
        exact g_reti cd_Ho_inject rfl ⟨_, rfl, (k2 B1 T1 M1 ca1 rm1 w1 G1 z1 z2 z3 z4 z5 z6 z7 z8 z9)⟩
    · have c14 : x5 = 0 := Classical.not_not.mp c14
      exact absurd ((TI_0 hC.1 tj).mp c14) hA
set_option maxRecDepth 100000 in
theorem t_inject0 {sc : tm_X} {d : Nat} {B : bm_H} {F : Nat → Prop} {N S M ln : Nat} {T : List Tm} {dr : Nat} {K : Tm → Prop} {ca rm kc kl rk : Nat} {ws : List (Tm × Int32)} {wt : List Tm} {G : LG} {ids dir reg : Nat → Tm} {seen : List Tm} {π : Nat → Nat} {w : Nat → SW} {dev : Nat → DV} {sto : Nat → ST} {p r : Int32} {Q : Int32 → bm_H → Prop} (hC : CK B F N S M ln T dr K ca rm kc kl rk) (hH : RH B T ws wt G ids dir reg seen π w dev sto) (h : inR p 6 = false ∨ hl reg r = tz) (kk : Q (-1) B) : bm_Gi sc (d + 7) 130 [.ref 0, .int p, .int r] B Q := by
  show bm_G sc (d + 7) 130 0 [(0, .ref 0), (1, .int p), (2, .int r)] [] B _
  generalize elv : ([(0, .ref 0), (1, .int p), (2, .int r)] : tm_L) = lv
  have l0 : lv.lookup 0 = some (.ref 0) := by rw [← elv]; rfl
  have l1 : lv.lookup 1 = some (.int p) := by rw [← elv]; rfl
  have l2 : lv.lookup 2 = some (.int r) := by rw [← elv]; rfl
  clear elv
  refine g_ald (pc' := 1) cd_Ho_inject rfl (Or.inr ⟨_, rfl, rfl, rfl⟩) l0 rfl rfl ?_
  refine g_ild (pc' := 2) cd_Ho_inject rfl (Or.inr ⟨_, rfl, rfl, rfl⟩) l2 rfl ?_
  refine g_calli (pc' := 5) cd_Ho_inject rfl rfl rfl rfl rfl (tm_invV rfl rfl cd_Ho_held rfl (Nat.le_of_ble_eq_true rfl) (by decide) hH.1.1.1 hH.1.1.2) (t_held hC hH (fun x5 tj => ?_))
  show bm_G _ _ _ 5 _ [.int x5] B _
  refine g_ist (pc' := 6) cd_Ho_inject rfl (Or.inr ⟨_, rfl, rfl, rfl⟩) (by decide) rfl (fun lv el => ?_)
  have l0 := tm_lk el l0 rfl (by decide)
  have l1 := tm_lk el l1 rfl (by decide)
  have l2 := tm_lk el l2 rfl (by decide)
  have l3 : lv.lookup 3 = some (.int x5) := tm_lks el
  clear el
  refine g_ild (pc' := 7) cd_Ho_inject rfl (Or.inr ⟨_, rfl, rfl, rfl⟩) l1 rfl ?_
  refine g_calli (pc' := 10) cd_Ho_inject rfl rfl rfl rfl rfl (tm_invS rfl rfl cd_Ho_isDevice rfl (Nat.le_of_ble_eq_true rfl)) (t_isDevice ?_)
  show bm_G _ _ _ 10 _ [.int (bz (inR p 6))] B _
  refine g_if1 (t := 17) (pc' := 13) cd_Ho_inject rfl rfl rfl (fun c10 => ?_) (fun c10 => ?_)
  · have c10 : (inR p 6) = false := bz_f c10
    refine g_k1 (v := (-1)) (pc' := 18) cd_Ho_inject rfl (by decide) rfl ?_
    exact g_reti cd_Ho_inject rfl ⟨_, rfl, kk⟩
  · have c10 : (inR p 6) = true := bz_t c10
    refine g_ild (pc' := 14) cd_Ho_inject rfl (Or.inr ⟨_, rfl, rfl, rfl⟩) l3 rfl ?_
    refine g_if1 (t := 19) (pc' := 17) cd_Ho_inject rfl rfl rfl (fun c14 => ?_) (fun c14 => ?_)
    · have c14 : ¬ x5 = 0 := c14
      exact h.elim (fun q => absurd (q.symm.trans c10) (by decide)) (fun q => absurd ((TI_0 hC.1 tj).mpr q) c14)
    · have c14 : x5 = 0 := Classical.not_not.mp c14
      refine g_k1 (v := (-1)) (pc' := 18) cd_Ho_inject rfl (by decide) rfl ?_
      exact g_reti cd_Ho_inject rfl ⟨_, rfl, kk⟩
