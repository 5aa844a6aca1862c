/-! A list comes -/
def tl_ok (A : Tm) (q g : Nat) (idg : Tm) (M : MM) : Prop := q ≠ g ∧ pt A 0 = idg ∧ ¬ nu (pt A 1) 1 ≤ M.1 ∧ hbit (nu (pt A 1) 2) (nI g) = true ∧ hbit (nu (pt A 1) 2) (nI q) = true ∧ nu (pt A 1) 2 &&& M.2.2.1 = 0
set_option maxRecDepth 100000 in
theorem t_takeList {sc : tm_X} {d : Nat} {B : bm_H} {F : Nat → Prop} {N S M ln : Nat} {T : List Tm} {dr : Nat} {K : Tm → Prop} {ca rm kc kl rk : Nat} {ws : List (Tm × Int32)} {wt : List Tm} {G : LG} {ids dir reg : Nat → Tm} {seen : List Tm} {π : Nat → Nat} {w : Nat → SW} {dev : Nat → DV} {sto : Nat → ST} {id : Tm} {K0 K1 : PK} {on : List (Tm × Int32)} {lnu : Int32} {se : Nat → List SS} {me : Nat → MM} {ve ma go ge : Int32} {ch si : Tm} {ix ga : Int32} {sl : Bool} {gv : Nat → List GV} {q g : Nat} {x : Int32} {A : Tm} {Q : Int32 → bm_H → Prop} (hC : CK B F N S M ln T dr K ca rm kc kl rk) (hH : RH B T ws wt G ids dir reg seen π w dev sto) (hq : q < 6) (hg : g < 4) (eg : nu (pt A 1) 0 = nI g) (eD : dev 6 = (id, K0, K1, on, lnu, se, me)) (eM : me g = (ve, ma, go, ge, ch, si, ix, ga, sl, gv)) (hx : tv T x A) (k0 : ¬ tl_ok A q g (ids g) (me g) → Q (-16) B) (k1 : ∀ B' w', tl_ok A q g (ids g) (me g) → CK B' F N S M ln T dr K ca rm kc kl rk → RH B' T ws wt G ids dir reg seen π (fset w 6 w') (fset dev 6 (id, K0, K1, on, lnu, se, fset me g (mm_adopt (me g) (nu (pt A 1) 1) (nu (pt A 1) 2)))) sto → fz (dxs 1 ca 3 4 (rb (π 6))) B B' → Q 3 B') : bm_Gi sc (d + 3) 122 [.ref 0, .int (nI q), .int x] B Q := by
  obtain ⟨hM0, hAR, hnt, r6a, r6b⟩ := mem_at hC hH hg eD
  have hW9 := hH.2.2.2.2.1.2.2.2.2 6 (by decide)
  rw [eD] at hW9
  rw [eM] at hM0
  have ti := hH.2.2.2.1.1 g (by omega)
  show bm_G sc (d + 3) 122 0 [(0, .ref 0), (1, .int (nI q)), (2, .int x)] [] B _
  generalize elv : ([(0, .ref 0), (1, .int (nI q)), (2, .int x)] : tm_L) = lv
  have l0 : lv.lookup 0 = some (.ref 0) := by rw [← elv]; rfl
  have l1 : lv.lookup 1 = some (.int (nI q)) := by rw [← elv]; rfl
  have l2 : lv.lookup 2 = some (.int x) := by rw [← elv]; rfl
  clear elv
  refine g_ald (pc' := 1) cd_Ho_takeList rfl (Or.inr ⟨_, rfl, rfl, rfl⟩) l0 rfl rfl ?_
  refine g_fR (c := 11) (k := 0) (x := 1) (pc' := 4) cd_Ho_takeList rfl rfl rfl rfl rfl (by decide) hH.1.1.1 hH.1.1.2 hH.1.2.1.1 ?_
  refine g_ild (pc' := 5) cd_Ho_takeList rfl (Or.inr ⟨_, rfl, rfl, rfl⟩) l2 rfl ?_
  refine g_k1 (v := 1) (pc' := 6) cd_Ho_takeList rfl (by decide) rfl ?_
  refine g_calli (pc' := 9) cd_Ho_takeList rfl rfl rfl rfl rfl (tm_invV rfl rfl cd_Te_partOf rfl (Nat.le_of_ble_eq_true rfl) (by decide) hC.1.1.1.1 hC.1.1.1.2) (t_partOf (i := 1) hC.1 hx (by decide) (fun r1 ht1 => ?_))
  show bm_G _ _ _ 9 _ [.int r1] B _
  refine g_ist (pc' := 10) cd_Ho_takeList rfl (Or.inr ⟨_, rfl, rfl, rfl⟩) (by decide) rfl (fun lv el => ?_)
  have l0 := tm_lk el l0 rfl (by decide)
  have l1 := tm_lk el l1 rfl (by decide)
  have l2 := tm_lk el l2 rfl (by decide)
  have l3 : lv.lookup 3 = some (.int r1) := tm_lks el
  clear el
  refine g_ald (pc' := 11) cd_Ho_takeList rfl (Or.inr ⟨_, rfl, rfl, rfl⟩) l0 rfl rfl ?_
  refine g_fR (c := 11) (k := 0) (x := 1) (pc' := 14) cd_Ho_takeList rfl rfl rfl rfl rfl (by decide) hH.1.1.1 hH.1.1.2 hH.1.2.1.1 ?_
  refine g_ild (pc' := 15) cd_Ho_takeList rfl (Or.inr ⟨_, rfl, rfl, rfl⟩) l3 rfl ?_
  refine g_k1 (v := 0) (pc' := 16) cd_Ho_takeList rfl (by decide) rfl ?_
  refine g_calli (pc' := 19) cd_Ho_takeList rfl rfl rfl rfl rfl (tm_invV rfl rfl cd_Te_numberOf rfl (Nat.le_of_ble_eq_true rfl) (by decide) hC.1.1.1.1 hC.1.1.1.2) (t_numberOf (i := 0) hC.1 ht1 (by decide) ?_)
  rw [eg]
  show bm_G _ _ _ 19 _ [.int (nI g)] B _
  refine g_ist (pc' := 21) cd_Ho_takeList rfl (Or.inl ⟨rfl, rfl⟩) (by decide) rfl (fun lv el => ?_)
  have l0 := tm_lk el l0 rfl (by decide)
  have l1 := tm_lk el l1 rfl (by decide)
  have l2 := tm_lk el l2 rfl (by decide)
  have l3 := tm_lk el l3 rfl (by decide)
  have l4 : lv.lookup 4 = some (.int (nI g)) := tm_lks el
  clear el
  refine g_ald (pc' := 22) cd_Ho_takeList rfl (Or.inr ⟨_, rfl, rfl, rfl⟩) l0 rfl rfl ?_
  refine g_fR (c := 11) (k := 0) (x := 1) (pc' := 25) cd_Ho_takeList rfl rfl rfl rfl rfl (by decide) hH.1.1.1 hH.1.1.2 hH.1.2.1.1 ?_
  refine g_ild (pc' := 26) cd_Ho_takeList rfl (Or.inr ⟨_, rfl, rfl, rfl⟩) l3 rfl ?_
  refine g_k1 (v := 1) (pc' := 27) cd_Ho_takeList rfl (by decide) rfl ?_
  refine g_calli (pc' := 30) cd_Ho_takeList rfl rfl rfl rfl rfl (tm_invV rfl rfl cd_Te_numberOf rfl (Nat.le_of_ble_eq_true rfl) (by decide) hC.1.1.1.1 hC.1.1.1.2) (t_numberOf (i := 1) hC.1 ht1 (by decide) ?_)
  show bm_G _ _ _ 30 _ [.int (nu (pt A 1) 1)] B _
  refine g_ist (pc' := 32) cd_Ho_takeList rfl (Or.inl ⟨rfl, rfl⟩) (by decide) rfl (fun lv el => ?_)
  have l0 := tm_lk el l0 rfl (by decide)
  have l1 := tm_lk el l1 rfl (by decide)
  have l2 := tm_lk el l2 rfl (by decide)
  have l3 := tm_lk el l3 rfl (by decide)
  have l4 := tm_lk el l4 rfl (by decide)
  have l5 : lv.lookup 5 = some (.int (nu (pt A 1) 1)) := tm_lks el
  clear el
  refine g_ald (pc' := 33) cd_Ho_takeList rfl (Or.inr ⟨_, rfl, rfl, rfl⟩) l0 rfl rfl ?_
  refine g_fR (c := 11) (k := 0) (x := 1) (pc' := 36) cd_Ho_takeList rfl rfl rfl rfl rfl (by decide) hH.1.1.1 hH.1.1.2 hH.1.2.1.1 ?_
  refine g_ild (pc' := 37) cd_Ho_takeList rfl (Or.inr ⟨_, rfl, rfl, rfl⟩) l3 rfl ?_
  refine g_k1 (v := 2) (pc' := 38) cd_Ho_takeList rfl (by decide) rfl ?_
  refine g_calli (pc' := 41) cd_Ho_takeList rfl rfl rfl rfl rfl (tm_invV rfl rfl cd_Te_numberOf rfl (Nat.le_of_ble_eq_true rfl) (by decide) hC.1.1.1.1 hC.1.1.1.2) (t_numberOf (i := 2) hC.1 ht1 (by decide) ?_)
  show bm_G _ _ _ 41 _ [.int (nu (pt A 1) 2)] B _
  refine g_ist (pc' := 43) cd_Ho_takeList rfl (Or.inl ⟨rfl, rfl⟩) (by decide) rfl (fun lv el => ?_)
  have l0 := tm_lk el l0 rfl (by decide)
  have l1 := tm_lk el l1 rfl (by decide)
  have l2 := tm_lk el l2 rfl (by decide)
  have l3 := tm_lk el l3 rfl (by decide)
  have l4 := tm_lk el l4 rfl (by decide)
  have l5 := tm_lk el l5 rfl (by decide)
  have l6 : lv.lookup 6 = some (.int (nu (pt A 1) 2)) := tm_lks el
  clear el
  refine g_ald (pc' := 44) cd_Ho_takeList rfl (Or.inr ⟨_, rfl, rfl, rfl⟩) l0 rfl rfl ?_
  refine g_fR (c := 11) (k := 11) (x := (rb (π 6))) (pc' := 47) cd_Ho_takeList rfl rfl rfl rfl rfl (by decide) hH.1.1.1 hH.1.1.2 hH.2.2.2.2.1.2.1 ?_
  refine g_fR (c := 0) (k := 5) (x := (rb (π 6) + 10)) (pc' := 50) cd_Ho_takeList rfl rfl rfl rfl rfl (by decide) (RDe_K (hH.2.2.2.2.1.2.2.2.2 6 (by decide))).1 (RDe_K (hH.2.2.2.2.1.2.2.2.2 6 (by decide))).2 hW9.1.2.1.2.2.2.2.2 ?_
  refine g_ild (pc' := 52) cd_Ho_takeList rfl (Or.inl ⟨rfl, rfl⟩) l4 rfl ?_
  refine g_aR (t := 6) (x := (rb (π 6) + 47 + 39 * g)) (pc' := 53) cd_Ho_takeList rfl rfl hW9.1.2.2.2.2.2.2.2.1 hW9.1.2.2.2.2.2.2.2.2.1 (by decide) rfl rfl (by rw [show bm_AL B (rb (π 6) + 10) = 4 from hW9.1.2.2.2.2.2.2.2.2.2]; exact vp_in_nI (by omega) (by decide)) (by rw [nI_clamp (by omega)]; exact hAR) ?_
  refine g_ast (pc' := 55) cd_Ho_takeList rfl (Or.inl ⟨rfl, rfl⟩) rfl (by decide) rfl (fun lv el => ?_)
  have l0 := tm_lk el l0 rfl (by decide)
  have l1 := tm_lk el l1 rfl (by decide)
  have l2 := tm_lk el l2 rfl (by decide)
  have l3 := tm_lk el l3 rfl (by decide)
  have l4 := tm_lk el l4 rfl (by decide)
  have l5 := tm_lk el l5 rfl (by decide)
  have l6 := tm_lk el l6 rfl (by decide)
  have l7 : lv.lookup 7 = some (.ref ((rb (π 6) + 47 + 39 * g))) := tm_lks el
  clear el
  refine g_ild (pc' := 56) cd_Ho_takeList rfl (Or.inr ⟨_, rfl, rfl, rfl⟩) l1 rfl ?_
  refine g_ild (pc' := 58) cd_Ho_takeList rfl (Or.inl ⟨rfl, rfl⟩) l4 rfl ?_
  refine g_if2 (t := 120) (pc' := 61) cd_Ho_takeList rfl rfl rfl (fun c58 => ?_) (fun c58 => ?_)
  · have c58 : (nI q) = (nI g) := c58
    refine g_k1 (v := 1) (pc' := 121) cd_Ho_takeList rfl (by decide) rfl ?_
    refine g_pure (pc' := 125) (st' := [.int 1]) cd_Ho_takeList rfl rfl (fun _ _ => rfl) ?_
    refine g_ist (pc' := 127) cd_Ho_takeList rfl (Or.inl ⟨rfl, rfl⟩) (by decide) rfl (fun lv el => ?_)
    have l0 := tm_lk el l0 rfl (by decide)
    have l1 := tm_lk el l1 rfl (by decide)
    have l2 := tm_lk el l2 rfl (by decide)
    have l3 := tm_lk el l3 rfl (by decide)
    have l4 := tm_lk el l4 rfl (by decide)
    have l5 := tm_lk el l5 rfl (by decide)
    have l6 := tm_lk el l6 rfl (by decide)
    have l7 := tm_lk el l7 rfl (by decide)
    have l8 : lv.lookup 8 = some (.int 1) := tm_lks el
    clear el
    refine g_ild (pc' := 129) cd_Ho_takeList rfl (Or.inl ⟨rfl, rfl⟩) l8 rfl ?_
    refine g_if1 (t := 135) (pc' := 132) cd_Ho_takeList rfl rfl rfl (fun c129 => ?_) (fun c129 => ?_)
    · exact absurd (show (1 : Int32) = 0 from c129) (by decide)
    · have c129 : ¬ (1 : Int32) = 0 := c129
      refine g_k2 (v := (-16)) (pc' := 134) cd_Ho_takeList rfl (by decide) rfl ?_
      exact g_reti cd_Ho_takeList rfl ⟨_, rfl, (k0 (fun e => e.1 ((nI_eq (by omega) (by omega)).mp c58)))⟩
  · have c58 : ¬ (nI q) = (nI g) := c58
    refine g_ald (pc' := 62) cd_Ho_takeList rfl (Or.inr ⟨_, rfl, rfl, rfl⟩) l0 rfl rfl ?_
    refine g_fR (c := 11) (k := 0) (x := 1) (pc' := 65) cd_Ho_takeList rfl rfl rfl rfl rfl (by decide) hH.1.1.1 hH.1.1.2 hH.1.2.1.1 ?_
    refine g_ild (pc' := 66) cd_Ho_takeList rfl (Or.inr ⟨_, rfl, rfl, rfl⟩) l2 rfl ?_
    refine g_k1 (v := 0) (pc' := 67) cd_Ho_takeList rfl (by decide) rfl ?_
    refine g_calli (pc' := 70) cd_Ho_takeList rfl rfl rfl rfl rfl (tm_invV rfl rfl cd_Te_partOf rfl (Nat.le_of_ble_eq_true rfl) (by decide) hC.1.1.1.1 hC.1.1.1.2) (t_partOf (i := 0) hC.1 hx (by decide) (fun r2 ht2 => ?_))
    show bm_G _ _ _ 70 _ [.int r2] B _
    refine g_ald (pc' := 71) cd_Ho_takeList rfl (Or.inr ⟨_, rfl, rfl, rfl⟩) l0 rfl rfl ?_
    refine g_fR (c := 11) (k := 6) (x := 21) (pc' := 74) cd_Ho_takeList rfl rfl rfl rfl rfl (by decide) hH.1.1.1 hH.1.1.2 hH.1.2.1.2.2.2.2.2.2.1 ?_
    refine g_ild (pc' := 76) cd_Ho_takeList rfl (Or.inl ⟨rfl, rfl⟩) l4 rfl ?_
    refine g_aI (x := (bm_AI B 21 g)) (pc' := 77) cd_Ho_takeList rfl rfl hH.1.2.2.2.2.1.1 hH.1.2.2.2.2.1.2.1 (by rw [show bm_AL B 21 = 6 from hH.1.2.2.2.2.1.2.2]; exact vp_in_nI (by omega) (by decide)) (congrArg (bm_AI B 21) (nI_clamp (by omega))) ?_
    refine g_if2 (t := 120) (pc' := 80) cd_Ho_takeList rfl rfl rfl (fun c77 => ?_) (fun c77 => ?_)
    · have c77 : ¬ r2 = (bm_AI B 21 g) := c77
      refine g_k1 (v := 1) (pc' := 121) cd_Ho_takeList rfl (by decide) rfl ?_
      refine g_pure (pc' := 125) (st' := [.int 1]) cd_Ho_takeList rfl rfl (fun _ _ => rfl) ?_
      refine g_ist (pc' := 127) cd_Ho_takeList rfl (Or.inl ⟨rfl, rfl⟩) (by decide) rfl (fun lv el => ?_)
      have l0 := tm_lk el l0 rfl (by decide)
      have l1 := tm_lk el l1 rfl (by decide)
      have l2 := tm_lk el l2 rfl (by decide)
      have l3 := tm_lk el l3 rfl (by decide)
      have l4 := tm_lk el l4 rfl (by decide)
      have l5 := tm_lk el l5 rfl (by decide)
      have l6 := tm_lk el l6 rfl (by decide)
      have l7 := tm_lk el l7 rfl (by decide)
      have l8 : lv.lookup 8 = some (.int 1) := tm_lks el
      clear el
      refine g_ild (pc' := 129) cd_Ho_takeList rfl (Or.inl ⟨rfl, rfl⟩) l8 rfl ?_
      refine g_if1 (t := 135) (pc' := 132) cd_Ho_takeList rfl rfl rfl (fun c129 => ?_) (fun c129 => ?_)
      · exact absurd (show (1 : Int32) = 0 from c129) (by decide)
      · have c129 : ¬ (1 : Int32) = 0 := c129
        refine g_k2 (v := (-16)) (pc' := 134) cd_Ho_takeList rfl (by decide) rfl ?_
        exact g_reti cd_Ho_takeList rfl ⟨_, rfl, (k0 (fun e => c77 ((TI_eq hC.1 ht2 ti).mpr e.2.1)))⟩
    · have c77 : r2 = (bm_AI B 21 g) := Classical.not_not.mp c77
      refine g_ild (pc' := 82) cd_Ho_takeList rfl (Or.inl ⟨rfl, rfl⟩) l5 rfl ?_
      refine g_ald (pc' := 84) cd_Ho_takeList rfl (Or.inl ⟨rfl, rfl⟩) l7 rfl rfl ?_
      refine g_fI (c := 5) (k := 2) (x := ve) (pc' := 87) cd_Ho_takeList rfl rfl rfl rfl rfl (by decide) hM0.1.1.1 hM0.1.1.2 hM0.2.1.1.1 ?_
      refine g_if2 (t := 120) (pc' := 90) cd_Ho_takeList rfl rfl rfl (fun c87 => ?_) (fun c87 => ?_)
      · have c87 : (nu (pt A 1) 1) ≤ ve := c87
        refine g_k1 (v := 1) (pc' := 121) cd_Ho_takeList rfl (by decide) rfl ?_
        refine g_pure (pc' := 125) (st' := [.int 1]) cd_Ho_takeList rfl rfl (fun _ _ => rfl) ?_
        refine g_ist (pc' := 127) cd_Ho_takeList rfl (Or.inl ⟨rfl, rfl⟩) (by decide) rfl (fun lv el => ?_)
        have l0 := tm_lk el l0 rfl (by decide)
        have l1 := tm_lk el l1 rfl (by decide)
        have l2 := tm_lk el l2 rfl (by decide)
        have l3 := tm_lk el l3 rfl (by decide)
        have l4 := tm_lk el l4 rfl (by decide)
        have l5 := tm_lk el l5 rfl (by decide)
        have l6 := tm_lk el l6 rfl (by decide)
        have l7 := tm_lk el l7 rfl (by decide)
        have l8 : lv.lookup 8 = some (.int 1) := tm_lks el
        clear el
        refine g_ild (pc' := 129) cd_Ho_takeList rfl (Or.inl ⟨rfl, rfl⟩) l8 rfl ?_
        refine g_if1 (t := 135) (pc' := 132) cd_Ho_takeList rfl rfl rfl (fun c129 => ?_) (fun c129 => ?_)
        · exact absurd (show (1 : Int32) = 0 from c129) (by decide)
        · have c129 : ¬ (1 : Int32) = 0 := c129
          refine g_k2 (v := (-16)) (pc' := 134) cd_Ho_takeList rfl (by decide) rfl ?_
          exact g_reti cd_Ho_takeList rfl ⟨_, rfl, (k0 (fun e => e.2.2.1 (by rw [eM]; exact c87)))⟩
      · have c87 : ¬ (nu (pt A 1) 1) ≤ ve := c87
        refine g_ild (pc' := 92) cd_Ho_takeList rfl (Or.inl ⟨rfl, rfl⟩) l6 rfl ?_
        refine g_ild (pc' := 94) cd_Ho_takeList rfl (Or.inl ⟨rfl, rfl⟩) l4 rfl ?_
        refine g_calli (pc' := 97) cd_Ho_takeList rfl rfl rfl rfl rfl (tm_invS rfl rfl cd_Ho_hasBit rfl (Nat.le_of_ble_eq_true rfl)) (t_hasBit ?_)
        show bm_G _ _ _ 97 _ [.int (bz (hbit (nu (pt A 1) 2) (nI g)))] B _
        refine g_if1 (t := 120) (pc' := 100) cd_Ho_takeList rfl rfl rfl (fun c97 => ?_) (fun c97 => ?_)
        · have c97 : (hbit (nu (pt A 1) 2) (nI g)) = false := bz_f c97
          refine g_k1 (v := 1) (pc' := 121) cd_Ho_takeList rfl (by decide) rfl ?_
          refine g_pure (pc' := 125) (st' := [.int 1]) cd_Ho_takeList rfl rfl (fun _ _ => rfl) ?_
          refine g_ist (pc' := 127) cd_Ho_takeList rfl (Or.inl ⟨rfl, rfl⟩) (by decide) rfl (fun lv el => ?_)
          have l0 := tm_lk el l0 rfl (by decide)
          have l1 := tm_lk el l1 rfl (by decide)
          have l2 := tm_lk el l2 rfl (by decide)
          have l3 := tm_lk el l3 rfl (by decide)
          have l4 := tm_lk el l4 rfl (by decide)
          have l5 := tm_lk el l5 rfl (by decide)
          have l6 := tm_lk el l6 rfl (by decide)
          have l7 := tm_lk el l7 rfl (by decide)
          have l8 : lv.lookup 8 = some (.int 1) := tm_lks el
          clear el
          refine g_ild (pc' := 129) cd_Ho_takeList rfl (Or.inl ⟨rfl, rfl⟩) l8 rfl ?_
          refine g_if1 (t := 135) (pc' := 132) cd_Ho_takeList rfl rfl rfl (fun c129 => ?_) (fun c129 => ?_)
          · exact absurd (show (1 : Int32) = 0 from c129) (by decide)
          · have c129 : ¬ (1 : Int32) = 0 := c129
            refine g_k2 (v := (-16)) (pc' := 134) cd_Ho_takeList rfl (by decide) rfl ?_
            exact g_reti cd_Ho_takeList rfl ⟨_, rfl, (k0 (fun e => absurd (c97.symm.trans e.2.2.2.1) (by decide)))⟩
        · have c97 : (hbit (nu (pt A 1) 2) (nI g)) = true := bz_t c97
          refine g_ild (pc' := 102) cd_Ho_takeList rfl (Or.inl ⟨rfl, rfl⟩) l6 rfl ?_
          refine g_ild (pc' := 103) cd_Ho_takeList rfl (Or.inr ⟨_, rfl, rfl, rfl⟩) l1 rfl ?_
          refine g_calli (pc' := 106) cd_Ho_takeList rfl rfl rfl rfl rfl (tm_invS rfl rfl cd_Ho_hasBit rfl (Nat.le_of_ble_eq_true rfl)) (t_hasBit ?_)
          show bm_G _ _ _ 106 _ [.int (bz (hbit (nu (pt A 1) 2) (nI q)))] B _
          refine g_if1 (t := 120) (pc' := 109) cd_Ho_takeList rfl rfl rfl (fun c106 => ?_) (fun c106 => ?_)
          · have c106 : (hbit (nu (pt A 1) 2) (nI q)) = false := bz_f c106
            refine g_k1 (v := 1) (pc' := 121) cd_Ho_takeList rfl (by decide) rfl ?_
            refine g_pure (pc' := 125) (st' := [.int 1]) cd_Ho_takeList rfl rfl (fun _ _ => rfl) ?_
            refine g_ist (pc' := 127) cd_Ho_takeList rfl (Or.inl ⟨rfl, rfl⟩) (by decide) rfl (fun lv el => ?_)
            have l0 := tm_lk el l0 rfl (by decide)
            have l1 := tm_lk el l1 rfl (by decide)
            have l2 := tm_lk el l2 rfl (by decide)
            have l3 := tm_lk el l3 rfl (by decide)
            have l4 := tm_lk el l4 rfl (by decide)
            have l5 := tm_lk el l5 rfl (by decide)
            have l6 := tm_lk el l6 rfl (by decide)
            have l7 := tm_lk el l7 rfl (by decide)
            have l8 : lv.lookup 8 = some (.int 1) := tm_lks el
            clear el
            refine g_ild (pc' := 129) cd_Ho_takeList rfl (Or.inl ⟨rfl, rfl⟩) l8 rfl ?_
            refine g_if1 (t := 135) (pc' := 132) cd_Ho_takeList rfl rfl rfl (fun c129 => ?_) (fun c129 => ?_)
            · exact absurd (show (1 : Int32) = 0 from c129) (by decide)
            · have c129 : ¬ (1 : Int32) = 0 := c129
              refine g_k2 (v := (-16)) (pc' := 134) cd_Ho_takeList rfl (by decide) rfl ?_
              exact g_reti cd_Ho_takeList rfl ⟨_, rfl, (k0 (fun e => absurd (c106.symm.trans e.2.2.2.2.1) (by decide)))⟩
          · have c106 : (hbit (nu (pt A 1) 2) (nI q)) = true := bz_t c106
            refine g_ild (pc' := 111) cd_Ho_takeList rfl (Or.inl ⟨rfl, rfl⟩) l6 rfl ?_
            refine g_ald (pc' := 113) cd_Ho_takeList rfl (Or.inl ⟨rfl, rfl⟩) l7 rfl rfl ?_
            refine g_fI (c := 5) (k := 4) (x := go) (pc' := 116) cd_Ho_takeList rfl rfl rfl rfl rfl (by decide) hM0.1.1.1 hM0.1.1.2 hM0.2.1.1.2.2.1 ?_
            refine g_pure (pc' := 117) (st' := [.int ((nu (pt A 1) 2) &&& go)]) cd_Ho_takeList rfl rfl (fun _ _ => rfl) ?_
            refine g_if1 (t := 124) (pc' := 120) cd_Ho_takeList rfl rfl rfl (fun c117 => ?_) (fun c117 => ?_)
            · have c117 : ((nu (pt A 1) 2) &&& go) = 0 := c117
              refine g_k1 (v := 0) (pc' := 125) cd_Ho_takeList rfl (by decide) rfl ?_
              refine g_ist (pc' := 127) cd_Ho_takeList rfl (Or.inl ⟨rfl, rfl⟩) (by decide) rfl (fun lv el => ?_)
              have l0 := tm_lk el l0 rfl (by decide)
              have l1 := tm_lk el l1 rfl (by decide)
              have l2 := tm_lk el l2 rfl (by decide)
              have l3 := tm_lk el l3 rfl (by decide)
              have l4 := tm_lk el l4 rfl (by decide)
              have l5 := tm_lk el l5 rfl (by decide)
              have l6 := tm_lk el l6 rfl (by decide)
              have l7 := tm_lk el l7 rfl (by decide)
              have l8 : lv.lookup 8 = some (.int 0) := tm_lks el
              clear el
              refine g_ild (pc' := 129) cd_Ho_takeList rfl (Or.inl ⟨rfl, rfl⟩) l8 rfl ?_
              refine g_if1 (t := 135) (pc' := 132) cd_Ho_takeList rfl rfl rfl (fun c129 => ?_) (fun c129 => ?_)
              · have c129 : (0 : Int32) = 0 := c129
                refine g_ald (pc' := 137) cd_Ho_takeList rfl (Or.inl ⟨rfl, rfl⟩) l7 rfl rfl ?_
                refine g_ild (pc' := 139) cd_Ho_takeList rfl (Or.inl ⟨rfl, rfl⟩) l5 rfl ?_
                refine g_ild (pc' := 141) cd_Ho_takeList rfl (Or.inl ⟨rfl, rfl⟩) l6 rfl ?_
                refine g_callv (pc' := 144) cd_Ho_takeList rfl rfl rfl rfl rfl (tm_invV rfl rfl cd_Me_adopt rfl (Nat.le_of_ble_eq_true rfl) (by decide) hM0.1.1.1 hM0.1.1.2) (t_adopt hM0 (fun B1 hM1 hz1 => ?_))
                show bm_G _ _ _ 144 _ [] B1 _
                refine g_k1 (v := 3) (pc' := 145) cd_Ho_takeList rfl (by decide) rfl ?_
                rw [← eM] at hM1
                have hh := RH_mem hC hH hg eD (TI_fr hC.1 hz1.1 (by omega) (by have := hC.2.2.2.2.2.1; omega) (by omega)) hz1 (fun y q => Or.inr (by omega)) (List.prefix_refl T) hM1
                exact g_reti cd_Ho_takeList rfl ⟨_, rfl, (k1 B1 _ ⟨fun e => c58 (by rw [e]), (TI_eq hC.1 ht2 ti).mp c77, by rw [eM]; exact c87, c97, c106, by rw [eM]; exact c117⟩ hh.1 hh.2.1 hh.2.2)⟩
              · exact absurd (show ¬ (0 : Int32) = 0 from c129) (by decide)
            · have c117 : ¬ ((nu (pt A 1) 2) &&& go) = 0 := c117
              refine g_k1 (v := 1) (pc' := 121) cd_Ho_takeList rfl (by decide) rfl ?_
              refine g_pure (pc' := 125) (st' := [.int 1]) cd_Ho_takeList rfl rfl (fun _ _ => rfl) ?_
              refine g_ist (pc' := 127) cd_Ho_takeList rfl (Or.inl ⟨rfl, rfl⟩) (by decide) rfl (fun lv el => ?_)
              have l0 := tm_lk el l0 rfl (by decide)
              have l1 := tm_lk el l1 rfl (by decide)
              have l2 := tm_lk el l2 rfl (by decide)
              have l3 := tm_lk el l3 rfl (by decide)
              have l4 := tm_lk el l4 rfl (by decide)
              have l5 := tm_lk el l5 rfl (by decide)
              have l6 := tm_lk el l6 rfl (by decide)
              have l7 := tm_lk el l7 rfl (by decide)
              have l8 : lv.lookup 8 = some (.int 1) := tm_lks el
              clear el
              refine g_ild (pc' := 129) cd_Ho_takeList rfl (Or.inl ⟨rfl, rfl⟩) l8 rfl ?_
              refine g_if1 (t := 135) (pc' := 132) cd_Ho_takeList rfl rfl rfl (fun c129 => ?_) (fun c129 => ?_)
              · exact absurd (show (1 : Int32) = 0 from c129) (by decide)
              · have c129 : ¬ (1 : Int32) = 0 := c129
                refine g_k2 (v := (-16)) (pc' := 134) cd_Ho_takeList rfl (by decide) rfl ?_
                exact g_reti cd_Ho_takeList rfl ⟨_, rfl, (k0 (fun e => c117 (by have := e.2.2.2.2.2; rw [eM] at this; exact this)))⟩
