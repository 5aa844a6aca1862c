/-! What is told; looks, cuts -/
theorem RSt_cut {B : bm_H} {T : List Tm} {sa j : Nat} {p : Bool} {P O : EN2} {c : Option Nat} {dn : Bool} (h : RSt B T sa (p, P, O, c, dn)) (hj : j ≤ 200) : RSt (bm_putI B 8 5 sa (nI j)) T sa (p, P, O, some j, dn) := by
  obtain ⟨h1, ⟨h4, h5, h6, h7⟩, h2, h3⟩ := h
  exact ⟨h1, ⟨h4, if_pos ⟨rfl, rfl, rfl⟩, h6, fun k e => by cases e; exact hj⟩, h2, h3⟩
theorem t_isDev {sc : tm_X} {d : Nat} {B : bm_H} {p : Nat} {Q : Int32 → bm_H → Prop} (hp : p < 6) (kk : Q 1 B) : bm_Gi sc d 31 [.int (nI p)] B Q := t_isDevice (by rw [show inR (nI p) 6 = true from inR_nI hp (by decide)]; exact kk)
theorem t_notDev {sc : tm_X} {d : Nat} {B : bm_H} {p : Int32} {Q : Int32 → bm_H → Prop} (hp : inR p 6 = false) (kk : Q 0 B) : bm_Gi sc d 31 [.int p] B Q := t_isDevice (by rw [hp]; exact kk)
noncomputable def sm_spec (reg : Nat → Tm) (x y : Int32) : Int32 := cif (hl reg x = tz ∨ hl reg y = tz) (-1) (cif (hl reg x = hl reg y) 1 0)
def ab_spec (reg : Nat → Tm) (x a : Int32) : Int32 := if tnil (hl reg x) = true ∨ inR a 6 = false then -1 else if a = 0 then kd (hl reg x) else if a = 1 then (if kd (hl reg x) = 4 ∨ kd (hl reg x) = 7 then mk (hl reg x) else 0) else if kd (hl reg x) = 7 then nu (hl reg x) (a.toNatClampNeg - 2) else 0
def lt_spec (ws : List (Tm × Int32)) (w : Int32) : Int32 := if inR w (nI ws.length) = true then (ws.getD w.toNatClampNeg (tz, 0)).2 else -1
def dv_spec (D : DV) (S : ST) (a : Int32) : Int32 := match D, S with
  | (_, K0, K1, on, _, _, _), (p, P, O, c, dn) => if a = 0 then K0.2.1 else if a = 1 then K1.2.1 else if a = 2 then nI on.length else if a = 3 then nI K0.2.2.length else if a = 4 then nI P.length else if a = 5 then nI (st_terms (p, P, O, c, dn)).length else if a = 6 then bz p else if a = 7 then bz dn else -1
set_option maxRecDepth 100000 in
theorem t_crash {sc : tm_X} {d : Nat} {B : bm_H} {F : Nat → Prop} {N S M ln : Nat} {T : List Tm} {dr : Nat} {K : Tm → Prop} {ca rm kc kl rk : Nat} {ws : List (Tm × Int32)} {wt : List Tm} {G : LG} {ids dir reg : Nat → Tm} {seen : List Tm} {π : Nat → Nat} {w : Nat → SW} {dev : Nat → DV} {sto : Nat → ST} {p j : Nat} {p0 : Bool} {P O : EN2} {c : Option Nat} {dn : Bool} {Q : Int32 → bm_H → Prop} (hC : CK B F N S M ln T dr K ca rm kc kl rk) (hH : RH B T ws wt G ids dir reg seen π w dev sto) (hp : p < 6) (hj : j ≤ 200) (hst : sto p = (p0, P, O, c, dn)) (k3 : dn = true → Q (-3) B) (k1 : ∀ B', dn = false → CK B' F N S M ln T dr K ca rm kc kl rk → RH B' T ws wt G ids dir reg seen π w dev (fset sto p (p0, P, O, some j, dn)) → fr (fun y => ¬ F y) B B' → Q 1 B') : bm_Gi sc (d + 2) 133 [.ref 0, .int (nI p), .int (nI j)] B Q := by
  have hst0 := hH.2.2.2.2.2.2 p hp
  have hdn : (sto p).2.2.2.2 = dn := by rw [hst]
  show bm_G sc (d + 2) 133 0 [(0, .ref 0), (1, .int (nI p)), (2, .int (nI j))] [] B _
  generalize elv : ([(0, .ref 0), (1, .int (nI p)), (2, .int (nI j))] : tm_L) = lv
  have l0 : lv.lookup 0 = some (.ref 0) := by rw [← elv]; rfl
  have l1 : lv.lookup 1 = some (.int (nI p)) := by rw [← elv]; rfl
  have l2 : lv.lookup 2 = some (.int (nI j)) := by rw [← elv]; rfl
  clear elv
  refine g_ild (pc' := 1) cd_Ho_crash rfl (Or.inr ⟨_, rfl, rfl, rfl⟩) l1 rfl ?_
  refine g_calli (pc' := 4) cd_Ho_crash rfl rfl rfl rfl rfl (tm_invS rfl rfl cd_Ho_isDevice rfl (Nat.le_of_ble_eq_true rfl)) (t_isDev hp ?_)
  show bm_G _ _ _ 4 _ [.int 1] B _
  refine g_if1 (t := 18) (pc' := 7) cd_Ho_crash rfl rfl rfl (fun c4 => ?_) (fun c4 => ?_)
  · exact absurd (show (1 : Int32) = 0 from c4) (by decide)
  · have c4 : ¬ (1 : Int32) = 0 := c4
    refine g_ild (pc' := 8) cd_Ho_crash rfl (Or.inr ⟨_, rfl, rfl, rfl⟩) l2 rfl ?_
    refine g_if1 (t := 18) (pc' := 11) cd_Ho_crash rfl rfl rfl (fun c8 => ?_) (fun c8 => ?_)
    · have c8 : (nI j) < 0 := c8
      exact absurd c8 (nI_pos (by omega))
    · have c8 : ¬ (nI j) < 0 := c8
      refine g_ild (pc' := 12) cd_Ho_crash rfl (Or.inr ⟨_, rfl, rfl, rfl⟩) l2 rfl ?_
      refine g_k3 (v := 201) (pc' := 15) cd_Ho_crash rfl (by decide) rfl ?_
      refine g_if2 (t := 20) (pc' := 18) cd_Ho_crash rfl rfl rfl (fun c15 => ?_) (fun c15 => ?_)
      · have c15 : (nI j) < 201 := c15
        refine g_ald (pc' := 21) cd_Ho_crash rfl (Or.inr ⟨_, rfl, rfl, rfl⟩) l0 rfl rfl ?_
        refine g_fR (c := 11) (k := 5) (x := 20) (pc' := 24) cd_Ho_crash rfl rfl rfl rfl rfl (by decide) hH.1.1.1 hH.1.1.2 hH.1.2.1.2.2.2.2.2.1 ?_
        refine g_ild (pc' := 25) cd_Ho_crash rfl (Or.inr ⟨_, rfl, rfl, rfl⟩) l1 rfl ?_
        refine g_aR (t := 3) (x := (431 + 209 * p)) (pc' := 26) cd_Ho_crash rfl rfl hH.1.2.2.2.1.1 hH.1.2.2.2.1.2.1 (by decide) rfl rfl (by rw [show bm_AL B 20 = 6 from hH.1.2.2.2.1.2.2]; exact vp_in_nI hp (by decide)) (by rw [nI_clamp (by omega)]; exact hH.2.2.2.2.2.1 p hp) ?_
        refine g_fI (c := 8) (k := 6) (x := bz (sto p).2.2.2.2) (pc' := 29) cd_Ho_crash rfl rfl rfl rfl rfl (by decide) (RSt_K hst0).1 (RSt_K hst0).2 (RSt_dn hst0) ?_
        refine g_if1 (t := 35) (pc' := 32) cd_Ho_crash rfl rfl rfl (fun c29 => ?_) (fun c29 => ?_)
        · have c29 : (sto p).2.2.2.2 = false := bz_f c29
          refine g_ald (pc' := 36) cd_Ho_crash rfl (Or.inr ⟨_, rfl, rfl, rfl⟩) l0 rfl rfl ?_
          refine g_fR (c := 11) (k := 5) (x := 20) (pc' := 39) cd_Ho_crash rfl rfl rfl rfl rfl (by decide) hH.1.1.1 hH.1.1.2 hH.1.2.1.2.2.2.2.2.1 ?_
          refine g_ild (pc' := 40) cd_Ho_crash rfl (Or.inr ⟨_, rfl, rfl, rfl⟩) l1 rfl ?_
          refine g_aR (t := 3) (x := (431 + 209 * p)) (pc' := 41) cd_Ho_crash rfl rfl hH.1.2.2.2.1.1 hH.1.2.2.2.1.2.1 (by decide) rfl rfl (by rw [show bm_AL B 20 = 6 from hH.1.2.2.2.1.2.2]; exact vp_in_nI hp (by decide)) (by rw [nI_clamp (by omega)]; exact hH.2.2.2.2.2.1 p hp) ?_
          refine g_ild (pc' := 42) cd_Ho_crash rfl (Or.inr ⟨_, rfl, rfl, rfl⟩) l2 rfl ?_
          refine g_putI (c := 8) (k := 5) (pc' := 45) cd_Ho_crash rfl rfl rfl rfl (by simp [tm_okV, narrow, fits]) (Or.inl rfl) rfl (by decide) (RSt_K hst0).1 (RSt_K hst0).2 ?_
          have P1 : bm_FI (bm_putI B 8 5 (431 + 209 * p) (nI j)) 8 5 (431 + 209 * p) = nI j := if_pos ⟨rfl, rfl, rfl⟩
          have hR1 : RSt (bm_putI B 8 5 (431 + 209 * p) (nI j)) T (431 + 209 * p) (p0, P, O, some j, dn) := RSt_cut (by rw [← hst]; exact hst0) hj
          have hf1 := fr_putI B 8 5 (431 + 209 * p) (nI j)
          have hH1 := RH_st (k := p) hH hf1 (fun y q => by omega) (List.prefix_refl T) hp hR1
          have hC1 := CK_cls hC (X := fun y => y = (431 + 209 * p)) ⟨hf1, rfl, rfl⟩ (fun y q => by omega)
          refine g_k1 (v := 1) (pc' := 46) cd_Ho_crash rfl (by decide) rfl ?_
          exact g_reti cd_Ho_crash rfl ⟨_, rfl, (k1 _ (hdn.symm.trans c29) hC1 hH1 (fr_mono (fun y q => nF_lo hC (by omega)) hf1))⟩
        · have c29 : (sto p).2.2.2.2 = true := bz_t c29
          refine g_k2 (v := (-3)) (pc' := 34) cd_Ho_crash rfl (by decide) rfl ?_
          exact g_reti cd_Ho_crash rfl ⟨_, rfl, (k3 (hdn.symm.trans c29))⟩
      · have c15 : ¬ (nI j) < 201 := c15
        exact absurd ((nI_ltI (a := j) (b := 201) (by omega) (by decide)).mpr (by omega)) c15
set_option maxRecDepth 100000 in
theorem t_crash0 {sc : tm_X} {d : Nat} {B : bm_H} {F : Nat → Prop} {N S M ln : Nat} {T : List Tm} {dr : Nat} {K : Tm → Prop} {ca rm kc kl rk : Nat} {ws : List (Tm × Int32)} {wt : List Tm} {G : LG} {ids dir reg : Nat → Tm} {seen : List Tm} {π : Nat → Nat} {w : Nat → SW} {dev : Nat → DV} {sto : Nat → ST} {p k : Int32} {Q : Int32 → bm_H → Prop} (hC : CK B F N S M ln T dr K ca rm kc kl rk) (hH : RH B T ws wt G ids dir reg seen π w dev sto) (h : inR p 6 = false ∨ inR k 201 = false) (kk : Q (-1) B) : bm_Gi sc (d + 2) 133 [.ref 0, .int p, .int k] B Q := by
  show bm_G sc (d + 2) 133 0 [(0, .ref 0), (1, .int p), (2, .int k)] [] B _
  generalize elv : ([(0, .ref 0), (1, .int p), (2, .int k)] : tm_L) = lv
  have l0 : lv.lookup 0 = some (.ref 0) := by rw [← elv]; rfl
  have l1 : lv.lookup 1 = some (.int p) := by rw [← elv]; rfl
  have l2 : lv.lookup 2 = some (.int k) := by rw [← elv]; rfl
  clear elv
  refine g_ild (pc' := 1) cd_Ho_crash rfl (Or.inr ⟨_, rfl, rfl, rfl⟩) l1 rfl ?_
  refine g_calli (pc' := 4) cd_Ho_crash rfl rfl rfl rfl rfl (tm_invS rfl rfl cd_Ho_isDevice rfl (Nat.le_of_ble_eq_true rfl)) (t_isDevice ?_)
  show bm_G _ _ _ 4 _ [.int (bz (inR p 6))] B _
  refine g_if1 (t := 18) (pc' := 7) cd_Ho_crash rfl rfl rfl (fun c4 => ?_) (fun c4 => ?_)
  · have c4 : (inR p 6) = false := bz_f c4
    refine g_k1 (v := (-1)) (pc' := 19) cd_Ho_crash rfl (by decide) rfl ?_
    exact g_reti cd_Ho_crash rfl ⟨_, rfl, kk⟩
  · have c4 : (inR p 6) = true := bz_t c4
    refine g_ild (pc' := 8) cd_Ho_crash rfl (Or.inr ⟨_, rfl, rfl, rfl⟩) l2 rfl ?_
    refine g_if1 (t := 18) (pc' := 11) cd_Ho_crash rfl rfl rfl (fun c8 => ?_) (fun c8 => ?_)
    · have c8 : k < 0 := c8
      refine g_k1 (v := (-1)) (pc' := 19) cd_Ho_crash rfl (by decide) rfl ?_
      exact g_reti cd_Ho_crash rfl ⟨_, rfl, kk⟩
    · have c8 : ¬ k < 0 := c8
      refine g_ild (pc' := 12) cd_Ho_crash rfl (Or.inr ⟨_, rfl, rfl, rfl⟩) l2 rfl ?_
      refine g_k3 (v := 201) (pc' := 15) cd_Ho_crash rfl (by decide) rfl ?_
      refine g_if2 (t := 20) (pc' := 18) cd_Ho_crash rfl rfl rfl (fun c15 => ?_) (fun c15 => ?_)
      · have c15 : k < 201 := c15
        exact h.elim (fun q => absurd (q.symm.trans c4) (by decide)) (fun q => absurd (q.symm.trans (inR_t c8 (Int32.not_le.mpr c15))) (by decide))
      · have c15 : ¬ k < 201 := c15
        refine g_k1 (v := (-1)) (pc' := 19) cd_Ho_crash rfl (by decide) rfl ?_
        exact g_reti cd_Ho_crash rfl ⟨_, rfl, kk⟩
set_option maxRecDepth 100000 in
theorem t_up {sc : tm_X} {d : Nat} {B : bm_H} {F : Nat → Prop} {N S M ln : Nat} {T : List Tm} {dr : Nat} {K : Tm → Prop} {ca rm kc kl rk : Nat} {ws : List (Tm × Int32)} {wt : List Tm} {G : LG} {ids dir reg : Nat → Tm} {seen : List Tm} {π : Nat → Nat} {w : Nat → SW} {dev : Nat → DV} {sto : Nat → ST} {p : Nat} {p0 : Bool} {P O : EN2} {c : Option Nat} {dn : Bool} {Q : Int32 → bm_H → Prop} (hC : CK B F N S M ln T dr K ca rm kc kl rk) (hH : RH B T ws wt G ids dir reg seen π w dev sto) (hp : p < 6) (hst : sto p = (p0, P, O, c, dn)) (kk : ∀ B', CK B' F N S M ln T dr K ca rm kc kl rk → RH B' T ws wt G ids dir reg seen π w dev (fset sto p (p0, P, [], c, false)) → fr (fun y => ¬ F y) B B' → Q (bz dn) B') : bm_Gi sc (d + 2) 134 [.ref 0, .int (nI p)] B Q := by
  have hst0 := hH.2.2.2.2.2.2 p hp
  show bm_G sc (d + 2) 134 0 [(0, .ref 0), (1, .int (nI p))] [] B _
  generalize elv : ([(0, .ref 0), (1, .int (nI p))] : tm_L) = lv
  have l0 : lv.lookup 0 = some (.ref 0) := by rw [← elv]; rfl
  have l1 : lv.lookup 1 = some (.int (nI p)) := by rw [← elv]; rfl
  clear elv
  refine g_ild (pc' := 1) cd_Ho_up rfl (Or.inr ⟨_, rfl, rfl, rfl⟩) l1 rfl ?_
  refine g_calli (pc' := 4) cd_Ho_up rfl rfl rfl rfl rfl (tm_invS rfl rfl cd_Ho_isDevice rfl (Nat.le_of_ble_eq_true rfl)) (t_isDev hp ?_)
  show bm_G _ _ _ 4 _ [.int 1] B _
  refine g_if1 (t := 9) (pc' := 7) cd_Ho_up rfl rfl rfl (fun c4 => ?_) (fun c4 => ?_)
  · have c4 : ¬ (1 : Int32) = 0 := c4
    refine g_ald (pc' := 10) cd_Ho_up rfl (Or.inr ⟨_, rfl, rfl, rfl⟩) l0 rfl rfl ?_
    refine g_fR (c := 11) (k := 5) (x := 20) (pc' := 13) cd_Ho_up rfl rfl rfl rfl rfl (by decide) hH.1.1.1 hH.1.1.2 hH.1.2.1.2.2.2.2.2.1 ?_
    refine g_ild (pc' := 14) cd_Ho_up rfl (Or.inr ⟨_, rfl, rfl, rfl⟩) l1 rfl ?_
    refine g_aR (t := 3) (x := (431 + 209 * p)) (pc' := 15) cd_Ho_up rfl rfl hH.1.2.2.2.1.1 hH.1.2.2.2.1.2.1 (by decide) rfl rfl (by rw [show bm_AL B 20 = 6 from hH.1.2.2.2.1.2.2]; exact vp_in_nI hp (by decide)) (by rw [nI_clamp (by omega)]; exact hH.2.2.2.2.2.1 p hp) ?_
    refine g_calli (pc' := 18) cd_Ho_up rfl rfl rfl rfl rfl (tm_invV rfl rfl cd_St_comeUp rfl (Nat.le_of_ble_eq_true rfl) (by decide) (RSt_K hst0).1 (RSt_K hst0).2) (t_comeUp (by rw [← hst]; exact hst0) (fun B1 hR1 hz1 => ?_))
    have hH1 := RH_st (k := p) hH hz1.1 (fun y q => by unfold stx; omega) (List.prefix_refl T) hp hR1
    have hC1 := CK_cls hC hz1 (fun y q => by unfold stx at q; omega)
    show bm_G _ _ _ 18 _ [.int (bz dn)] B1 _
    refine g_if1 (t := 25) (pc' := 21) cd_Ho_up rfl rfl rfl (fun c18 => ?_) (fun c18 => ?_)
    · have c18 : dn = false := bz_f c18
      refine g_k1 (v := 0) (pc' := 26) cd_Ho_up rfl (by decide) rfl ?_
      exact g_reti cd_Ho_up rfl ⟨_, rfl, (bm_eq (kk B1 hC1 hH1 (fr_mono (fun y q => nF_lo hC (by unfold stx at q; omega)) hz1.1)) (by rw [c18]; rfl))⟩
    · have c18 : dn = true := bz_t c18
      refine g_k1 (v := 1) (pc' := 22) cd_Ho_up rfl (by decide) rfl ?_
      refine g_pure (pc' := 26) (st' := [.int 1]) cd_Ho_up rfl rfl (fun _ _ => rfl) ?_
      exact g_reti cd_Ho_up rfl ⟨_, rfl, (bm_eq (kk B1 hC1 hH1 (fr_mono (fun y q => nF_lo hC (by unfold stx at q; omega)) hz1.1)) (by rw [c18]; rfl))⟩
  · exact absurd (show ¬ (¬ (1 : Int32) = 0) from c4) (by decide)
set_option maxRecDepth 100000 in
theorem t_up0 {sc : tm_X} {d : Nat} {B : bm_H} {F : Nat → Prop} {N S M ln : Nat} {T : List Tm} {dr : Nat} {K : Tm → Prop} {ca rm kc kl rk : Nat} {ws : List (Tm × Int32)} {wt : List Tm} {G : LG} {ids dir reg : Nat → Tm} {seen : List Tm} {π : Nat → Nat} {w : Nat → SW} {dev : Nat → DV} {sto : Nat → ST} {p : Int32} {Q : Int32 → bm_H → Prop} (hC : CK B F N S M ln T dr K ca rm kc kl rk) (hH : RH B T ws wt G ids dir reg seen π w dev sto) (h : inR p 6 = false) (kk : Q (-1) B) : bm_Gi sc (d + 2) 134 [.ref 0, .int p] B Q := by
  show bm_G sc (d + 2) 134 0 [(0, .ref 0), (1, .int p)] [] B _
  generalize elv : ([(0, .ref 0), (1, .int p)] : tm_L) = lv
  have l0 : lv.lookup 0 = some (.ref 0) := by rw [← elv]; rfl
  have l1 : lv.lookup 1 = some (.int p) := by rw [← elv]; rfl
  clear elv
  refine g_ild (pc' := 1) cd_Ho_up rfl (Or.inr ⟨_, rfl, rfl, rfl⟩) l1 rfl ?_
  refine g_calli (pc' := 4) cd_Ho_up rfl rfl rfl rfl rfl (tm_invS rfl rfl cd_Ho_isDevice rfl (Nat.le_of_ble_eq_true rfl)) (t_notDev h ?_)
  show bm_G _ _ _ 4 _ [.int 0] B _
  refine g_if1 (t := 9) (pc' := 7) cd_Ho_up rfl rfl rfl (fun c4 => ?_) (fun c4 => ?_)
  · exact absurd (show ¬ (0 : Int32) = 0 from c4) (by decide)
  · have c4 : (0 : Int32) = 0 := Classical.not_not.mp c4
    refine g_k1 (v := (-1)) (pc' := 8) cd_Ho_up rfl (by decide) rfl ?_
    exact g_reti cd_Ho_up rfl ⟨_, rfl, kk⟩
set_option maxRecDepth 100000 in
theorem t_same {sc : tm_X} {d : Nat} {B : bm_H} {F : Nat → Prop} {N S M ln : Nat} {T : List Tm} {dr : Nat} {K : Tm → Prop} {ca rm kc kl rk : Nat} {ws : List (Tm × Int32)} {wt : List Tm} {G : LG} {ids dir reg : Nat → Tm} {seen : List Tm} {π : Nat → Nat} {w : Nat → SW} {dev : Nat → DV} {sto : Nat → ST} {x y : Int32} {Q : Int32 → bm_H → Prop} (hC : CK B F N S M ln T dr K ca rm kc kl rk) (hH : RH B T ws wt G ids dir reg seen π w dev sto)  (kk : Q (sm_spec reg x y) B) : bm_Gi sc (d + 2) 155 [.ref 0, .int x, .int y] B Q := by
  show bm_G sc (d + 2) 155 0 [(0, .ref 0), (1, .int x), (2, .int y)] [] B _
  generalize elv : ([(0, .ref 0), (1, .int x), (2, .int y)] : tm_L) = lv
  have l0 : lv.lookup 0 = some (.ref 0) := by rw [← elv]; rfl
  have l1 : lv.lookup 1 = some (.int x) := by rw [← elv]; rfl
  have l2 : lv.lookup 2 = some (.int y) := by rw [← elv]; rfl
  clear elv
  refine g_ald (pc' := 1) cd_Ho_same rfl (Or.inr ⟨_, rfl, rfl, rfl⟩) l0 rfl rfl ?_
  refine g_ild (pc' := 2) cd_Ho_same rfl (Or.inr ⟨_, rfl, rfl, rfl⟩) l1 rfl ?_
  refine g_calli (pc' := 5) cd_Ho_same rfl rfl rfl rfl rfl (tm_invV rfl rfl cd_Ho_held rfl (Nat.le_of_ble_eq_true rfl) (by decide) hH.1.1.1 hH.1.1.2) (t_held hC hH (fun h2 th2 => ?_))
  show bm_G _ _ _ 5 _ [.int h2] B _
  refine g_ist (pc' := 6) cd_Ho_same rfl (Or.inr ⟨_, rfl, rfl, rfl⟩) (by decide) rfl (fun lv el => ?_)
  have l0 := tm_lk el l0 rfl (by decide)
  have l1 := tm_lk el l1 rfl (by decide)
  have l2 := tm_lk el l2 rfl (by decide)
  have l3 : lv.lookup 3 = some (.int h2) := tm_lks el
  clear el
  refine g_ald (pc' := 7) cd_Ho_same rfl (Or.inr ⟨_, rfl, rfl, rfl⟩) l0 rfl rfl ?_
  refine g_ild (pc' := 8) cd_Ho_same rfl (Or.inr ⟨_, rfl, rfl, rfl⟩) l2 rfl ?_
  refine g_calli (pc' := 11) cd_Ho_same rfl rfl rfl rfl rfl (tm_invV rfl rfl cd_Ho_held rfl (Nat.le_of_ble_eq_true rfl) (by decide) hH.1.1.1 hH.1.1.2) (t_held hC hH (fun h3 th3 => ?_))
  show bm_G _ _ _ 11 _ [.int h3] B _
  refine g_ist (pc' := 13) cd_Ho_same rfl (Or.inl ⟨rfl, rfl⟩) (by decide) rfl (fun lv el => ?_)
  have l0 := tm_lk el l0 rfl (by decide)
  have l1 := tm_lk el l1 rfl (by decide)
  have l2 := tm_lk el l2 rfl (by decide)
  have l3 := tm_lk el l3 rfl (by decide)
  have l4 : lv.lookup 4 = some (.int h3) := tm_lks el
  clear el
  refine g_ild (pc' := 14) cd_Ho_same rfl (Or.inr ⟨_, rfl, rfl, rfl⟩) l3 rfl ?_
  refine g_if1 (t := 22) (pc' := 17) cd_Ho_same rfl rfl rfl (fun c14 => ?_) (fun c14 => ?_)
  · have c14 : h2 = 0 := c14
    refine g_k1 (v := (-1)) (pc' := 23) cd_Ho_same rfl (by decide) rfl ?_
    exact g_reti cd_Ho_same rfl ⟨_, rfl, (bm_eq kk (cif_t (Or.inl ((TI_0 hC.1 th2).mp c14))))⟩
  · have c14 : ¬ h2 = 0 := c14
    refine g_ild (pc' := 19) cd_Ho_same rfl (Or.inl ⟨rfl, rfl⟩) l4 rfl ?_
    refine g_if1 (t := 24) (pc' := 22) cd_Ho_same rfl rfl rfl (fun c19 => ?_) (fun c19 => ?_)
    · have c19 : ¬ h3 = 0 := c19
      refine g_ild (pc' := 25) cd_Ho_same rfl (Or.inr ⟨_, rfl, rfl, rfl⟩) l3 rfl ?_
      refine g_ild (pc' := 27) cd_Ho_same rfl (Or.inl ⟨rfl, rfl⟩) l4 rfl ?_
      refine g_if2 (t := 34) (pc' := 30) cd_Ho_same rfl rfl rfl (fun c27 => ?_) (fun c27 => ?_)
      · have c27 : ¬ h2 = h3 := c27
        refine g_k1 (v := 0) (pc' := 35) cd_Ho_same rfl (by decide) rfl ?_
        exact g_reti cd_Ho_same rfl ⟨_, rfl, (bm_eq kk ((cif_f (fun q => q.elim (fun q => c14 ((TI_0 hC.1 th2).mpr q)) (fun q => c19 ((TI_0 hC.1 th3).mpr q)))).trans (cif_f (fun q => c27 ((TI_eq hC.1 th2 th3).mpr q)))))⟩
      · have c27 : h2 = h3 := Classical.not_not.mp c27
        refine g_k1 (v := 1) (pc' := 31) cd_Ho_same rfl (by decide) rfl ?_
        refine g_pure (pc' := 35) (st' := [.int 1]) cd_Ho_same rfl rfl (fun _ _ => rfl) ?_
        exact g_reti cd_Ho_same rfl ⟨_, rfl, (bm_eq kk ((cif_f (fun q => q.elim (fun q => c14 ((TI_0 hC.1 th2).mpr q)) (fun q => c19 ((TI_0 hC.1 th3).mpr q)))).trans (cif_t ((TI_eq hC.1 th2 th3).mp c27))))⟩
    · have c19 : h3 = 0 := Classical.not_not.mp c19
      refine g_k1 (v := (-1)) (pc' := 23) cd_Ho_same rfl (by decide) rfl ?_
      exact g_reti cd_Ho_same rfl ⟨_, rfl, (bm_eq kk (cif_t (Or.inr ((TI_0 hC.1 th3).mp c19))))⟩
set_option maxRecDepth 100000 in
theorem t_about0 {sc : tm_X} {d : Nat} {B : bm_H} {F : Nat → Prop} {N S M ln : Nat} {T : List Tm} {dr : Nat} {K : Tm → Prop} {ca rm kc kl rk : Nat} {ws : List (Tm × Int32)} {wt : List Tm} {G : LG} {ids dir reg : Nat → Tm} {seen : List Tm} {π : Nat → Nat} {w : Nat → SW} {dev : Nat → DV} {sto : Nat → ST} {x : Int32} {Q : Int32 → bm_H → Prop} (hC : CK B F N S M ln T dr K ca rm kc kl rk) (hH : RH B T ws wt G ids dir reg seen π w dev sto)  (kk : Q (ab_spec reg x 0) B) : bm_Gi sc (d + 2) 156 [.ref 0, .int x, .int 0] B Q := by
  show bm_G sc (d + 2) 156 0 [(0, .ref 0), (1, .int x), (2, .int 0)] [] B _
  generalize elv : ([(0, .ref 0), (1, .int x), (2, .int 0)] : tm_L) = lv
  have l0 : lv.lookup 0 = some (.ref 0) := by rw [← elv]; rfl
  have l1 : lv.lookup 1 = some (.int x) := by rw [← elv]; rfl
  have l2 : lv.lookup 2 = some (.int 0) := by rw [← elv]; rfl
  clear elv
  refine g_ald (pc' := 1) cd_Ho_about rfl (Or.inr ⟨_, rfl, rfl, rfl⟩) l0 rfl rfl ?_
  refine g_ild (pc' := 2) cd_Ho_about rfl (Or.inr ⟨_, rfl, rfl, rfl⟩) l1 rfl ?_
  refine g_calli (pc' := 5) cd_Ho_about rfl rfl rfl rfl rfl (tm_invV rfl rfl cd_Ho_held rfl (Nat.le_of_ble_eq_true rfl) (by decide) hH.1.1.1 hH.1.1.2) (t_held hC hH (fun h4 th4 => ?_))
  show bm_G _ _ _ 5 _ [.int h4] B _
  refine g_ist (pc' := 6) cd_Ho_about rfl (Or.inr ⟨_, rfl, rfl, rfl⟩) (by decide) rfl (fun lv el => ?_)
  have l0 := tm_lk el l0 rfl (by decide)
  have l1 := tm_lk el l1 rfl (by decide)
  have l2 := tm_lk el l2 rfl (by decide)
  have l3 : lv.lookup 3 = some (.int h4) := tm_lks el
  clear el
  refine g_ild (pc' := 7) cd_Ho_about rfl (Or.inr ⟨_, rfl, rfl, rfl⟩) l3 rfl ?_
  refine g_if1 (t := 19) (pc' := 10) cd_Ho_about rfl rfl rfl (fun c7 => ?_) (fun c7 => ?_)
  · have c7 : h4 = 0 := c7
    refine g_k1 (v := (-1)) (pc' := 20) cd_Ho_about rfl (by decide) rfl ?_
    exact g_reti cd_Ho_about rfl ⟨_, rfl, (bm_eq kk (if_pos (Or.inl (tnil_iff.mpr ((TI_0 hC.1 th4).mp c7)))))⟩
  · have c7 : ¬ h4 = 0 := c7
    refine g_ild (pc' := 11) cd_Ho_about rfl (Or.inr ⟨_, rfl, rfl, rfl⟩) l2 rfl ?_
    refine g_if1 (t := 19) (pc' := 14) cd_Ho_about rfl rfl rfl (fun c11 => ?_) (fun c11 => ?_)
    · exact absurd (show (0 : Int32) < 0 from c11) (by decide)
    · have c11 : ¬ (0 : Int32) < 0 := c11
      refine g_ild (pc' := 15) cd_Ho_about rfl (Or.inr ⟨_, rfl, rfl, rfl⟩) l2 rfl ?_
      refine g_k1 (v := 5) (pc' := 16) cd_Ho_about rfl (by decide) rfl ?_
      refine g_if2 (t := 21) (pc' := 19) cd_Ho_about rfl rfl rfl (fun c16 => ?_) (fun c16 => ?_)
      · have c16 : (0 : Int32) ≤ 5 := c16
        refine g_ald (pc' := 22) cd_Ho_about rfl (Or.inr ⟨_, rfl, rfl, rfl⟩) l0 rfl rfl ?_
        refine g_fR (c := 11) (k := 0) (x := 1) (pc' := 25) cd_Ho_about rfl rfl rfl rfl rfl (by decide) hH.1.1.1 hH.1.1.2 hH.1.2.1.1 ?_
        refine g_ild (pc' := 26) cd_Ho_about rfl (Or.inr ⟨_, rfl, rfl, rfl⟩) l3 rfl ?_
        refine g_calli (pc' := 29) cd_Ho_about rfl rfl rfl rfl rfl (tm_invV rfl rfl cd_Te_kindOf rfl (Nat.le_of_ble_eq_true rfl) (by decide) hC.1.1.1.1 hC.1.1.1.2) (t_kindOf hC.1 th4 ?_)
        show bm_G _ _ _ 29 _ [.int (kd (hl reg x))] B _
        refine g_ist (pc' := 31) cd_Ho_about rfl (Or.inl ⟨rfl, rfl⟩) (by decide) rfl (fun lv el => ?_)
        have l0 := tm_lk el l0 rfl (by decide)
        have l1 := tm_lk el l1 rfl (by decide)
        have l2 := tm_lk el l2 rfl (by decide)
        have l3 := tm_lk el l3 rfl (by decide)
        have l4 : lv.lookup 4 = some (.int (kd (hl reg x))) := tm_lks el
        clear el
        refine g_ild (pc' := 32) cd_Ho_about rfl (Or.inr ⟨_, rfl, rfl, rfl⟩) l2 rfl ?_
        refine g_if1 (t := 38) (pc' := 35) cd_Ho_about rfl rfl rfl (fun c32 => ?_) (fun c32 => ?_)
        · exact absurd (show ¬ (0 : Int32) = 0 from c32) (by decide)
        · have c32 : (0 : Int32) = 0 := Classical.not_not.mp c32
          refine g_ild (pc' := 37) cd_Ho_about rfl (Or.inl ⟨rfl, rfl⟩) l4 rfl ?_
          exact g_reti cd_Ho_about rfl ⟨_, rfl, (bm_eq kk (by unfold ab_spec; rw [if_neg (fun q => q.elim (fun q => c7 ((TI_0 hC.1 th4).mpr (tnil_iff.mp q))) (fun q => absurd q (by decide))), if_pos rfl]))⟩
      · exact absurd (show ¬ (0 : Int32) ≤ 5 from c16) (by decide)
set_option maxRecDepth 100000 in
theorem t_about1 {sc : tm_X} {d : Nat} {B : bm_H} {F : Nat → Prop} {N S M ln : Nat} {T : List Tm} {dr : Nat} {K : Tm → Prop} {ca rm kc kl rk : Nat} {ws : List (Tm × Int32)} {wt : List Tm} {G : LG} {ids dir reg : Nat → Tm} {seen : List Tm} {π : Nat → Nat} {w : Nat → SW} {dev : Nat → DV} {sto : Nat → ST} {x : Int32} {Q : Int32 → bm_H → Prop} (hC : CK B F N S M ln T dr K ca rm kc kl rk) (hH : RH B T ws wt G ids dir reg seen π w dev sto)  (kk : Q (ab_spec reg x 1) B) : bm_Gi sc (d + 2) 156 [.ref 0, .int x, .int 1] B Q := by
  show bm_G sc (d + 2) 156 0 [(0, .ref 0), (1, .int x), (2, .int 1)] [] B _
  generalize elv : ([(0, .ref 0), (1, .int x), (2, .int 1)] : tm_L) = lv
  have l0 : lv.lookup 0 = some (.ref 0) := by rw [← elv]; rfl
  have l1 : lv.lookup 1 = some (.int x) := by rw [← elv]; rfl
  have l2 : lv.lookup 2 = some (.int 1) := by rw [← elv]; rfl
  clear elv
  refine g_ald (pc' := 1) cd_Ho_about rfl (Or.inr ⟨_, rfl, rfl, rfl⟩) l0 rfl rfl ?_
  refine g_ild (pc' := 2) cd_Ho_about rfl (Or.inr ⟨_, rfl, rfl, rfl⟩) l1 rfl ?_
  refine g_calli (pc' := 5) cd_Ho_about rfl rfl rfl rfl rfl (tm_invV rfl rfl cd_Ho_held rfl (Nat.le_of_ble_eq_true rfl) (by decide) hH.1.1.1 hH.1.1.2) (t_held hC hH (fun h5 th5 => ?_))
  show bm_G _ _ _ 5 _ [.int h5] B _
  refine g_ist (pc' := 6) cd_Ho_about rfl (Or.inr ⟨_, rfl, rfl, rfl⟩) (by decide) rfl (fun lv el => ?_)
  have l0 := tm_lk el l0 rfl (by decide)
  have l1 := tm_lk el l1 rfl (by decide)
  have l2 := tm_lk el l2 rfl (by decide)
  have l3 : lv.lookup 3 = some (.int h5) := tm_lks el
  clear el
  refine g_ild (pc' := 7) cd_Ho_about rfl (Or.inr ⟨_, rfl, rfl, rfl⟩) l3 rfl ?_
  refine g_if1 (t := 19) (pc' := 10) cd_Ho_about rfl rfl rfl (fun c7 => ?_) (fun c7 => ?_)
  · have c7 : h5 = 0 := c7
    refine g_k1 (v := (-1)) (pc' := 20) cd_Ho_about rfl (by decide) rfl ?_
    exact g_reti cd_Ho_about rfl ⟨_, rfl, (bm_eq kk (if_pos (Or.inl (tnil_iff.mpr ((TI_0 hC.1 th5).mp c7)))))⟩
  · have c7 : ¬ h5 = 0 := c7
    refine g_ild (pc' := 11) cd_Ho_about rfl (Or.inr ⟨_, rfl, rfl, rfl⟩) l2 rfl ?_
    refine g_if1 (t := 19) (pc' := 14) cd_Ho_about rfl rfl rfl (fun c11 => ?_) (fun c11 => ?_)
    · exact absurd (show (1 : Int32) < 0 from c11) (by decide)
    · have c11 : ¬ (1 : Int32) < 0 := c11
      refine g_ild (pc' := 15) cd_Ho_about rfl (Or.inr ⟨_, rfl, rfl, rfl⟩) l2 rfl ?_
      refine g_k1 (v := 5) (pc' := 16) cd_Ho_about rfl (by decide) rfl ?_
      refine g_if2 (t := 21) (pc' := 19) cd_Ho_about rfl rfl rfl (fun c16 => ?_) (fun c16 => ?_)
      · have c16 : (1 : Int32) ≤ 5 := c16
        refine g_ald (pc' := 22) cd_Ho_about rfl (Or.inr ⟨_, rfl, rfl, rfl⟩) l0 rfl rfl ?_
        refine g_fR (c := 11) (k := 0) (x := 1) (pc' := 25) cd_Ho_about rfl rfl rfl rfl rfl (by decide) hH.1.1.1 hH.1.1.2 hH.1.2.1.1 ?_
        refine g_ild (pc' := 26) cd_Ho_about rfl (Or.inr ⟨_, rfl, rfl, rfl⟩) l3 rfl ?_
        refine g_calli (pc' := 29) cd_Ho_about rfl rfl rfl rfl rfl (tm_invV rfl rfl cd_Te_kindOf rfl (Nat.le_of_ble_eq_true rfl) (by decide) hC.1.1.1.1 hC.1.1.1.2) (t_kindOf hC.1 th5 ?_)
        show bm_G _ _ _ 29 _ [.int (kd (hl reg x))] B _
        refine g_ist (pc' := 31) cd_Ho_about rfl (Or.inl ⟨rfl, rfl⟩) (by decide) rfl (fun lv el => ?_)
        have l0 := tm_lk el l0 rfl (by decide)
        have l1 := tm_lk el l1 rfl (by decide)
        have l2 := tm_lk el l2 rfl (by decide)
        have l3 := tm_lk el l3 rfl (by decide)
        have l4 : lv.lookup 4 = some (.int (kd (hl reg x))) := tm_lks el
        clear el
        refine g_ild (pc' := 32) cd_Ho_about rfl (Or.inr ⟨_, rfl, rfl, rfl⟩) l2 rfl ?_
        refine g_if1 (t := 38) (pc' := 35) cd_Ho_about rfl rfl rfl (fun c32 => ?_) (fun c32 => ?_)
        · have c32 : ¬ (1 : Int32) = 0 := c32
          refine g_ild (pc' := 39) cd_Ho_about rfl (Or.inr ⟨_, rfl, rfl, rfl⟩) l2 rfl ?_
          refine g_k1 (v := 1) (pc' := 40) cd_Ho_about rfl (by decide) rfl ?_
          refine g_if2 (t := 69) (pc' := 43) cd_Ho_about rfl rfl rfl (fun c40 => ?_) (fun c40 => ?_)
          · exact absurd (show ¬ (1 : Int32) = 1 from c40) (by decide)
          · have c40 : (1 : Int32) = 1 := Classical.not_not.mp c40
            refine g_ild (pc' := 45) cd_Ho_about rfl (Or.inl ⟨rfl, rfl⟩) l4 rfl ?_
            refine g_k1 (v := 4) (pc' := 46) cd_Ho_about rfl (by decide) rfl ?_
            refine g_if2 (t := 56) (pc' := 49) cd_Ho_about rfl rfl rfl (fun c46 => ?_) (fun c46 => ?_)
            · have c46 : (kd (hl reg x)) = 4 := c46
              refine g_ald (pc' := 57) cd_Ho_about rfl (Or.inr ⟨_, rfl, rfl, rfl⟩) l0 rfl rfl ?_
              refine g_fR (c := 11) (k := 0) (x := 1) (pc' := 60) cd_Ho_about rfl rfl rfl rfl rfl (by decide) hH.1.1.1 hH.1.1.2 hH.1.2.1.1 ?_
              refine g_ild (pc' := 61) cd_Ho_about rfl (Or.inr ⟨_, rfl, rfl, rfl⟩) l3 rfl ?_
              refine g_calli (pc' := 64) cd_Ho_about rfl rfl rfl rfl rfl (tm_invV rfl rfl cd_Te_markOf rfl (Nat.le_of_ble_eq_true rfl) (by decide) hC.1.1.1.1 hC.1.1.1.2) (t_markOf hC.1 th5 ?_)
              show bm_G _ _ _ 64 _ [.int (mk (hl reg x))] B _
              refine g_pure (pc' := 68) (st' := [.int (mk (hl reg x))]) cd_Ho_about rfl rfl (fun _ _ => rfl) ?_
              exact g_reti cd_Ho_about rfl ⟨_, rfl, (bm_eq kk (by unfold ab_spec; rw [if_neg (fun q => q.elim (fun q => c7 ((TI_0 hC.1 th5).mpr (tnil_iff.mp q))) (fun q => absurd q (by decide))), if_neg (by decide), if_pos rfl, if_pos (Or.inl c46)]))⟩
            · have c46 : ¬ (kd (hl reg x)) = 4 := c46
              refine g_ild (pc' := 51) cd_Ho_about rfl (Or.inl ⟨rfl, rfl⟩) l4 rfl ?_
              refine g_k2 (v := 7) (pc' := 53) cd_Ho_about rfl (by decide) rfl ?_
              refine g_if2 (t := 67) (pc' := 56) cd_Ho_about rfl rfl rfl (fun c53 => ?_) (fun c53 => ?_)
              · have c53 : ¬ (kd (hl reg x)) = 7 := c53
                refine g_k1 (v := 0) (pc' := 68) cd_Ho_about rfl (by decide) rfl ?_
                exact g_reti cd_Ho_about rfl ⟨_, rfl, (bm_eq kk (by unfold ab_spec; rw [if_neg (fun q => q.elim (fun q => c7 ((TI_0 hC.1 th5).mpr (tnil_iff.mp q))) (fun q => absurd q (by decide))), if_neg (by decide), if_pos rfl, if_neg (fun q => q.elim c46 c53)]))⟩
              · have c53 : (kd (hl reg x)) = 7 := Classical.not_not.mp c53
                refine g_ald (pc' := 57) cd_Ho_about rfl (Or.inr ⟨_, rfl, rfl, rfl⟩) l0 rfl rfl ?_
                refine g_fR (c := 11) (k := 0) (x := 1) (pc' := 60) cd_Ho_about rfl rfl rfl rfl rfl (by decide) hH.1.1.1 hH.1.1.2 hH.1.2.1.1 ?_
                refine g_ild (pc' := 61) cd_Ho_about rfl (Or.inr ⟨_, rfl, rfl, rfl⟩) l3 rfl ?_
                refine g_calli (pc' := 64) cd_Ho_about rfl rfl rfl rfl rfl (tm_invV rfl rfl cd_Te_markOf rfl (Nat.le_of_ble_eq_true rfl) (by decide) hC.1.1.1.1 hC.1.1.1.2) (t_markOf hC.1 th5 ?_)
                show bm_G _ _ _ 64 _ [.int (mk (hl reg x))] B _
                refine g_pure (pc' := 68) (st' := [.int (mk (hl reg x))]) cd_Ho_about rfl rfl (fun _ _ => rfl) ?_
                exact g_reti cd_Ho_about rfl ⟨_, rfl, (bm_eq kk (by unfold ab_spec; rw [if_neg (fun q => q.elim (fun q => c7 ((TI_0 hC.1 th5).mpr (tnil_iff.mp q))) (fun q => absurd q (by decide))), if_neg (by decide), if_pos rfl, if_pos (Or.inr c53)]))⟩
        · exact absurd (show ¬ (¬ (1 : Int32) = 0) from c32) (by decide)
      · exact absurd (show ¬ (1 : Int32) ≤ 5 from c16) (by decide)
set_option maxRecDepth 100000 in
theorem t_aboutA {sc : tm_X} {d : Nat} {B : bm_H} {F : Nat → Prop} {N S M ln : Nat} {T : List Tm} {dr : Nat} {K : Tm → Prop} {ca rm kc kl rk : Nat} {ws : List (Tm × Int32)} {wt : List Tm} {G : LG} {ids dir reg : Nat → Tm} {seen : List Tm} {π : Nat → Nat} {w : Nat → SW} {dev : Nat → DV} {sto : Nat → ST} {x : Int32} {i : Nat} {Q : Int32 → bm_H → Prop} (hC : CK B F N S M ln T dr K ca rm kc kl rk) (hH : RH B T ws wt G ids dir reg seen π w dev sto) (hi : i < 4) (kk : Q (ab_spec reg x (nI (i + 2))) B) : bm_Gi sc (d + 2) 156 [.ref 0, .int x, .int (nI (i + 2))] B Q := by
  have hin : inR (nI (i + 2)) 6 = true := inR_nI (n := 6) (by omega) (by decide)
  have h20 : ¬ nI (i + 2) = 0 := fun q => by have := (nI_eq (a := i + 2) (b := 0) (by omega) (by decide)).mp q; omega
  have h21 : ¬ nI (i + 2) = 1 := fun q => by have := (nI_eq (a := i + 2) (b := 1) (by omega) (by decide)).mp q; omega
  show bm_G sc (d + 2) 156 0 [(0, .ref 0), (1, .int x), (2, .int (nI (i + 2)))] [] B _
  generalize elv : ([(0, .ref 0), (1, .int x), (2, .int (nI (i + 2)))] : tm_L) = lv
  have l0 : lv.lookup 0 = some (.ref 0) := by rw [← elv]; rfl
  have l1 : lv.lookup 1 = some (.int x) := by rw [← elv]; rfl
  have l2 : lv.lookup 2 = some (.int (nI (i + 2))) := by rw [← elv]; rfl
  clear elv
  refine g_ald (pc' := 1) cd_Ho_about rfl (Or.inr ⟨_, rfl, rfl, rfl⟩) l0 rfl rfl ?_
  refine g_ild (pc' := 2) cd_Ho_about rfl (Or.inr ⟨_, rfl, rfl, rfl⟩) l1 rfl ?_
  refine g_calli (pc' := 5) cd_Ho_about rfl rfl rfl rfl rfl (tm_invV rfl rfl cd_Ho_held rfl (Nat.le_of_ble_eq_true rfl) (by decide) hH.1.1.1 hH.1.1.2) (t_held hC hH (fun h6 th6 => ?_))
  show bm_G _ _ _ 5 _ [.int h6] B _
  refine g_ist (pc' := 6) cd_Ho_about rfl (Or.inr ⟨_, rfl, rfl, rfl⟩) (by decide) rfl (fun lv el => ?_)
  have l0 := tm_lk el l0 rfl (by decide)
  have l1 := tm_lk el l1 rfl (by decide)
  have l2 := tm_lk el l2 rfl (by decide)
  have l3 : lv.lookup 3 = some (.int h6) := tm_lks el
  clear el
  refine g_ild (pc' := 7) cd_Ho_about rfl (Or.inr ⟨_, rfl, rfl, rfl⟩) l3 rfl ?_
  refine g_if1 (t := 19) (pc' := 10) cd_Ho_about rfl rfl rfl (fun c7 => ?_) (fun c7 => ?_)
  · have c7 : h6 = 0 := c7
    refine g_k1 (v := (-1)) (pc' := 20) cd_Ho_about rfl (by decide) rfl ?_
    exact g_reti cd_Ho_about rfl ⟨_, rfl, (bm_eq kk (if_pos (Or.inl (tnil_iff.mpr ((TI_0 hC.1 th6).mp c7)))))⟩
  · have c7 : ¬ h6 = 0 := c7
    refine g_ild (pc' := 11) cd_Ho_about rfl (Or.inr ⟨_, rfl, rfl, rfl⟩) l2 rfl ?_
    refine g_if1 (t := 19) (pc' := 14) cd_Ho_about rfl rfl rfl (fun c11 => ?_) (fun c11 => ?_)
    · have c11 : (nI (i + 2)) < 0 := c11
      exact absurd c11 (nI_pos (by omega))
    · have c11 : ¬ (nI (i + 2)) < 0 := c11
      refine g_ild (pc' := 15) cd_Ho_about rfl (Or.inr ⟨_, rfl, rfl, rfl⟩) l2 rfl ?_
      refine g_k1 (v := 5) (pc' := 16) cd_Ho_about rfl (by decide) rfl ?_
      refine g_if2 (t := 21) (pc' := 19) cd_Ho_about rfl rfl rfl (fun c16 => ?_) (fun c16 => ?_)
      · have c16 : (nI (i + 2)) ≤ 5 := c16
        refine g_ald (pc' := 22) cd_Ho_about rfl (Or.inr ⟨_, rfl, rfl, rfl⟩) l0 rfl rfl ?_
        refine g_fR (c := 11) (k := 0) (x := 1) (pc' := 25) cd_Ho_about rfl rfl rfl rfl rfl (by decide) hH.1.1.1 hH.1.1.2 hH.1.2.1.1 ?_
        refine g_ild (pc' := 26) cd_Ho_about rfl (Or.inr ⟨_, rfl, rfl, rfl⟩) l3 rfl ?_
        refine g_calli (pc' := 29) cd_Ho_about rfl rfl rfl rfl rfl (tm_invV rfl rfl cd_Te_kindOf rfl (Nat.le_of_ble_eq_true rfl) (by decide) hC.1.1.1.1 hC.1.1.1.2) (t_kindOf hC.1 th6 ?_)
        show bm_G _ _ _ 29 _ [.int (kd (hl reg x))] B _
        refine g_ist (pc' := 31) cd_Ho_about rfl (Or.inl ⟨rfl, rfl⟩) (by decide) rfl (fun lv el => ?_)
        have l0 := tm_lk el l0 rfl (by decide)
        have l1 := tm_lk el l1 rfl (by decide)
        have l2 := tm_lk el l2 rfl (by decide)
        have l3 := tm_lk el l3 rfl (by decide)
        have l4 : lv.lookup 4 = some (.int (kd (hl reg x))) := tm_lks el
        clear el
        refine g_ild (pc' := 32) cd_Ho_about rfl (Or.inr ⟨_, rfl, rfl, rfl⟩) l2 rfl ?_
        refine g_if1 (t := 38) (pc' := 35) cd_Ho_about rfl rfl rfl (fun c32 => ?_) (fun c32 => ?_)
        · have c32 : ¬ (nI (i + 2)) = 0 := c32
          refine g_ild (pc' := 39) cd_Ho_about rfl (Or.inr ⟨_, rfl, rfl, rfl⟩) l2 rfl ?_
          refine g_k1 (v := 1) (pc' := 40) cd_Ho_about rfl (by decide) rfl ?_
          refine g_if2 (t := 69) (pc' := 43) cd_Ho_about rfl rfl rfl (fun c40 => ?_) (fun c40 => ?_)
          · have c40 : ¬ (nI (i + 2)) = 1 := c40
            refine g_ild (pc' := 71) cd_Ho_about rfl (Or.inl ⟨rfl, rfl⟩) l4 rfl ?_
            refine g_k2 (v := 7) (pc' := 73) cd_Ho_about rfl (by decide) rfl ?_
            refine g_if2 (t := 90) (pc' := 76) cd_Ho_about rfl rfl rfl (fun c73 => ?_) (fun c73 => ?_)
            · have c73 : ¬ (kd (hl reg x)) = 7 := c73
              refine g_k1 (v := 0) (pc' := 91) cd_Ho_about rfl (by decide) rfl ?_
              exact g_reti cd_Ho_about rfl ⟨_, rfl, (bm_eq kk (by unfold ab_spec; rw [if_neg (fun q => q.elim (fun q => c7 ((TI_0 hC.1 th6).mpr (tnil_iff.mp q))) (fun q => absurd q (by rw [hin]; decide))), if_neg h20, if_neg h21, if_neg c73]))⟩
            · have c73 : (kd (hl reg x)) = 7 := Classical.not_not.mp c73
              refine g_ald (pc' := 77) cd_Ho_about rfl (Or.inr ⟨_, rfl, rfl, rfl⟩) l0 rfl rfl ?_
              refine g_fR (c := 11) (k := 0) (x := 1) (pc' := 80) cd_Ho_about rfl rfl rfl rfl rfl (by decide) hH.1.1.1 hH.1.1.2 hH.1.2.1.1 ?_
              refine g_ild (pc' := 81) cd_Ho_about rfl (Or.inr ⟨_, rfl, rfl, rfl⟩) l3 rfl ?_
              refine g_ild (pc' := 82) cd_Ho_about rfl (Or.inr ⟨_, rfl, rfl, rfl⟩) l2 rfl ?_
              refine g_k1 (v := 2) (pc' := 83) cd_Ho_about rfl (by decide) rfl ?_
              refine g_pure (pc' := 84) (st' := [.int ((nI (i + 2)) - 2), .int h6, .ref 1]) cd_Ho_about rfl rfl (fun _ _ => rfl) ?_
              rw [show (nI (i + 2) - 2 : Int32) = nI i from (pk_sub (a := i + 2) (b := 2) (by omega))]
              refine g_calli (pc' := 87) cd_Ho_about rfl rfl rfl rfl rfl (tm_invV rfl rfl cd_Te_numberOf rfl (Nat.le_of_ble_eq_true rfl) (by decide) hC.1.1.1.1 hC.1.1.1.2) (t_numberOf (i := i) hC.1 th6 hi ?_)
              show bm_G _ _ _ 87 _ [.int (nu (hl reg x) i)] B _
              refine g_pure (pc' := 91) (st' := [.int (nu (hl reg x) i)]) cd_Ho_about rfl rfl (fun _ _ => rfl) ?_
              exact g_reti cd_Ho_about rfl ⟨_, rfl, (bm_eq kk (by unfold ab_spec; rw [if_neg (fun q => q.elim (fun q => c7 ((TI_0 hC.1 th6).mpr (tnil_iff.mp q))) (fun q => absurd q (by rw [hin]; decide))), if_neg h20, if_neg h21, if_pos c73, nI_clamp (by omega), Nat.add_sub_cancel]))⟩
          · have c40 : (nI (i + 2)) = 1 := Classical.not_not.mp c40
            exact absurd c40 h21
        · have c32 : (nI (i + 2)) = 0 := Classical.not_not.mp c32
          exact absurd c32 h20
      · have c16 : ¬ (nI (i + 2)) ≤ 5 := c16
        exact absurd (Int32.not_lt.mp (fun q => by have := (nI_ltI (a := 5) (b := i + 2) (by decide) (by omega)).mp q; omega)) c16
set_option maxRecDepth 100000 in
theorem t_aboutC {sc : tm_X} {d : Nat} {B : bm_H} {F : Nat → Prop} {N S M ln : Nat} {T : List Tm} {dr : Nat} {K : Tm → Prop} {ca rm kc kl rk : Nat} {ws : List (Tm × Int32)} {wt : List Tm} {G : LG} {ids dir reg : Nat → Tm} {seen : List Tm} {π : Nat → Nat} {w : Nat → SW} {dev : Nat → DV} {sto : Nat → ST} {x a : Int32} {Q : Int32 → bm_H → Prop} (hC : CK B F N S M ln T dr K ca rm kc kl rk) (hH : RH B T ws wt G ids dir reg seen π w dev sto) (ha : inR a 6 = false) (kk : Q (ab_spec reg x a) B) : bm_Gi sc (d + 2) 156 [.ref 0, .int x, .int a] B Q := by
  show bm_G sc (d + 2) 156 0 [(0, .ref 0), (1, .int x), (2, .int a)] [] B _
  generalize elv : ([(0, .ref 0), (1, .int x), (2, .int a)] : tm_L) = lv
  have l0 : lv.lookup 0 = some (.ref 0) := by rw [← elv]; rfl
  have l1 : lv.lookup 1 = some (.int x) := by rw [← elv]; rfl
  have l2 : lv.lookup 2 = some (.int a) := by rw [← elv]; rfl
  clear elv
  refine g_ald (pc' := 1) cd_Ho_about rfl (Or.inr ⟨_, rfl, rfl, rfl⟩) l0 rfl rfl ?_
  refine g_ild (pc' := 2) cd_Ho_about rfl (Or.inr ⟨_, rfl, rfl, rfl⟩) l1 rfl ?_
  refine g_calli (pc' := 5) cd_Ho_about rfl rfl rfl rfl rfl (tm_invV rfl rfl cd_Ho_held rfl (Nat.le_of_ble_eq_true rfl) (by decide) hH.1.1.1 hH.1.1.2) (t_held hC hH (fun h7 th7 => ?_))
  show bm_G _ _ _ 5 _ [.int h7] B _
  refine g_ist (pc' := 6) cd_Ho_about rfl (Or.inr ⟨_, rfl, rfl, rfl⟩) (by decide) rfl (fun lv el => ?_)
  have l0 := tm_lk el l0 rfl (by decide)
  have l1 := tm_lk el l1 rfl (by decide)
  have l2 := tm_lk el l2 rfl (by decide)
  have l3 : lv.lookup 3 = some (.int h7) := tm_lks el
  clear el
  refine g_ild (pc' := 7) cd_Ho_about rfl (Or.inr ⟨_, rfl, rfl, rfl⟩) l3 rfl ?_
  refine g_if1 (t := 19) (pc' := 10) cd_Ho_about rfl rfl rfl (fun c7 => ?_) (fun c7 => ?_)
  · have c7 : h7 = 0 := c7
    refine g_k1 (v := (-1)) (pc' := 20) cd_Ho_about rfl (by decide) rfl ?_
    exact g_reti cd_Ho_about rfl ⟨_, rfl, (bm_eq kk (if_pos (Or.inl (tnil_iff.mpr ((TI_0 hC.1 th7).mp c7)))))⟩
  · have c7 : ¬ h7 = 0 := c7
    refine g_ild (pc' := 11) cd_Ho_about rfl (Or.inr ⟨_, rfl, rfl, rfl⟩) l2 rfl ?_
    refine g_if1 (t := 19) (pc' := 14) cd_Ho_about rfl rfl rfl (fun c11 => ?_) (fun c11 => ?_)
    · have c11 : a < 0 := c11
      refine g_k1 (v := (-1)) (pc' := 20) cd_Ho_about rfl (by decide) rfl ?_
      exact g_reti cd_Ho_about rfl ⟨_, rfl, (bm_eq kk (if_pos (Or.inr ha)))⟩
    · have c11 : ¬ a < 0 := c11
      refine g_ild (pc' := 15) cd_Ho_about rfl (Or.inr ⟨_, rfl, rfl, rfl⟩) l2 rfl ?_
      refine g_k1 (v := 5) (pc' := 16) cd_Ho_about rfl (by decide) rfl ?_
      refine g_if2 (t := 21) (pc' := 19) cd_Ho_about rfl rfl rfl (fun c16 => ?_) (fun c16 => ?_)
      · have c16 : a ≤ 5 := c16
        exact absurd (inR_t (n := 6) c11 (fun q => absurd (Int32.lt_of_lt_of_le (show (5 : Int32) < 6 by decide) (Int32.le_trans q c16)) (Int32.lt_irrefl))) (by rw [ha]; decide)
      · have c16 : ¬ a ≤ 5 := c16
        refine g_k1 (v := (-1)) (pc' := 20) cd_Ho_about rfl (by decide) rfl ?_
        exact g_reti cd_Ho_about rfl ⟨_, rfl, (bm_eq kk (if_pos (Or.inr ha)))⟩
theorem t_about {sc : tm_X} {d : Nat} {B : bm_H} {F : Nat → Prop} {N S M ln : Nat} {T : List Tm} {dr : Nat} {K : Tm → Prop} {ca rm kc kl rk : Nat} {ws : List (Tm × Int32)} {wt : List Tm} {G : LG} {ids dir reg : Nat → Tm} {seen : List Tm} {π : Nat → Nat} {w : Nat → SW} {dev : Nat → DV} {sto : Nat → ST} {x a : Int32} {Q : Int32 → bm_H → Prop} (hC : CK B F N S M ln T dr K ca rm kc kl rk) (hH : RH B T ws wt G ids dir reg seen π w dev sto) (kk : Q (ab_spec reg x a) B) : bm_Gi sc (d + 2) 156 [.ref 0, .int x, .int a] B Q := by
  cases c : inR a 6 with
  | false => exact t_aboutC hC hH c kk
  | true =>
    obtain ⟨i, hi, rfl⟩ := inR_of (n := 6) (by decide) c
    rcases (show i = 0 ∨ i = 1 ∨ ∃ k, (k < 4 ∧ i = k + 2) ∨ False from if h0 : i = 0 then Or.inl h0 else if h1 : i = 1 then Or.inr (Or.inl h1) else Or.inr (Or.inr ⟨i - 2, Or.inl ⟨by omega, by omega⟩⟩)) with rfl | rfl | ⟨k, hk⟩
    · exact t_about0 hC hH kk
    · exact t_about1 hC hH kk
    · rcases hk with ⟨hk, rfl⟩ | hk
      · exact t_aboutA hC hH hk kk
      · exact hk.elim
set_option maxRecDepth 100000 in
theorem t_letter {sc : tm_X} {d : Nat} {B : bm_H} {F : Nat → Prop} {N S M ln : Nat} {T : List Tm} {dr : Nat} {K : Tm → Prop} {ca rm kc kl rk : Nat} {ws : List (Tm × Int32)} {wt : List Tm} {G : LG} {ids dir reg : Nat → Tm} {seen : List Tm} {π : Nat → Nat} {w : Nat → SW} {dev : Nat → DV} {sto : Nat → ST} {x : Int32} {Q : Int32 → bm_H → Prop} (hC : CK B F N S M ln T dr K ca rm kc kl rk) (hH : RH B T ws wt G ids dir reg seen π w dev sto)  (kk : Q (lt_spec ws x) B) : bm_Gi sc (d + 2) 159 [.ref 0, .int x] B Q := by
  show bm_G sc (d + 2) 159 0 [(0, .ref 0), (1, .int x)] [] B _
  generalize elv : ([(0, .ref 0), (1, .int x)] : tm_L) = lv
  have l0 : lv.lookup 0 = some (.ref 0) := by rw [← elv]; rfl
  have l1 : lv.lookup 1 = some (.int x) := by rw [← elv]; rfl
  clear elv
  refine g_ald (pc' := 1) cd_Ho_letter rfl (Or.inr ⟨_, rfl, rfl, rfl⟩) l0 rfl rfl ?_
  refine g_fR (c := 11) (k := 2) (x := 8) (pc' := 4) cd_Ho_letter rfl rfl rfl rfl rfl (by decide) hH.1.1.1 hH.1.1.2 hH.1.2.1.2.2.1 ?_
  refine g_ild (pc' := 5) cd_Ho_letter rfl (Or.inr ⟨_, rfl, rfl, rfl⟩) l1 rfl ?_
  refine g_calli (pc' := 8) cd_Ho_letter rfl rfl rfl rfl rfl (tm_invV rfl rfl cd_Wi_has rfl (Nat.le_of_ble_eq_true rfl) (by decide) hH.2.1.1.1.1 hH.2.1.1.1.2) (t_Whas hH.2.1 ?_)
  show bm_G _ _ _ 8 _ [.int (bz (inR x (nI ws.length)))] B _
  refine g_if1 (t := 23) (pc' := 11) cd_Ho_letter rfl rfl rfl (fun c8 => ?_) (fun c8 => ?_)
  · have c8 : (inR x (nI ws.length)) = false := bz_f c8
    refine g_k1 (v := (-1)) (pc' := 24) cd_Ho_letter rfl (by decide) rfl ?_
    exact g_reti cd_Ho_letter rfl ⟨_, rfl, (bm_eq kk (if_neg (by rw [c8]; decide)))⟩
  · have c8 : (inR x (nI ws.length)) = true := bz_t c8
    refine g_ald (pc' := 12) cd_Ho_letter rfl (Or.inr ⟨_, rfl, rfl, rfl⟩) l0 rfl rfl ?_
    refine g_fR (c := 11) (k := 2) (x := 8) (pc' := 15) cd_Ho_letter rfl rfl rfl rfl rfl (by decide) hH.1.1.1 hH.1.1.2 hH.1.2.1.2.2.1 ?_
    refine g_fR (c := 10) (k := 1) (x := 10) (pc' := 18) cd_Ho_letter rfl rfl rfl rfl rfl (by decide) hH.2.1.1.1.1 hH.2.1.1.1.2 hH.2.1.1.2.1.2 ?_
    refine g_ild (pc' := 19) cd_Ho_letter rfl (Or.inr ⟨_, rfl, rfl, rfl⟩) l1 rfl ?_
    obtain ⟨j, hj, ej⟩ := inR_of (by have := hH.2.1.2.1.2.2; omega) c8
    have tj := RWi_at hH.2.1 hj
    refine g_aI (x := (bm_AI B 10 j)) (pc' := 20) cd_Ho_letter rfl rfl hH.2.1.1.2.2.2.1 hH.2.1.1.2.2.2.2.1 (by rw [show bm_AL B 10 = 700 from hH.2.1.1.2.2.2.2.2, ej]; exact vp_in_nI (by have := hH.2.1.2.1.2.2; omega) (by decide)) (by rw [ej, nI_clamp (by have := hH.2.1.2.1.2.2; omega)]) ?_
    refine g_pure (pc' := 24) (st' := [.int ((bm_AI B 10 j))]) cd_Ho_letter rfl rfl (fun _ _ => rfl) ?_
    exact g_reti cd_Ho_letter rfl ⟨_, rfl, (bm_eq kk (by unfold lt_spec; rw [if_pos c8, ej, nI_clamp (by have := hH.2.1.2.1.2.2; omega)]; exact tj.2.symm))⟩
set_option maxRecDepth 100000 in
theorem t_taken {sc : tm_X} {d : Nat} {B : bm_H} {F : Nat → Prop} {N S M ln : Nat} {T : List Tm} {dr : Nat} {K : Tm → Prop} {ca rm kc kl rk : Nat} {ws : List (Tm × Int32)} {wt : List Tm} {L : List LT} {bd ll tc tl tf tg : Nat → Int32} {cf cg : Int32} {ct : Tm} {co : Bool} {li fo db : Int32} {ids dir reg : Nat → Tm} {seen : List Tm} {π : Nat → Nat} {w : Nat → SW} {dev : Nat → DV} {sto : Nat → ST} {p : Nat} {a : Int32} {Q : Int32 → bm_H → Prop} (hC : CK B F N S M ln T dr K ca rm kc kl rk) (hH : RH B T ws wt (L, bd, ll, tc, tl, tf, tg, cf, cg, ct, co, li, fo, db) ids dir reg seen π w dev sto) (hp : p < 6) (kk : Q (lg_last tc tl tf tg p a) B) : bm_Gi sc (d + 2) 160 [.ref 0, .int (nI p), .int a] B Q := by
  show bm_G sc (d + 2) 160 0 [(0, .ref 0), (1, .int (nI p)), (2, .int a)] [] B _
  generalize elv : ([(0, .ref 0), (1, .int (nI p)), (2, .int a)] : tm_L) = lv
  have l0 : lv.lookup 0 = some (.ref 0) := by rw [← elv]; rfl
  have l1 : lv.lookup 1 = some (.int (nI p)) := by rw [← elv]; rfl
  have l2 : lv.lookup 2 = some (.int a) := by rw [← elv]; rfl
  clear elv
  refine g_ild (pc' := 1) cd_Ho_taken rfl (Or.inr ⟨_, rfl, rfl, rfl⟩) l1 rfl ?_
  refine g_calli (pc' := 4) cd_Ho_taken rfl rfl rfl rfl rfl (tm_invS rfl rfl cd_Ho_isDevice rfl (Nat.le_of_ble_eq_true rfl)) (t_isDev hp ?_)
  show bm_G _ _ _ 4 _ [.int 1] B _
  refine g_if1 (t := 19) (pc' := 7) cd_Ho_taken rfl rfl rfl (fun c4 => ?_) (fun c4 => ?_)
  · exact absurd (show (1 : Int32) = 0 from c4) (by decide)
  · have c4 : ¬ (1 : Int32) = 0 := c4
    refine g_ald (pc' := 8) cd_Ho_taken rfl (Or.inr ⟨_, rfl, rfl, rfl⟩) l0 rfl rfl ?_
    refine g_fR (c := 11) (k := 3) (x := 11) (pc' := 11) cd_Ho_taken rfl rfl rfl rfl rfl (by decide) hH.1.1.1 hH.1.1.2 hH.1.2.1.2.2.2.1 ?_
    refine g_ild (pc' := 12) cd_Ho_taken rfl (Or.inr ⟨_, rfl, rfl, rfl⟩) l1 rfl ?_
    refine g_ild (pc' := 13) cd_Ho_taken rfl (Or.inr ⟨_, rfl, rfl, rfl⟩) l2 rfl ?_
    refine g_calli (pc' := 16) cd_Ho_taken rfl rfl rfl rfl rfl (tm_invV rfl rfl cd_Le_lastTaken rfl (Nat.le_of_ble_eq_true rfl) (by decide) hH.2.2.1.1.1.1 hH.2.2.1.1.1.2) (t_lastTaken hH.2.2.1 hp ?_)
    show bm_G _ _ _ 16 _ [.int (lg_last tc tl tf tg p a)] B _
    refine g_pure (pc' := 20) (st' := [.int (lg_last tc tl tf tg p a)]) cd_Ho_taken rfl rfl (fun _ _ => rfl) ?_
    exact g_reti cd_Ho_taken rfl ⟨_, rfl, kk⟩
set_option maxRecDepth 100000 in
theorem t_taken0 {sc : tm_X} {d : Nat} {B : bm_H} {F : Nat → Prop} {N S M ln : Nat} {T : List Tm} {dr : Nat} {K : Tm → Prop} {ca rm kc kl rk : Nat} {ws : List (Tm × Int32)} {wt : List Tm} {G : LG} {ids dir reg : Nat → Tm} {seen : List Tm} {π : Nat → Nat} {w : Nat → SW} {dev : Nat → DV} {sto : Nat → ST} {p a : Int32} {Q : Int32 → bm_H → Prop} (hC : CK B F N S M ln T dr K ca rm kc kl rk) (hH : RH B T ws wt G ids dir reg seen π w dev sto) (h : inR p 6 = false) (kk : Q (-1) B) : bm_Gi sc (d + 2) 160 [.ref 0, .int p, .int a] B Q := by
  show bm_G sc (d + 2) 160 0 [(0, .ref 0), (1, .int p), (2, .int a)] [] B _
  generalize elv : ([(0, .ref 0), (1, .int p), (2, .int a)] : tm_L) = lv
  have l0 : lv.lookup 0 = some (.ref 0) := by rw [← elv]; rfl
  have l1 : lv.lookup 1 = some (.int p) := by rw [← elv]; rfl
  have l2 : lv.lookup 2 = some (.int a) := by rw [← elv]; rfl
  clear elv
  refine g_ild (pc' := 1) cd_Ho_taken rfl (Or.inr ⟨_, rfl, rfl, rfl⟩) l1 rfl ?_
  refine g_calli (pc' := 4) cd_Ho_taken rfl rfl rfl rfl rfl (tm_invS rfl rfl cd_Ho_isDevice rfl (Nat.le_of_ble_eq_true rfl)) (t_notDev h ?_)
  show bm_G _ _ _ 4 _ [.int 0] B _
  refine g_if1 (t := 19) (pc' := 7) cd_Ho_taken rfl rfl rfl (fun c4 => ?_) (fun c4 => ?_)
  · have c4 : (0 : Int32) = 0 := c4
    refine g_k1 (v := (-1)) (pc' := 20) cd_Ho_taken rfl (by decide) rfl ?_
    exact g_reti cd_Ho_taken rfl ⟨_, rfl, kk⟩
  · exact absurd (show ¬ (0 : Int32) = 0 from c4) (by decide)
set_option maxRecDepth 100000 in
theorem t_device {sc : tm_X} {d : Nat} {B : bm_H} {F : Nat → Prop} {N S M ln : Nat} {T : List Tm} {dr : Nat} {K : Tm → Prop} {ca rm kc kl rk : Nat} {ws : List (Tm × Int32)} {wt : List Tm} {G : LG} {ids dir reg : Nat → Tm} {seen : List Tm} {π : Nat → Nat} {w : Nat → SW} {dev : Nat → DV} {sto : Nat → ST} {p : Nat} {a : Int32} {Q : Int32 → bm_H → Prop} (hC : CK B F N S M ln T dr K ca rm kc kl rk) (hH : RH B T ws wt G ids dir reg seen π w dev sto) (hp : p < 6) (kk : Q (dv_spec (dev p) (sto p) a) B) : bm_Gi sc (d + 2) 162 [.ref 0, .int (nI p), .int a] B Q := by
  have hst0 := hH.2.2.2.2.2.2 p hp
  have hW := hH.2.2.2.2.1.2.2.2.2 p (by omega)
  obtain ⟨p0, P, O, c, dn, eS⟩ : ∃ a1 a2 a3 a4 a5, sto p = (a1, a2, a3, a4, a5) := ⟨_, _, _, _, _, rfl⟩
  obtain ⟨id, K0, K1, on, lnu, se, me, eD⟩ : ∃ a1 a2 a3 a4 a5 a6 a7, dev p = (a1, a2, a3, a4, a5, a6, a7) := ⟨_, _, _, _, _, _, _, rfl⟩
  rw [eD] at hW
  have hst1 := hst0
  rw [eS] at hst1
  rw [eS, eD] at kk
  have h0T : T0 T := TI_T0 hC.1
  show bm_G sc (d + 2) 162 0 [(0, .ref 0), (1, .int (nI p)), (2, .int a)] [] B _
  generalize elv : ([(0, .ref 0), (1, .int (nI p)), (2, .int a)] : tm_L) = lv
  have l0 : lv.lookup 0 = some (.ref 0) := by rw [← elv]; rfl
  have l1 : lv.lookup 1 = some (.int (nI p)) := by rw [← elv]; rfl
  have l2 : lv.lookup 2 = some (.int a) := by rw [← elv]; rfl
  clear elv
  refine g_ild (pc' := 1) cd_Ho_device rfl (Or.inr ⟨_, rfl, rfl, rfl⟩) l1 rfl ?_
  refine g_calli (pc' := 4) cd_Ho_device rfl rfl rfl rfl rfl (tm_invS rfl rfl cd_Ho_isDevice rfl (Nat.le_of_ble_eq_true rfl)) (t_isDev hp ?_)
  show bm_G _ _ _ 4 _ [.int 1] B _
  refine g_if1 (t := 9) (pc' := 7) cd_Ho_device rfl rfl rfl (fun c4 => ?_) (fun c4 => ?_)
  · have c4 : ¬ (1 : Int32) = 0 := c4
    refine g_ald (pc' := 10) cd_Ho_device rfl (Or.inr ⟨_, rfl, rfl, rfl⟩) l0 rfl rfl ?_
    refine g_fR (c := 11) (k := 4) (x := 19) (pc' := 13) cd_Ho_device rfl rfl rfl rfl rfl (by decide) hH.1.1.1 hH.1.1.2 hH.1.2.1.2.2.2.2.1 ?_
    refine g_ild (pc' := 14) cd_Ho_device rfl (Or.inr ⟨_, rfl, rfl, rfl⟩) l1 rfl ?_
    refine g_aR (t := 2) (x := (rb (π p))) (pc' := 15) cd_Ho_device rfl rfl hH.1.2.2.1.1 hH.1.2.2.1.2.1 (by decide) rfl rfl (by rw [show bm_AL B 19 = 6 from hH.1.2.2.1.2.2]; exact vp_in_nI hp (by decide)) (by rw [nI_clamp (by omega)]; exact hH.2.2.2.2.1.1 p hp) ?_
    refine g_ast (pc' := 16) cd_Ho_device rfl (Or.inr ⟨_, rfl, rfl, rfl⟩) rfl (by decide) rfl (fun lv el => ?_)
    have l0 := tm_lk el l0 rfl (by decide)
    have l1 := tm_lk el l1 rfl (by decide)
    have l2 := tm_lk el l2 rfl (by decide)
    have l3 : lv.lookup 3 = some (.ref ((rb (π p)))) := tm_lks el
    clear el
    refine g_ald (pc' := 17) cd_Ho_device rfl (Or.inr ⟨_, rfl, rfl, rfl⟩) l0 rfl rfl ?_
    refine g_fR (c := 11) (k := 5) (x := 20) (pc' := 20) cd_Ho_device rfl rfl rfl rfl rfl (by decide) hH.1.1.1 hH.1.1.2 hH.1.2.1.2.2.2.2.2.1 ?_
    refine g_ild (pc' := 21) cd_Ho_device rfl (Or.inr ⟨_, rfl, rfl, rfl⟩) l1 rfl ?_
    refine g_aR (t := 3) (x := (431 + 209 * p)) (pc' := 22) cd_Ho_device rfl rfl hH.1.2.2.2.1.1 hH.1.2.2.2.1.2.1 (by decide) rfl rfl (by rw [show bm_AL B 20 = 6 from hH.1.2.2.2.1.2.2]; exact vp_in_nI hp (by decide)) (by rw [nI_clamp (by omega)]; exact hH.2.2.2.2.2.1 p hp) ?_
    refine g_ast (pc' := 24) cd_Ho_device rfl (Or.inl ⟨rfl, rfl⟩) rfl (by decide) rfl (fun lv el => ?_)
    have l0 := tm_lk el l0 rfl (by decide)
    have l1 := tm_lk el l1 rfl (by decide)
    have l2 := tm_lk el l2 rfl (by decide)
    have l3 := tm_lk el l3 rfl (by decide)
    have l4 : lv.lookup 4 = some (.ref ((431 + 209 * p))) := tm_lks el
    clear el
    refine g_ild (pc' := 25) cd_Ho_device rfl (Or.inr ⟨_, rfl, rfl, rfl⟩) l2 rfl ?_
    by_cases s25_0 : a = 0
    · skip
      refine g_swk (pc' := 72) s25_0 cd_Ho_device rfl rfl (fun _ _ => rfl) ?_
      refine g_ald (pc' := 73) cd_Ho_device rfl (Or.inr ⟨_, rfl, rfl, rfl⟩) l3 rfl rfl ?_
      refine g_fR (c := 0) (k := 0) (x := (rb (π p) + 1)) (pc' := 76) cd_Ho_device rfl rfl rfl rfl rfl (by decide) hW.1.1.1 hW.1.1.2 hW.1.2.1.1 ?_
      refine g_k1 (v := 0) (pc' := 77) cd_Ho_device rfl (by decide) rfl ?_
      refine g_aR (t := 4) (x := (pA (rb (π p)) (w p).1 0)) (pc' := 78) cd_Ho_device rfl rfl hW.1.2.2.1.1 hW.1.2.2.1.2.1 (by decide) rfl rfl (by rw [show bm_AL B (rb (π p) + 1) = 2 from hW.1.2.2.1.2.2]; exact vp_in_nI (n := 0) (by decide) (by decide)) hW.2.2.1.1.1 ?_
      refine g_fI (c := 6) (k := 3) (x := K0.2.1) (pc' := 81) cd_Ho_device rfl rfl rfl rfl rfl (by decide) hW.2.2.1.2.1.1.1.1 hW.2.2.1.2.1.1.1.2 hW.2.2.1.2.1.2.1.2.1 ?_
      exact g_reti cd_Ho_device rfl ⟨_, rfl, (bm_eq kk (by unfold dv_spec; dsimp only; rw [if_pos s25_0]))⟩
    by_cases s25_1 : a = 1
    · skip
      refine g_swk (pc' := 82) s25_1 cd_Ho_device rfl rfl (fun _ _ => rfl) ?_
      refine g_ald (pc' := 83) cd_Ho_device rfl (Or.inr ⟨_, rfl, rfl, rfl⟩) l3 rfl rfl ?_
      refine g_fR (c := 0) (k := 0) (x := (rb (π p) + 1)) (pc' := 86) cd_Ho_device rfl rfl rfl rfl rfl (by decide) hW.1.1.1 hW.1.1.2 hW.1.2.1.1 ?_
      refine g_k1 (v := 1) (pc' := 87) cd_Ho_device rfl (by decide) rfl ?_
      refine g_aR (t := 4) (x := (pA (rb (π p)) (w p).1 1)) (pc' := 88) cd_Ho_device rfl rfl hW.1.2.2.1.1 hW.1.2.2.1.2.1 (by decide) rfl rfl (by rw [show bm_AL B (rb (π p) + 1) = 2 from hW.1.2.2.1.2.2]; exact vp_in_nI (n := 1) (by decide) (by decide)) hW.2.2.1.1.2 ?_
      refine g_fI (c := 6) (k := 3) (x := K1.2.1) (pc' := 91) cd_Ho_device rfl rfl rfl rfl rfl (by decide) hW.2.2.1.2.2.1.1.1 hW.2.2.1.2.2.1.1.2 hW.2.2.1.2.2.2.1.2.1 ?_
      exact g_reti cd_Ho_device rfl ⟨_, rfl, (bm_eq kk (by unfold dv_spec; dsimp only; rw [if_neg (by rw [s25_1]; decide), if_pos s25_1]))⟩
    by_cases s25_2 : a = 2
    · skip
      refine g_swk (pc' := 92) s25_2 cd_Ho_device rfl rfl (fun _ _ => rfl) ?_
      refine g_ald (pc' := 93) cd_Ho_device rfl (Or.inr ⟨_, rfl, rfl, rfl⟩) l3 rfl rfl ?_
      refine g_fI (c := 0) (k := 7) (x := nI on.length) (pc' := 96) cd_Ho_device rfl rfl rfl rfl rfl (by decide) hW.1.1.1 hW.1.1.2 hW.2.2.2.1.1.1 ?_
      exact g_reti cd_Ho_device rfl ⟨_, rfl, (bm_eq kk (by unfold dv_spec; dsimp only; rw [if_neg (by rw [s25_2]; decide), if_neg (by rw [s25_2]; decide), if_pos s25_2]))⟩
    by_cases s25_3 : a = 3
    · skip
      refine g_swk (pc' := 97) s25_3 cd_Ho_device rfl rfl (fun _ _ => rfl) ?_
      refine g_ald (pc' := 98) cd_Ho_device rfl (Or.inr ⟨_, rfl, rfl, rfl⟩) l3 rfl rfl ?_
      refine g_fR (c := 0) (k := 0) (x := (rb (π p) + 1)) (pc' := 101) cd_Ho_device rfl rfl rfl rfl rfl (by decide) hW.1.1.1 hW.1.1.2 hW.1.2.1.1 ?_
      refine g_k1 (v := 0) (pc' := 102) cd_Ho_device rfl (by decide) rfl ?_
      refine g_aR (t := 4) (x := (pA (rb (π p)) (w p).1 0)) (pc' := 103) cd_Ho_device rfl rfl hW.1.2.2.1.1 hW.1.2.2.1.2.1 (by decide) rfl rfl (by rw [show bm_AL B (rb (π p) + 1) = 2 from hW.1.2.2.1.2.2]; exact vp_in_nI (n := 0) (by decide) (by decide)) hW.2.2.1.1.1 ?_
      refine g_fI (c := 6) (k := 1) (x := nI K0.2.2.length) (pc' := 106) cd_Ho_device rfl rfl rfl rfl rfl (by decide) hW.2.2.1.2.1.1.1.1 hW.2.2.1.2.1.1.1.2 hW.2.2.1.2.1.2.1.2.2.1 ?_
      exact g_reti cd_Ho_device rfl ⟨_, rfl, (bm_eq kk (by unfold dv_spec; dsimp only; rw [if_neg (by rw [s25_3]; decide), if_neg (by rw [s25_3]; decide), if_neg (by rw [s25_3]; decide), if_pos s25_3]))⟩
    by_cases s25_4 : a = 4
    · skip
      refine g_swk (pc' := 107) s25_4 cd_Ho_device rfl rfl (fun _ _ => rfl) ?_
      refine g_ald (pc' := 109) cd_Ho_device rfl (Or.inl ⟨rfl, rfl⟩) l4 rfl rfl ?_
      refine g_calli (pc' := 112) cd_Ho_device rfl rfl rfl rfl rfl (tm_invV rfl rfl cd_St_entries rfl (Nat.le_of_ble_eq_true rfl) (by decide) (RSt_K hst0).1 (RSt_K hst0).2) (t_entries hst1 ?_)
      show bm_G _ _ _ 112 _ [.int (nI P.length)] B _
      exact g_reti cd_Ho_device rfl ⟨_, rfl, (bm_eq kk (by unfold dv_spec; dsimp only; rw [if_neg (by rw [s25_4]; decide), if_neg (by rw [s25_4]; decide), if_neg (by rw [s25_4]; decide), if_neg (by rw [s25_4]; decide), if_pos s25_4]))⟩
    by_cases s25_5 : a = 5
    · skip
      refine g_swk (pc' := 113) s25_5 cd_Ho_device rfl rfl (fun _ _ => rfl) ?_
      refine g_ald (pc' := 115) cd_Ho_device rfl (Or.inl ⟨rfl, rfl⟩) l4 rfl rfl ?_
      refine g_calli (pc' := 118) cd_Ho_device rfl rfl rfl rfl rfl (tm_invV rfl rfl cd_St_termsLying rfl (Nat.le_of_ble_eq_true rfl) (by decide) (RSt_K hst0).1 (RSt_K hst0).2) (t_lying h0T hst1 ?_)
      show bm_G _ _ _ 118 _ [.int (nI (st_terms (p0, P, O, c, dn)).length)] B _
      exact g_reti cd_Ho_device rfl ⟨_, rfl, (bm_eq kk (by unfold dv_spec; dsimp only; rw [if_neg (by rw [s25_5]; decide), if_neg (by rw [s25_5]; decide), if_neg (by rw [s25_5]; decide), if_neg (by rw [s25_5]; decide), if_neg (by rw [s25_5]; decide), if_pos s25_5]))⟩
    by_cases s25_6 : a = 6
    · skip
      refine g_swk (pc' := 119) s25_6 cd_Ho_device rfl rfl (fun _ _ => rfl) ?_
      refine g_ald (pc' := 121) cd_Ho_device rfl (Or.inl ⟨rfl, rfl⟩) l4 rfl rfl ?_
      refine g_fI (c := 8) (k := 4) (x := bz p0) (pc' := 124) cd_Ho_device rfl rfl rfl rfl rfl (by decide) (RSt_K hst0).1 (RSt_K hst0).2 hst1.2.1.1 ?_
      exact g_reti cd_Ho_device rfl ⟨_, rfl, (bm_eq kk (by unfold dv_spec; dsimp only; rw [if_neg (by rw [s25_6]; decide), if_neg (by rw [s25_6]; decide), if_neg (by rw [s25_6]; decide), if_neg (by rw [s25_6]; decide), if_neg (by rw [s25_6]; decide), if_neg (by rw [s25_6]; decide), if_pos s25_6]))⟩
    by_cases s25_7 : a = 7
    · skip
      refine g_swk (pc' := 125) s25_7 cd_Ho_device rfl rfl (fun _ _ => rfl) ?_
      refine g_ald (pc' := 127) cd_Ho_device rfl (Or.inl ⟨rfl, rfl⟩) l4 rfl rfl ?_
      refine g_fI (c := 8) (k := 6) (x := bz dn) (pc' := 130) cd_Ho_device rfl rfl rfl rfl rfl (by decide) (RSt_K hst0).1 (RSt_K hst0).2 hst1.2.1.2.2.1 ?_
      refine g_if1 (t := 137) (pc' := 133) cd_Ho_device rfl rfl rfl (fun c130 => ?_) (fun c130 => ?_)
      · have c130 : dn = false := bz_f c130
        refine g_k1 (v := 0) (pc' := 138) cd_Ho_device rfl (by decide) rfl ?_
        exact g_reti cd_Ho_device rfl ⟨_, rfl, (bm_eq kk (by unfold dv_spec; dsimp only; rw [if_neg (by rw [s25_7]; decide), if_neg (by rw [s25_7]; decide), if_neg (by rw [s25_7]; decide), if_neg (by rw [s25_7]; decide), if_neg (by rw [s25_7]; decide), if_neg (by rw [s25_7]; decide), if_neg (by rw [s25_7]; decide), if_pos s25_7]; rw [c130]; rfl))⟩
      · have c130 : dn = true := bz_t c130
        refine g_k1 (v := 1) (pc' := 134) cd_Ho_device rfl (by decide) rfl ?_
        refine g_pure (pc' := 138) (st' := [.int 1]) cd_Ho_device rfl rfl (fun _ _ => rfl) ?_
        exact g_reti cd_Ho_device rfl ⟨_, rfl, (bm_eq kk (by unfold dv_spec; dsimp only; rw [if_neg (by rw [s25_7]; decide), if_neg (by rw [s25_7]; decide), if_neg (by rw [s25_7]; decide), if_neg (by rw [s25_7]; decide), if_neg (by rw [s25_7]; decide), if_neg (by rw [s25_7]; decide), if_neg (by rw [s25_7]; decide), if_pos s25_7]; rw [c130]; rfl))⟩
    refine g_swd (t := 139) cd_Ho_device rfl rfl (by have := i32_ne (n := 0) (by decide) s25_0; have := i32_ne (n := 1) (by decide) s25_1; have := i32_ne (n := 2) (by decide) s25_2; have := i32_ne (n := 3) (by decide) s25_3; have := i32_ne (n := 4) (by decide) s25_4; have := i32_ne (n := 5) (by decide) s25_5; have := i32_ne (n := 6) (by decide) s25_6; have := i32_ne (n := 7) (by decide) s25_7; omega) ?_
    refine g_k1 (v := (-1)) (pc' := 140) cd_Ho_device rfl (by decide) rfl ?_
    exact g_reti cd_Ho_device rfl ⟨_, rfl, (bm_eq kk (by unfold dv_spec; dsimp only; rw [if_neg s25_0, if_neg s25_1, if_neg s25_2, if_neg s25_3, if_neg s25_4, if_neg s25_5, if_neg s25_6, if_neg s25_7]))⟩
  · exact absurd (show ¬ (¬ (1 : Int32) = 0) from c4) (by decide)
set_option maxRecDepth 100000 in
theorem t_device0 {sc : tm_X} {d : Nat} {B : bm_H} {F : Nat → Prop} {N S M ln : Nat} {T : List Tm} {dr : Nat} {K : Tm → Prop} {ca rm kc kl rk : Nat} {ws : List (Tm × Int32)} {wt : List Tm} {G : LG} {ids dir reg : Nat → Tm} {seen : List Tm} {π : Nat → Nat} {w : Nat → SW} {dev : Nat → DV} {sto : Nat → ST} {p a : Int32} {Q : Int32 → bm_H → Prop} (hC : CK B F N S M ln T dr K ca rm kc kl rk) (hH : RH B T ws wt G ids dir reg seen π w dev sto) (h : inR p 6 = false) (kk : Q (-1) B) : bm_Gi sc (d + 2) 162 [.ref 0, .int p, .int a] B Q := by
  show bm_G sc (d + 2) 162 0 [(0, .ref 0), (1, .int p), (2, .int a)] [] B _
  generalize elv : ([(0, .ref 0), (1, .int p), (2, .int a)] : tm_L) = lv
  have l0 : lv.lookup 0 = some (.ref 0) := by rw [← elv]; rfl
  have l1 : lv.lookup 1 = some (.int p) := by rw [← elv]; rfl
  have l2 : lv.lookup 2 = some (.int a) := by rw [← elv]; rfl
  clear elv
  refine g_ild (pc' := 1) cd_Ho_device rfl (Or.inr ⟨_, rfl, rfl, rfl⟩) l1 rfl ?_
  refine g_calli (pc' := 4) cd_Ho_device rfl rfl rfl rfl rfl (tm_invS rfl rfl cd_Ho_isDevice rfl (Nat.le_of_ble_eq_true rfl)) (t_notDev h ?_)
  show bm_G _ _ _ 4 _ [.int 0] B _
  refine g_if1 (t := 9) (pc' := 7) cd_Ho_device rfl rfl rfl (fun c4 => ?_) (fun c4 => ?_)
  · exact absurd (show ¬ (0 : Int32) = 0 from c4) (by decide)
  · have c4 : (0 : Int32) = 0 := Classical.not_not.mp c4
    refine g_k1 (v := (-1)) (pc' := 8) cd_Ho_device rfl (by decide) rfl ?_
    exact g_reti cd_Ho_device rfl ⟨_, rfl, kk⟩
