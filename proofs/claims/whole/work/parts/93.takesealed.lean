/-! A sealed term comes -/
def ss_nb (S : SS) : SS := match S with
  | (I, ba, ro, mi, se, n, b, _, bp, bo, on) => (I, ba, ro, mi, se, n, b, false, bp, bo, on)
noncomputable def ss_key (S : SS) (H : Tm) : Option (Tm × SS) := match lf_take (pt H 1) (nu H 2) S.1.2.2.2 with
  | some (K, l) => some (K, ((S.1.1, S.1.2.1, S.1.2.2.1, l), S.2))
  | none => match ss_follow S (pt H 1) (nu H 3) with
    | none => none
    | some S1 => (ib_next S1.1 (nu H 2)).map fun r => (r.1, (r.2, S1.2))
noncomputable def ss_find (l : List SS) (b : Tm) : Option (Nat × SS) := match l with
  | [] => none
  | S :: r => cif (S.2.1 = b) (some (0, S)) (match r with
    | [] => none
    | S' :: _ => cif (S'.2.1 = b) (some (1, S')) none)
theorem ss_find_no {l : List SS} {b : Tm} (h : ∀ (k : Nat) (S : SS), l[k]? = some S → S.2.1 ≠ b) : ss_find l b = none := by
  rcases l with _ | ⟨S, _ | ⟨S', r⟩⟩
  · rfl
  · unfold ss_find; dsimp only; rw [cif_f (h 0 S rfl)]
  · unfold ss_find; dsimp only; rw [cif_f (h 0 S rfl), cif_f (h 1 S' rfl)]
theorem ss_find_at {l : List SS} {b : Tm} {k : Nat} {S : SS} (h2 : l.length ≤ 2) (h : l[k]? = some S) (hb : S.2.1 = b) (hn : ∀ (j : Nat) (S' : SS), j < k → l[j]? = some S' → S'.2.1 ≠ b) : ss_find l b = some (k, S) := by
  rcases len2 h2 with rfl | ⟨a, rfl⟩ | ⟨a, c, rfl⟩
  · simp at h
  · rcases k with _ | k
    · cases h; unfold ss_find; dsimp only; rw [cif_t hb]
    · cases h
  · rcases k with _ | _ | k
    · cases h; unfold ss_find; dsimp only; rw [cif_t hb]
    · cases h; unfold ss_find; dsimp only; rw [cif_f (hn 0 a (by omega) rfl), cif_t hb]
    · cases h
/-- the answer, the device then, by a one-time key -/
noncomputable def ts_go (D : DV) (p : Nat) (A : Tm) (k : Nat) (S : SS) : Int32 × DV × Bool := match D with
  | (id, K0, K1, on, lnu, se, me) => match ss_key S (pt A 1) with
    | none => (-13, D, false)
    | some (K, S1) => cif (K = pt A 0) (if Tgood 4 (pt A 2) = true then (1, (id, K0, K1, on, lnu, fset se p (ss_nb S1 :: (se p).eraseIdx k), me), S1.2.2.2.2.2.2.2.2.2.2) else if Tgood 5 (pt A 2) = true then (2, (id, K0, K1, on, lnu, fset se p (ss_nb S1 :: (se p).eraseIdx k), fset me (nu (pt A 2) 0).toNatClampNeg (mm_acc (me (nu (pt A 2) 0).toNatClampNeg) p (pt A 2) S1.2.2.2.2.2.2.2.2.2.2)), false) else (-15, D, false)) (-14, D, false)
noncomputable def ts_spec (D : DV) (ids : Nat → Tm) (q p : Nat) (A : Tm) : Int32 × DV × Bool := if nu (pt A 1) 1 = nI q ∧ p ≠ q then (match ss_find (D.2.2.2.2.2.1 p) (pt (pt A 1) 0) with
    | some (k, S) => ts_go D p A k S
    | none => match as_spec D ids p (pt A 1) with
      | none => (-12, D, false)
      | some D' => match D'.2.2.2.2.2.1 p with
        | S :: _ => ts_go D' p A 0 S
        | [] => (-12, D, false)) else (-11, D, false)
theorem RSe_nb {B : bm_H} {T : List Tm} {s : Nat} {S : SS} (h : RSe B T s S) : RSe (bm_putI B 7 7 s 0) T s (ss_nb S) := by
  obtain ⟨I, ba, ro, mi, se, n, b, br, bp, bo, on⟩ := S
  obtain ⟨h1, h4, ⟨t1, t2, t3, t4⟩, ⟨i1, i2⟩, -, i5⟩ := h
  exact ⟨h1, RIn_fr h4 (fr_putI B 7 7 s 0) (by omega) (by omega) (List.prefix_refl T), ⟨t1, t2, t3, t4⟩, ⟨i1, i2⟩, ⟨if_pos ⟨rfl, rfl, rfl⟩, fun q => by cases q⟩, i5⟩
theorem RSe_on {B : bm_H} {T : List Tm} {s : Nat} {S : SS} (h : RSe B T s S) : bm_FI B 7 10 s = bz S.2.2.2.2.2.2.2.2.2.2 := by
  obtain ⟨I, ba, ro, mi, se, n, b, br, bp, bo, on⟩ := S
  exact h.2.2.2.2.2
theorem RSe_nbon {B : bm_H} {T : List Tm} {s : Nat} {S : SS} (h : RSe B T s (ss_nb S)) : bm_FI B 7 10 s = bz S.2.2.2.2.2.2.2.2.2.2 := by
  obtain ⟨I, ba, ro, mi, se, n, b, br, bp, bo, on⟩ := S
  exact h.2.2.2.2.2
theorem RSe_in {B : bm_H} {T : List Tm} {s : Nat} {S : SS} (h : RSe B T s S) : RIn B T (s + 1) S.1 := by
  obtain ⟨I, ba, ro, mi, se, n, b, br, bp, bo, on⟩ := S
  exact h.2.1
theorem era_set {α : Type} (a : α) : ∀ (l : List α) (k : Nat), (l.set k a).eraseIdx k = l.eraseIdx k
  | [], k => by simp
  | x :: l, 0 => rfl
  | x :: l, k + 1 => by simp [era_set a l k]
theorem t_putFirstH {sc : tm_X} {d : Nat} {B : bm_H} {F : Nat → Prop} {N S M ln : Nat} {T : List Tm} {dr : Nat} {K : Tm → Prop} {ca rm kc kl rk : Nat} {ws : List (Tm × Int32)} {wt : List Tm} {G : LG} {ids dir reg : Nat → Tm} {seen : List Tm} {π : Nat → Nat} {w : Nat → SW} {dev : Nat → DV} {sto : Nat → ST} {id : Tm} {K0 K1 : PK} {on : List (Tm × Int32)} {lnu : Int32} {se : Nat → List SS} {me : Nat → MM} {p k : Nat} {S0 : SS} {Q : bm_H → Prop} (hC : CK B F N S M ln T dr K ca rm kc kl rk) (hH : RH B T ws wt G ids dir reg seen π w dev sto) (hp : p < 6) (eD : dev 6 = (id, K0, K1, on, lnu, se, me)) (hk : (se p)[k]? = some S0) (kk : ∀ B' w', CK B' F N S M ln T dr K ca rm kc kl rk → RH B' T ws wt G ids dir reg seen π (fset w 6 w') (fset dev 6 (id, K0, K1, on, lnu, fset se p (S0 :: (se p).eraseIdx k), me)) sto → RSe B' T (sA (rb (π 6)) (w 6).2.1 p k) S0 → fz (dxs 1 ca 3 4 (rb (π 6))) B B' → Q B') : bm_Gv sc d 80 [.ref (rb (π 6)), .int (nI p), .ref (sA (rb (π 6)) (w 6).2.1 p k)] B Q := by
  have hV := hH.2.2.2.2.1
  have r6 := rb_in (hV.2.2.1 6 (by decide))
  have hW := hV.2.2.2.2 6 (by decide)
  rw [eD] at hW
  have hRS := hW.2.2.2.2.1 p hp
  have hg := RSs_get hRS hk
  have hca := hC.2.2.2.2.2.1
  have hl := hRS.1.2
  have hk2 : k = 0 ∨ k = 1 := by omega
  have i0 := sA_in (rb (π 6)) (w 6).2.1 hp (k := 0) (by decide)
  have i1 := sA_in (rb (π 6)) (w 6).2.1 hp (k := 1) (by decide)
  have i2 := sA_01 (rb (π 6)) (w 6).2.1 p
  rcases hk2 with rfl | rfl
  · refine t_putFirst0 hW.1 hp hg.2.2 (kk B (w 6) hC ?_ hg.2.1 (fz_rfl _ B))
    have e : S0 :: (se p).eraseIdx 0 = se p := by
      cases h : se p with
      | nil => rw [h] at hk; cases hk
      | cons a l => rw [h] at hk; cases hk; rfl
    rw [e, fset_eta, fset_eta, ← eD, fset_eta]
    exact hH
  · obtain ⟨a, c, e⟩ : ∃ a c, se p = [a, c] := by
      rcases len2 hl with h | ⟨a, h⟩ | ⟨a, c, h⟩
      · rw [h] at hk; cases hk
      · rw [h] at hk; cases hk
      · exact ⟨a, c, h⟩
    have ec : c = S0 := by rw [e] at hk; cases hk; rfl
    subst ec
    have hg0 := RSs_get (k := 0) (S := a) hRS (by rw [e]; rfl)
    refine t_putFirst1 hW.1 hp hg0.2.2 (RSe_S hg0.2.1).1 (RSe_S hg.2.1).1 (by omega) (fun B' hz r0 xk9 rj => ?_)
    have hfl := RSs_flip (n := 2) hW.1 hp hW.2.2.2.2.1 (fr_mono (fun y q => Or.inr q) hz.1) r0 xk9 rj (by rw [fr_AI hz.1 hW.1.2.2.2.2.2.1.1 (by omega)]; rw [hRS.1.1, e]; rfl) (fun j hj => by rw [fr_AI hz.1 hW.1.2.2.2.2.2.1.1 (by omega)]) (Nat.le_refl 2) hg0.2.1 hg.2.1
    have hD := RDe_sess hW hz.1 (fun y a b c q => by omega) (List.prefix_refl T) hfl
    have hzT : fz (dxs 1 ca 3 4 (rb (π 6))) B B' := fz_mono (fun y q => Or.inr (by omega)) hz
    have hT1 := TI_fr hC.1 hz.1 (by omega) (by omega) (by omega)
    have hH1 := RH_work hC hH hzT (List.prefix_refl T) hD
    refine kk B' ((w 6).1, fset (w 6).2.1 p (!(w 6).2.1 p), (w 6).2.2) (CK_work hC hH hT1 hzT (List.prefix_refl T)) ?_ (RSe_fr hg.2.1 hz.1 (by omega) (by omega) (by omega) (List.prefix_refl T)) hzT
    rw [e]
    exact hH1
set_option maxRecDepth 100000 in
theorem l_tsEnd {sc : tm_X} {d : Nat} {B : bm_H} {F : Nat → Prop} {N S M ln : Nat} {T : List Tm} {dr : Nat} {K : Tm → Prop} {ca rm kc kl rk : Nat} {ws : List (Tm × Int32)} {wt : List Tm} {L : List LT} {bd ll tc tl tf tg : Nat → Int32} {cf cg : Int32} {ct : Tm} {co : Bool} {li fo db : Int32} {ids dir reg : Nat → Tm} {seen : List Tm} {π : Nat → Nat} {w : Nat → SW} {dev : Nat → DV} {sto : Nat → ST} {id : Tm} {K0 K1 : PK} {on : List (Tm × Int32)} {lnu : Int32} {se : Nat → List SS} {me : Nat → MM} {p k : Nat} {x xk : Int32} {A Kt : Tm} {S1 : SS} {Q : Int32 → bm_H → Prop} (hC : CK B F N S M ln T dr K ca rm kc kl rk) (hH : RH B T ws wt (L, bd, ll, tc, tl, tf, tg, cf, cg, ct, co, li, fo, db) ids dir reg seen π w dev sto) (hp : p < 6) (eD : dev 6 = (id, K0, K1, on, lnu, se, me)) (hk : (se p)[k]? = some S1) (hx : tv T x A) (tk : tv T xk Kt) (kk14 : Kt ≠ pt A 0 → Q (-14) B) (kk1 : ∀ B' w', Kt = pt A 0 → Tgood 4 (pt A 2) = true → CK B' F N S M ln T dr K ca rm kc kl rk → RH B' T ws wt (L, bd, ll, tc, tl, tf, tg, nI p, -1, pt (pt A 2) 0, S1.2.2.2.2.2.2.2.2.2.2, li, fo, db) ids dir reg seen π (fset w 6 w') (fset dev 6 (id, K0, K1, on, lnu, (fset se p (ss_nb S1 :: (se p).eraseIdx k)), me)) sto → fr (fun y => ¬ F y) B B' → Q 1 B') (kk2 : ∀ B' g w', Kt = pt A 0 → Tgood 4 (pt A 2) = false → Tgood 5 (pt A 2) = true → g < 4 → nu (pt A 2) 0 = nI g → CK B' F N S M ln T dr K ca rm kc kl rk → RH B' T ws wt (L, bd, ll, tc, tl, tf, tg, cf, cg, ct, co, li, fo, db) ids dir reg seen π (fset w 6 w') (fset dev 6 (id, K0, K1, on, lnu, (fset se p (ss_nb S1 :: (se p).eraseIdx k)), fset me g (mm_acc (me g) p (pt A 2) S1.2.2.2.2.2.2.2.2.2.2))) sto → fr (fun y => ¬ F y) B B' → Q 2 B') (kk15 : ∀ B' w', Kt = pt A 0 → Tgood 4 (pt A 2) = false → Tgood 5 (pt A 2) = false → CK B' F N S M ln T dr K ca rm kc kl rk → RH B' T ws wt (L, bd, ll, tc, tl, tf, tg, cf, cg, ct, co, li, fo, db) ids dir reg seen π (fset w 6 w') (fset dev 6 (id, K0, K1, on, lnu, (fset se p (ss_nb S1 :: (se p).eraseIdx k)), me)) sto → fr (fun y => ¬ F y) B B' → Q (-15) B') : ∀ lv : tm_L, lv.lookup 0 = some (.ref 0) → lv.lookup 2 = some (.int x) → lv.lookup 4 = some (.int (nI p)) → lv.lookup 5 = some (.ref (sA (rb (π 6)) (w 6).2.1 p k)) → lv.lookup 7 = some (.int xk) → bm_G sc (d + 4) 107 159 lv [] B (fun r B' => ∃ v, r = some (.int v) ∧ Q v B') := by
  intro lv l0 l2 l4 l5 l7
  obtain ⟨hs1, hs2, hs3, hs4, hs5, hs6⟩ := ses_at hC hH hp eD hk
  have hca := hC.2.2.2.2.2.1
  refine g_ild (pc' := 161) cd_Ho_takeSealed rfl (Or.inl ⟨rfl, rfl⟩) l7 rfl ?_
  refine g_ald (pc' := 162) cd_Ho_takeSealed rfl (Or.inr ⟨_, rfl, rfl, rfl⟩) l0 rfl rfl ?_
  refine g_fR (c := 11) (k := 0) (x := 1) (pc' := 165) cd_Ho_takeSealed rfl rfl rfl rfl rfl (by decide) hH.1.1.1 hH.1.1.2 hH.1.2.1.1 ?_
  refine g_ild (pc' := 166) cd_Ho_takeSealed rfl (Or.inr ⟨_, rfl, rfl, rfl⟩) l2 rfl ?_
  refine g_k1 (v := 0) (pc' := 167) cd_Ho_takeSealed rfl (by decide) rfl ?_
  refine g_calli (pc' := 170) cd_Ho_takeSealed rfl rfl rfl rfl rfl (tm_invV rfl rfl cd_Te_partOf rfl (Nat.le_of_ble_eq_true rfl) (by decide) hC.1.1.1.1 hC.1.1.1.2) (t_partOf (i := 0) hC.1 hx (by decide) (fun r1 ht1 => ?_))
  show bm_G _ _ _ 170 _ [.int r1, .int xk] B _
  refine g_if2 (t := 176) (pc' := 173) cd_Ho_takeSealed rfl rfl rfl (fun c170 => ?_) (fun c170 => ?_)
  · have c170 : xk = r1 := c170
    refine g_ald (pc' := 178) cd_Ho_takeSealed rfl (Or.inl ⟨rfl, rfl⟩) l5 rfl rfl ?_
    refine g_k1 (v := 0) (pc' := 179) cd_Ho_takeSealed rfl (by decide) rfl ?_
    refine g_putI (c := 7) (k := 7) (pc' := 182) cd_Ho_takeSealed rfl rfl rfl rfl (by decide) (Or.inl rfl) rfl (by decide) (RSe_S hs1).1.1 (RSe_S hs1).1.2 ?_
    have P2 : bm_FI (bm_putI B 7 7 (sA (rb (π 6)) (w 6).2.1 p k) 0) 7 7 (sA (rb (π 6)) (w 6).2.1 p k) = 0 := if_pos ⟨rfl, rfl, rfl⟩
    obtain ⟨B1, eB1⟩ : ∃ Bx, Bx = bm_putI B 7 7 (sA (rb (π 6)) (w 6).2.1 p k) 0 := ⟨_, rfl⟩
    have hfp : fr (fun y => y = (sA (rb (π 6)) (w 6).2.1 p k)) B B1 := eB1 ▸ fr_putI B 7 7 (sA (rb (π 6)) (w 6).2.1 p k) 0
    have hn1 : bm_n B1 = bm_n B := by rw [eB1]; rfl
    have hn2 : bm_sl B1 = bm_sl B := by rw [eB1]; rfl
    have hR1 : RSe B1 T (sA (rb (π 6)) (w 6).2.1 p k) (ss_nb S1) := eB1 ▸ RSe_nb hs1
    rw [← eB1]
    clear eB1
    obtain ⟨hC1, hH1, hz1⟩ := RH_ses hC hH hp eD hk (TI_fr hC.1 hfp (by omega) (by omega) (by omega)) ⟨fr_mono (fun y q => Or.inr (Or.inl q)) hfp, hn1, hn2⟩ (List.prefix_refl T) hR1
    have eK : Kt = pt A 0 := (TI_eq hC.1 tk ht1).mp c170
    refine g_ald (pc' := 183) cd_Ho_takeSealed rfl (Or.inr ⟨_, rfl, rfl, rfl⟩) l0 rfl rfl ?_
    refine g_fR (c := 11) (k := 11) (x := (rb (π 6))) (pc' := 186) cd_Ho_takeSealed rfl rfl rfl rfl rfl (by decide) hH1.1.1.1 hH1.1.1.2 hH1.2.2.2.2.1.2.1 ?_
    refine g_ild (pc' := 188) cd_Ho_takeSealed rfl (Or.inl ⟨rfl, rfl⟩) l4 rfl ?_
    refine g_ald (pc' := 190) cd_Ho_takeSealed rfl (Or.inl ⟨rfl, rfl⟩) l5 rfl rfl ?_
    refine g_callv (pc' := 193) cd_Ho_takeSealed rfl rfl rfl rfl rfl (tm_invV rfl rfl cd_De_putFirst rfl (Nat.le_of_ble_eq_true rfl) (by decide) (RDe_K (hH1.2.2.2.2.1.2.2.2.2 6 (by decide))).1 (RDe_K (hH1.2.2.2.2.1.2.2.2.2 6 (by decide))).2) (t_putFirstH hC1 hH1 hp (fset_same _ _ _) (show ((fset se p ((se p).set k (ss_nb S1))) p)[k]? = some (ss_nb S1) by rw [fset_same]; exact List.getElem?_set_self (List.getElem?_eq_some_iff.mp hk).1) (fun B2 w2 hC2 hH2 hR2 hz2 => ?_))
    rw [fset_same, fset_fset, fset_fset, era_set] at hH2
    show bm_G _ _ _ 193 _ [] B2 _
    refine g_ald (pc' := 194) cd_Ho_takeSealed rfl (Or.inr ⟨_, rfl, rfl, rfl⟩) l0 rfl rfl ?_
    refine g_ild (pc' := 196) cd_Ho_takeSealed rfl (Or.inl ⟨rfl, rfl⟩) l4 rfl ?_
    refine g_ald (pc' := 197) cd_Ho_takeSealed rfl (Or.inr ⟨_, rfl, rfl, rfl⟩) l0 rfl rfl ?_
    refine g_fR (c := 11) (k := 0) (x := 1) (pc' := 200) cd_Ho_takeSealed rfl rfl rfl rfl rfl (by decide) hH2.1.1.1 hH2.1.1.2 hH2.1.2.1.1 ?_
    refine g_ild (pc' := 201) cd_Ho_takeSealed rfl (Or.inr ⟨_, rfl, rfl, rfl⟩) l2 rfl ?_
    refine g_k1 (v := 2) (pc' := 202) cd_Ho_takeSealed rfl (by decide) rfl ?_
    refine g_calli (pc' := 205) cd_Ho_takeSealed rfl rfl rfl rfl rfl (tm_invV rfl rfl cd_Te_partOf rfl (Nat.le_of_ble_eq_true rfl) (by decide) hC2.1.1.1.1 hC2.1.1.1.2) (t_partOf (i := 2) hC2.1 hx (by decide) (fun r3 ht3 => ?_))
    show bm_G _ _ _ 205 _ [.int r3, .int (nI p), .ref 0] B2 _
    refine g_ald (pc' := 207) cd_Ho_takeSealed rfl (Or.inl ⟨rfl, rfl⟩) l5 rfl rfl ?_
    refine g_fI (c := 7) (k := 10) (x := bz S1.2.2.2.2.2.2.2.2.2.2) (pc' := 210) cd_Ho_takeSealed rfl rfl rfl rfl rfl (by decide) (RSe_S hR2).1.1 (RSe_S hR2).1.2 (RSe_nbon hR2) ?_
    have hf1 : fr (fun y => ¬ F y) B B1 := fr_mono (fun y q => nF_lo hC (by omega)) hfp
    have hf2 : fr (fun y => ¬ F y) B1 B2 := fr_mono (fun y q => q.elim (nF_tcs hC) (fun q => nF_lo hC (by omega))) hz2.1
    have hnF : ∀ y, (dxs 1 ca 3 4 (rb (π 6))) y → ¬ F y := fun y q => q.elim (nF_tcs hC) (fun q => nF_lo hC (by omega))
    refine g_calli (pc' := 213) cd_Ho_takeSealed rfl rfl rfl rfl rfl (tm_invV rfl rfl cd_Ho_takeBody rfl (Nat.le_of_ble_eq_true rfl) (by decide) hH2.1.1.1 hH2.1.1.2) (t_takeBody (o := S1.2.2.2.2.2.2.2.2.2.2) hC2 hH2 hp (fset_same _ _ _) ht3 (fun B3 q1 q2 q3 q9 => ?_) (fun B3 g w3 q1 q2 q3 q4 q5 q6 q9 => ?_) (fun q1 q2 => ?_))
    · skip
      show bm_G _ _ _ 213 _ [.int 1] B3 _
      exact g_reti cd_Ho_takeSealed rfl ⟨_, rfl, (kk1 B3 w2 eK q1 q2 q3 (fr_trans (fr_trans hf1 hf2) (fr_mono (fun y q => q.elim (nF_tcs hC) (fun q => nF_lo hC (by omega))) q9.1)))⟩
    · skip
      show bm_G _ _ _ 213 _ [.int 2] B3 _
      exact g_reti cd_Ho_takeSealed rfl ⟨_, rfl, (kk2 B3 g w3 eK q1 q2 q3 q4 q5 (by rw [fset_fset, fset_fset] at q6; exact q6) (fr_trans (fr_trans hf1 hf2) (fr_mono (fun y q => hnF y q) q9.1)))⟩
    · skip
      show bm_G _ _ _ 213 _ [.int (-15)] B2 _
      exact g_reti cd_Ho_takeSealed rfl ⟨_, rfl, (kk15 B2 w2 eK q1 q2 hC2 hH2 (fr_trans hf1 hf2))⟩
  · have c170 : ¬ xk = r1 := c170
    refine g_k2 (v := (-14)) (pc' := 175) cd_Ho_takeSealed rfl (by decide) rfl ?_
    exact g_reti cd_Ho_takeSealed rfl ⟨_, rfl, (kk14 (fun e => c170 ((TI_eq hC.1 tk ht1).mpr e)))⟩
theorem tg_key {id : Tm} {K0 K1 : PK} {on : List (Tm × Int32)} {lnu : Int32} {se : Nat → List SS} {me : Nat → MM} {p k : Nat} {A Kt : Tm} {S0 S1 : SS} (h : ss_key S0 (pt A 1) = some (Kt, S1)) : ts_go (id, K0, K1, on, lnu, se, me) p A k S0 = cif (Kt = pt A 0) (if Tgood 4 (pt A 2) = true then (1, (id, K0, K1, on, lnu, (fset se p (ss_nb S1 :: (se p).eraseIdx k)), me), S1.2.2.2.2.2.2.2.2.2.2) else if Tgood 5 (pt A 2) = true then (2, (id, K0, K1, on, lnu, (fset se p (ss_nb S1 :: (se p).eraseIdx k)), fset me (nu (pt A 2) 0).toNatClampNeg (mm_acc (me (nu (pt A 2) 0).toNatClampNeg) p (pt A 2) S1.2.2.2.2.2.2.2.2.2.2)), false) else (-15, (id, K0, K1, on, lnu, se, me), false)) (-14, (id, K0, K1, on, lnu, se, me), false) := by
  unfold ts_go
  dsimp only
  rw [h]
theorem tg_no {id : Tm} {K0 K1 : PK} {on : List (Tm × Int32)} {lnu : Int32} {se : Nat → List SS} {me : Nat → MM} {p k : Nat} {A : Tm} {S0 : SS} (h : ss_key S0 (pt A 1) = none) : ts_go (id, K0, K1, on, lnu, se, me) p A k S0 = (-13, (id, K0, K1, on, lnu, se, me), false) := by
  unfold ts_go
  dsimp only
  rw [h]
set_option maxRecDepth 100000 in
theorem l_takeS {sc : tm_X} {d : Nat} {B : bm_H} {F : Nat → Prop} {N S M ln : Nat} {T : List Tm} {dr : Nat} {K : Tm → Prop} {ca rm kc kl rk : Nat} {ws : List (Tm × Int32)} {wt : List Tm} {L : List LT} {bd ll tc tl tf tg : Nat → Int32} {cf cg : Int32} {ct : Tm} {co : Bool} {li fo db : Int32} {ids dir reg : Nat → Tm} {seen : List Tm} {π : Nat → Nat} {w : Nat → SW} {dev : Nat → DV} {sto : Nat → ST} {id : Tm} {K0 K1 : PK} {on : List (Tm × Int32)} {lnu : Int32} {se : Nat → List SS} {me : Nat → MM} {p k : Nat} {x x3 : Int32} {A : Tm} {S0 : SS} {Q : Int32 → bm_H → Prop} (hC : CK B F N S M ln T dr K ca rm kc kl rk) (hH : RH B T ws wt (L, bd, ll, tc, tl, tf, tg, cf, cg, ct, co, li, fo, db) ids dir reg seen π w dev sto) (hp : p < 6) (eD : dev 6 = (id, K0, K1, on, lnu, se, me)) (hk : (se p)[k]? = some S0) (hoI : okI S0.1) (hkm : kd S0.2.2.2.1 = 1) (hkh : kd (pt (pt (pt A 1) 1) 0) = 1) (hx : tv T x A) (t3 : tv T x3 (pt A 1)) (hM : T.length + 26 < M) (kk : ∀ B' T' w' D' G', T <+: T' → T'.length ≤ T.length + 26 → (0 ≤ (ts_go (id, K0, K1, on, lnu, se, me) p A k S0).1 → D' = (ts_go (id, K0, K1, on, lnu, se, me) p A k S0).2.1) → ((ts_go (id, K0, K1, on, lnu, se, me) p A k S0).1 = 1 → G' = (L, bd, ll, tc, tl, tf, tg, nI p, -1, pt (pt A 2) 0, (ts_go (id, K0, K1, on, lnu, se, me) p A k S0).2.2, li, fo, db)) → ((ts_go (id, K0, K1, on, lnu, se, me) p A k S0).1 ≠ 1 → G' = (L, bd, ll, tc, tl, tf, tg, cf, cg, ct, co, li, fo, db)) → CK B' F N S M ln T' dr K ca rm kc kl rk → RH B' T' ws wt G' ids dir reg seen π (fset w 6 w') (fset dev 6 D') sto → fr (fun y => ¬ F y) B B' → Q (ts_go (id, K0, K1, on, lnu, se, me) p A k S0).1 B') : ∀ lv : tm_L, lv.lookup 0 = some (.ref 0) → lv.lookup 2 = some (.int x) → lv.lookup 3 = some (.int x3) → lv.lookup 4 = some (.int (nI p)) → lv.lookup 5 = some (.ref (sA (rb (π 6)) (w 6).2.1 p k)) → bm_G sc (d + 5) 107 85 lv [] B (fun r B' => ∃ v, r = some (.int v) ∧ Q v B') := by
  intro lv l0 l2 l3 l4 l5
  obtain ⟨hs1, hs2, hs3, hs4, hs5, hs6⟩ := ses_at hC hH hp eD hk
  have hca := hC.2.2.2.2.2.1
  have hrm := hC.2.2.2.2.1.2
  have hH0 : RH B T ws wt (L, bd, ll, tc, tl, tf, tg, cf, cg, ct, co, li, fo, db) ids dir reg seen π (fset w 6 (w 6)) (fset dev 6 (id, K0, K1, on, lnu, se, me)) sto := by rw [fset_eta, ← eD, fset_eta]; exact hH
  obtain ⟨I, xb, xr, xm, xs, n, b, br, bp, bo, on1⟩ := S0
  refine g_ald (pc' := 86) cd_Ho_takeSealed rfl (Or.inr ⟨_, rfl, rfl, rfl⟩) l0 rfl rfl ?_
  refine g_fR (c := 11) (k := 0) (x := 1) (pc' := 89) cd_Ho_takeSealed rfl rfl rfl rfl rfl (by decide) hH.1.1.1 hH.1.1.2 hH.1.2.1.1 ?_
  refine g_ild (pc' := 90) cd_Ho_takeSealed rfl (Or.inr ⟨_, rfl, rfl, rfl⟩) l3 rfl ?_
  refine g_k1 (v := 2) (pc' := 91) cd_Ho_takeSealed rfl (by decide) rfl ?_
  refine g_calli (pc' := 94) cd_Ho_takeSealed rfl rfl rfl rfl rfl (tm_invV rfl rfl cd_Te_numberOf rfl (Nat.le_of_ble_eq_true rfl) (by decide) hC.1.1.1.1 hC.1.1.1.2) (t_numberOf (i := 2) hC.1 t3 (by decide) ?_)
  show bm_G _ _ _ 94 _ [.int (nu (pt A 1) 2)] B _
  refine g_ist (pc' := 96) cd_Ho_takeSealed rfl (Or.inl ⟨rfl, rfl⟩) (by decide) rfl (fun lv el => ?_)
  have l0 := tm_lk el l0 rfl (by decide)
  have l2 := tm_lk el l2 rfl (by decide)
  have l3 := tm_lk el l3 rfl (by decide)
  have l4 := tm_lk el l4 rfl (by decide)
  have l5 := tm_lk el l5 rfl (by decide)
  have l6 : lv.lookup 6 = some (.int (nu (pt A 1) 2)) := tm_lks el
  clear el
  refine g_ald (pc' := 98) cd_Ho_takeSealed rfl (Or.inl ⟨rfl, rfl⟩) l5 rfl rfl ?_
  refine g_fR (c := 7) (k := 0) (x := ((sA (rb (π 6)) (w 6).2.1 p k) + 1)) (pc' := 101) cd_Ho_takeSealed rfl rfl rfl rfl rfl (by decide) (RSe_S hs1).1.1 (RSe_S hs1).1.2 (RSe_S hs1).2.1 ?_
  refine g_ald (pc' := 102) cd_Ho_takeSealed rfl (Or.inr ⟨_, rfl, rfl, rfl⟩) l0 rfl rfl ?_
  refine g_fR (c := 11) (k := 0) (x := 1) (pc' := 105) cd_Ho_takeSealed rfl rfl rfl rfl rfl (by decide) hH.1.1.1 hH.1.1.2 hH.1.2.1.1 ?_
  refine g_ild (pc' := 106) cd_Ho_takeSealed rfl (Or.inr ⟨_, rfl, rfl, rfl⟩) l3 rfl ?_
  refine g_k1 (v := 1) (pc' := 107) cd_Ho_takeSealed rfl (by decide) rfl ?_
  refine g_calli (pc' := 110) cd_Ho_takeSealed rfl rfl rfl rfl rfl (tm_invV rfl rfl cd_Te_partOf rfl (Nat.le_of_ble_eq_true rfl) (by decide) hC.1.1.1.1 hC.1.1.1.2) (t_partOf (i := 1) hC.1 t3 (by decide) (fun r4 ht4 => ?_))
  show bm_G _ _ _ 110 _ [.int r4, .ref (((sA (rb (π 6)) (w 6).2.1 p k) + 1))] B _
  refine g_ild (pc' := 112) cd_Ho_takeSealed rfl (Or.inl ⟨rfl, rfl⟩) l6 rfl ?_
  refine g_calli (pc' := 115) cd_Ho_takeSealed rfl rfl rfl rfl rfl (tm_invV rfl rfl cd_In_takeLeft rfl (Nat.le_of_ble_eq_true rfl) (by decide) (RSe_S hs1).2.2.1.1 (RSe_S hs1).2.2.1.2) (t_takeLeft hC.1 hs1.2.1 ht4 (fun hlf => ?_) (fun Kt lt B1 xk9 hlf htk9 hI1 hz1 => ?_))
  · skip
    show bm_G _ _ _ 115 _ [.int 0] B _
    refine g_ist (pc' := 117) cd_Ho_takeSealed rfl (Or.inl ⟨rfl, rfl⟩) (by decide) rfl (fun lv el => ?_)
    have l0 := tm_lk el l0 rfl (by decide)
    have l2 := tm_lk el l2 rfl (by decide)
    have l3 := tm_lk el l3 rfl (by decide)
    have l4 := tm_lk el l4 rfl (by decide)
    have l5 := tm_lk el l5 rfl (by decide)
    have l6 := tm_lk el l6 rfl (by decide)
    have l7 : lv.lookup 7 = some (.int 0) := tm_lks el
    clear el
    refine g_ild (pc' := 119) cd_Ho_takeSealed rfl (Or.inl ⟨rfl, rfl⟩) l7 rfl ?_
    refine g_if1 (t := 151) (pc' := 122) cd_Ho_takeSealed rfl rfl rfl (fun c119 => ?_) (fun c119 => ?_)
    · exact absurd (show ¬ (0 : Int32) = 0 from c119) (by decide)
    · have c119 : (0 : Int32) = 0 := Classical.not_not.mp c119
      refine g_ald (pc' := 124) cd_Ho_takeSealed rfl (Or.inl ⟨rfl, rfl⟩) l5 rfl rfl ?_
      refine g_ald (pc' := 125) cd_Ho_takeSealed rfl (Or.inr ⟨_, rfl, rfl, rfl⟩) l0 rfl rfl ?_
      refine g_fR (c := 11) (k := 0) (x := 1) (pc' := 128) cd_Ho_takeSealed rfl rfl rfl rfl rfl (by decide) hH.1.1.1 hH.1.1.2 hH.1.2.1.1 ?_
      refine g_ild (pc' := 129) cd_Ho_takeSealed rfl (Or.inr ⟨_, rfl, rfl, rfl⟩) l3 rfl ?_
      refine g_calli (pc' := 132) cd_Ho_takeSealed rfl rfl rfl rfl rfl (tm_invV rfl rfl cd_Se_follow rfl (Nat.le_of_ble_eq_true rfl) (by decide) (RSe_S hs1).1.1 (RSe_S hs1).1.2) (t_follow hC.1 hs1 (hs2 _ (by omega) (by omega)) (hs2 _ (by omega) (by omega)) (hs2 _ (by omega) (by omega)) (by omega) t3 hkm hkh (fun hfo => ?_) (fun S1 B1 T1 hfo hp1 hl1 hT1 hR1 hz1 => ?_))
      · skip
        have hkey : ss_key (I, xb, xr, xm, xs, n, b, br, bp, bo, on1) (pt A 1) = none := by unfold ss_key; rw [hlf]; dsimp only; rw [hfo]
        show bm_G _ _ _ 132 _ [.int 0] B _
        refine g_if1 (t := 151) (pc' := 135) cd_Ho_takeSealed rfl rfl rfl (fun c132 => ?_) (fun c132 => ?_)
        · have c132 : (0 : Int32) = 0 := c132
          refine g_ild (pc' := 153) cd_Ho_takeSealed rfl (Or.inl ⟨rfl, rfl⟩) l7 rfl ?_
          refine g_if1 (t := 159) (pc' := 156) cd_Ho_takeSealed rfl rfl rfl (fun c153 => ?_) (fun c153 => ?_)
          · exact absurd (show ¬ (0 : Int32) = 0 from c153) (by decide)
          · have c153 : (0 : Int32) = 0 := Classical.not_not.mp c153
            refine g_k2 (v := (-13)) (pc' := 158) cd_Ho_takeSealed rfl (by decide) rfl ?_
            have hE := tg_no (id := id) (K0 := K0) (K1 := K1) (on := on) (lnu := lnu) (se := se) (me := me) (p := p) (k := k) hkey
            exact g_reti cd_Ho_takeSealed rfl ⟨_, rfl, (bm_eq (kk B T (w 6) (id, K0, K1, on, lnu, se, me) (L, bd, ll, tc, tl, tf, tg, cf, cg, ct, co, li, fo, db) (List.prefix_refl T) (by omega) (fun q => by rw [hE] at q; exact absurd (show (0 : Int32) ≤ -13 from q) (by decide)) (fun q => by rw [hE] at q; exact absurd (show (-13 : Int32) = 1 from q) (by decide)) (fun _ => rfl) hC hH0 (fr_rfl _ B)) (by rw [hE]))⟩
        · exact absurd (show ¬ (0 : Int32) = 0 from c132) (by decide)
      · skip
        obtain ⟨hC1, hH1, hy1⟩ := RH_ses hC hH hp eD hk hT1 hz1 hp1 hR1
        have hf1 : fr (fun y => ¬ F y) B B1 := fr_mono (fun y q => q.elim (nF_tcs hC) (fun q => nF_lo hC (by omega))) hy1.1
        have hrm1 := hC1.2.2.2.2.1.2
        show bm_G _ _ _ 132 _ [.int 1] B1 _
        refine g_if1 (t := 151) (pc' := 135) cd_Ho_takeSealed rfl rfl rfl (fun c132 => ?_) (fun c132 => ?_)
        · exact absurd (show (1 : Int32) = 0 from c132) (by decide)
        · have c132 : ¬ (1 : Int32) = 0 := c132
          refine g_ald (pc' := 137) cd_Ho_takeSealed rfl (Or.inl ⟨rfl, rfl⟩) l5 rfl rfl ?_
          refine g_fR (c := 7) (k := 0) (x := ((sA (rb (π 6)) (w 6).2.1 p k) + 1)) (pc' := 140) cd_Ho_takeSealed rfl rfl rfl rfl rfl (by decide) (RSe_S hR1).1.1 (RSe_S hR1).1.2 (RSe_S hR1).2.1 ?_
          refine g_ald (pc' := 141) cd_Ho_takeSealed rfl (Or.inr ⟨_, rfl, rfl, rfl⟩) l0 rfl rfl ?_
          refine g_fR (c := 11) (k := 0) (x := 1) (pc' := 144) cd_Ho_takeSealed rfl rfl rfl rfl rfl (by decide) hH1.1.1.1 hH1.1.1.2 hH1.1.2.1.1 ?_
          refine g_ild (pc' := 146) cd_Ho_takeSealed rfl (Or.inl ⟨rfl, rfl⟩) l6 rfl ?_
          refine g_calli (pc' := 149) cd_Ho_takeSealed rfl rfl rfl rfl rfl (tm_invV rfl rfl cd_In_nextKey rfl (Nat.le_of_ble_eq_true rfl) (by decide) (RSe_S hR1).2.2.1.1 (RSe_S hR1).2.2.1.2) (t_nextKey hC1.1 (RSe_in hR1) (by omega) (hs2 _ (by omega) (by omega)) (hs2 _ (by omega) (by omega)) (fun hnk => ?_) (fun Kt J B2 T2 xk9 hnk hp2 hl2 hT2 htk9 hKn hI2 hz2 => ?_))
          · skip
            have hkey : ss_key (I, xb, xr, xm, xs, n, b, br, bp, bo, on1) (pt A 1) = none := by unfold ss_key; rw [hlf]; dsimp only; rw [hfo]; dsimp only; rw [hnk]; rfl
            show bm_G _ _ _ 149 _ [.int 0] B1 _
            refine g_ist (pc' := 151) cd_Ho_takeSealed rfl (Or.inl ⟨rfl, rfl⟩) (by decide) rfl (fun lv el => ?_)
            have l0 := tm_lk el l0 rfl (by decide)
            have l2 := tm_lk el l2 rfl (by decide)
            have l3 := tm_lk el l3 rfl (by decide)
            have l4 := tm_lk el l4 rfl (by decide)
            have l5 := tm_lk el l5 rfl (by decide)
            have l6 := tm_lk el l6 rfl (by decide)
            have l7 : lv.lookup 7 = some (.int 0) := tm_lks el
            clear el
            refine g_ild (pc' := 153) cd_Ho_takeSealed rfl (Or.inl ⟨rfl, rfl⟩) l7 rfl ?_
            refine g_if1 (t := 159) (pc' := 156) cd_Ho_takeSealed rfl rfl rfl (fun c153 => ?_) (fun c153 => ?_)
            · exact absurd (show ¬ (0 : Int32) = 0 from c153) (by decide)
            · have c153 : (0 : Int32) = 0 := Classical.not_not.mp c153
              refine g_k2 (v := (-13)) (pc' := 158) cd_Ho_takeSealed rfl (by decide) rfl ?_
              have hE := tg_no (id := id) (K0 := K0) (K1 := K1) (on := on) (lnu := lnu) (se := se) (me := me) (p := p) (k := k) hkey
              exact g_reti cd_Ho_takeSealed rfl ⟨_, rfl, (bm_eq (kk B1 T1 (w 6) (id, K0, K1, on, lnu, fset se p ((se p).set k S1), me) (L, bd, ll, tc, tl, tf, tg, cf, cg, ct, co, li, fo, db) hp1 (by omega) (fun q => by rw [hE] at q; exact absurd (show (0 : Int32) ≤ -13 from q) (by decide)) (fun q => by rw [hE] at q; exact absurd (show (-13 : Int32) = 1 from q) (by decide)) (fun _ => rfl) hC1 (by rw [fset_eta]; exact hH1) hf1) (by rw [hE]))⟩
          · skip
            obtain ⟨I1, yb, yr, ym, ys, m1, b1, br1, bp1, bo1, on2⟩ := S1
            have hR2 := RSe_I hR1 hz2.1 (fun q => q.elim (hs2 _ (by omega) (by omega)) (by omega)) hp2 hI2
            obtain ⟨hC2, hH2, hy2⟩ := RH_ses hC1 hH1 hp (fset_same _ _ _) (show ((fset se p ((se p).set k _)) p)[k]? = some _ by rw [fset_same]; exact List.getElem?_set_self (List.getElem?_eq_some_iff.mp hk).1) hT2 (fz_mono (fun y q => q.elim Or.inl (fun q => Or.inr (Or.inr (by omega)))) hz2) hp2 hR2
            rw [fset_same, fset_fset, fset_fset, List.set_set] at hH2
            have hkey : ss_key (I, xb, xr, xm, xs, n, b, br, bp, bo, on1) (pt A 1) = some (Kt, (J, yb, yr, ym, ys, m1, b1, br1, bp1, bo1, on2)) := by unfold ss_key; rw [hlf]; dsimp only; rw [hfo]; dsimp only; rw [hnk]; rfl
            have hf2 : fr (fun y => ¬ F y) B B2 := fr_trans hf1 (fr_mono (fun y q => q.elim (nF_tcs hC) (fun q => nF_lo hC (by omega))) hy2.1)
            show bm_G _ _ _ 149 _ [.int xk9] B2 _
            refine g_ist (pc' := 151) cd_Ho_takeSealed rfl (Or.inl ⟨rfl, rfl⟩) (by decide) rfl (fun lv el => ?_)
            have l0 := tm_lk el l0 rfl (by decide)
            have l2 := tm_lk el l2 rfl (by decide)
            have l3 := tm_lk el l3 rfl (by decide)
            have l4 := tm_lk el l4 rfl (by decide)
            have l5 := tm_lk el l5 rfl (by decide)
            have l6 := tm_lk el l6 rfl (by decide)
            have l7 : lv.lookup 7 = some (.int xk9) := tm_lks el
            clear el
            refine g_ild (pc' := 153) cd_Ho_takeSealed rfl (Or.inl ⟨rfl, rfl⟩) l7 rfl ?_
            refine g_if1 (t := 159) (pc' := 156) cd_Ho_takeSealed rfl rfl rfl (fun c153 => ?_) (fun c153 => ?_)
            · have c153 : ¬ xk9 = 0 := c153
              have hT0 := (tg_key (id := id) (K0 := K0) (K1 := K1) (on := on) (lnu := lnu) (se := se) (me := me) (p := p) (k := k) hkey)
              refine l_tsEnd hC2 hH2 hp (fset_same _ _ _) (show ((fset se p ((se p).set k (J, yb, yr, ym, ys, m1, b1, br1, bp1, bo1, on2))) p)[k]? = some (J, yb, yr, ym, ys, m1, b1, br1, bp1, bo1, on2) by rw [fset_same]; exact List.getElem?_set_self (List.getElem?_eq_some_iff.mp hk).1) (tv_mono hp2 (tv_mono hp1 hx)) htk9 (fun e => ?_) (fun B' w' e e4 q7 q8 q9 => ?_) (fun B' g w' e e4 e5 hg eg q7 q8 q9 => ?_) (fun B' w' e e4 e5 q7 q8 q9 => ?_) lv l0 l2 l4 l5 l7
              · have hE := hT0.trans (cif_f e)
                exact bm_eq (kk B2 T2 (w 6) (id, K0, K1, on, lnu, fset se p ((se p).set k (J, yb, yr, ym, ys, m1, b1, br1, bp1, bo1, on2)), me) (L, bd, ll, tc, tl, tf, tg, cf, cg, ct, co, li, fo, db) (hp1.trans hp2) (by omega) (fun q => by rw [hE] at q; exact absurd (show (0 : Int32) ≤ -14 from q) (by decide)) (fun q => by rw [hE] at q; exact absurd (show (-14 : Int32) = 1 from q) (by decide)) (fun _ => rfl) hC2 (by rw [fset_eta]; exact hH2) hf2) (by rw [hE])
              · have hE := (hT0.trans (cif_t e)).trans (if_pos e4)
                rw [fset_same, fset_fset, fset_fset, era_set] at q8
                exact bm_eq (kk B' T2 w' _ _ (hp1.trans hp2) (by omega) (fun _ => by rw [hE]) (fun _ => by rw [hE]) (fun q => by rw [hE] at q; exact absurd rfl q) q7 q8 (fr_trans hf2 q9)) (by rw [hE])
              · have hE := ((hT0.trans (cif_t e)).trans (if_neg (fun q => absurd (e4.symm.trans q) (by decide)))).trans (if_pos e5)
                rw [fset_same, fset_fset, fset_fset, era_set] at q8
                have hgg : (nu (pt A 2) 0).toNatClampNeg = g := by rw [eg, nI_clamp (by omega)]
                rw [hgg] at hE
                exact bm_eq (kk B' T2 w' _ (L, bd, ll, tc, tl, tf, tg, cf, cg, ct, co, li, fo, db) (hp1.trans hp2) (by omega) (fun _ => by rw [hE]) (fun q => by rw [hE] at q; exact absurd (show (2 : Int32) = 1 from q) (by decide)) (fun _ => rfl) q7 q8 (fr_trans hf2 q9)) (by rw [hE])
              · have hE := ((hT0.trans (cif_t e)).trans (if_neg (fun q => absurd (e4.symm.trans q) (by decide)))).trans (if_neg (fun q => absurd (e5.symm.trans q) (by decide)))
                rw [fset_same, fset_fset, fset_fset, era_set] at q8
                exact bm_eq (kk B' T2 w' (id, K0, K1, on, lnu, fset se p (ss_nb (J, yb, yr, ym, ys, m1, b1, br1, bp1, bo1, on2) :: (se p).eraseIdx k), me) (L, bd, ll, tc, tl, tf, tg, cf, cg, ct, co, li, fo, db) (hp1.trans hp2) (by omega) (fun q => by rw [hE] at q; exact absurd (show (0 : Int32) ≤ -15 from q) (by decide)) (fun q => by rw [hE] at q; exact absurd (show (-15 : Int32) = 1 from q) (by decide)) (fun _ => rfl) q7 q8 (fr_trans hf2 q9)) (by rw [hE])
            · have c153 : xk9 = 0 := Classical.not_not.mp c153
              exact absurd ((TI_0 hC2.1 htk9).mp c153) hKn
  · skip
    have hTn := TI_fr hC.1 hz1.1 (by omega) (by omega) (by omega)
    have hR1 := RSe_I hs1 hz1.1 (by omega) (List.prefix_refl T) hI1
    obtain ⟨hC1, hH1, hy1⟩ := RH_ses hC hH hp eD hk hTn (fz_mono (fun y q => Or.inr (Or.inr (by omega))) hz1) (List.prefix_refl T) hR1
    have hKn : Kt ≠ tz := by obtain ⟨e, h1, h2⟩ := lf_take_mem hlf; rw [← h2]; exact hoI e h1
    have hkey : ss_key (I, xb, xr, xm, xs, n, b, br, bp, bo, on1) (pt A 1) = some (Kt, ((I.1, I.2.1, I.2.2.1, lt), xb, xr, xm, xs, n, b, br, bp, bo, on1)) := by unfold ss_key; rw [hlf]
    have hf1 : fr (fun y => ¬ F y) B B1 := fr_mono (fun y q => q.elim (nF_tcs hC) (fun q => nF_lo hC (by omega))) hy1.1
    show bm_G _ _ _ 115 _ [.int xk9] B1 _
    refine g_ist (pc' := 117) cd_Ho_takeSealed rfl (Or.inl ⟨rfl, rfl⟩) (by decide) rfl (fun lv el => ?_)
    have l0 := tm_lk el l0 rfl (by decide)
    have l2 := tm_lk el l2 rfl (by decide)
    have l3 := tm_lk el l3 rfl (by decide)
    have l4 := tm_lk el l4 rfl (by decide)
    have l5 := tm_lk el l5 rfl (by decide)
    have l6 := tm_lk el l6 rfl (by decide)
    have l7 : lv.lookup 7 = some (.int xk9) := tm_lks el
    clear el
    refine g_ild (pc' := 119) cd_Ho_takeSealed rfl (Or.inl ⟨rfl, rfl⟩) l7 rfl ?_
    refine g_if1 (t := 151) (pc' := 122) cd_Ho_takeSealed rfl rfl rfl (fun c119 => ?_) (fun c119 => ?_)
    · have c119 : ¬ xk9 = 0 := c119
      refine g_ild (pc' := 153) cd_Ho_takeSealed rfl (Or.inl ⟨rfl, rfl⟩) l7 rfl ?_
      refine g_if1 (t := 159) (pc' := 156) cd_Ho_takeSealed rfl rfl rfl (fun c153 => ?_) (fun c153 => ?_)
      · have c153 : ¬ xk9 = 0 := c153
        have hT0 := (tg_key (id := id) (K0 := K0) (K1 := K1) (on := on) (lnu := lnu) (se := se) (me := me) (p := p) (k := k) hkey)
        refine l_tsEnd hC1 hH1 hp (fset_same _ _ _) (show ((fset se p ((se p).set k ((I.1, I.2.1, I.2.2.1, lt), xb, xr, xm, xs, n, b, br, bp, bo, on1))) p)[k]? = some ((I.1, I.2.1, I.2.2.1, lt), xb, xr, xm, xs, n, b, br, bp, bo, on1) by rw [fset_same]; exact List.getElem?_set_self (List.getElem?_eq_some_iff.mp hk).1) hx htk9 (fun e => ?_) (fun B' w' e e4 q7 q8 q9 => ?_) (fun B' g w' e e4 e5 hg eg q7 q8 q9 => ?_) (fun B' w' e e4 e5 q7 q8 q9 => ?_) lv l0 l2 l4 l5 l7
        · have hE := hT0.trans (cif_f e)
          exact bm_eq (kk B1 T (w 6) (id, K0, K1, on, lnu, fset se p ((se p).set k ((I.1, I.2.1, I.2.2.1, lt), xb, xr, xm, xs, n, b, br, bp, bo, on1)), me) (L, bd, ll, tc, tl, tf, tg, cf, cg, ct, co, li, fo, db) (List.prefix_refl T) (by omega) (fun q => by rw [hE] at q; exact absurd (show (0 : Int32) ≤ -14 from q) (by decide)) (fun q => by rw [hE] at q; exact absurd (show (-14 : Int32) = 1 from q) (by decide)) (fun _ => rfl) hC1 (by rw [fset_eta]; exact hH1) hf1) (by rw [hE])
        · have hE := (hT0.trans (cif_t e)).trans (if_pos e4)
          rw [fset_same, fset_fset, fset_fset, era_set] at q8
          exact bm_eq (kk B' T w' _ _ (List.prefix_refl T) (by omega) (fun _ => by rw [hE]) (fun _ => by rw [hE]) (fun q => by rw [hE] at q; exact absurd rfl q) q7 q8 (fr_trans hf1 q9)) (by rw [hE])
        · have hE := ((hT0.trans (cif_t e)).trans (if_neg (fun q => absurd (e4.symm.trans q) (by decide)))).trans (if_pos e5)
          rw [fset_same, fset_fset, fset_fset, era_set] at q8
          have hgg : (nu (pt A 2) 0).toNatClampNeg = g := by rw [eg, nI_clamp (by omega)]
          rw [hgg] at hE
          exact bm_eq (kk B' T w' _ (L, bd, ll, tc, tl, tf, tg, cf, cg, ct, co, li, fo, db) (List.prefix_refl T) (by omega) (fun _ => by rw [hE]) (fun q => by rw [hE] at q; exact absurd (show (2 : Int32) = 1 from q) (by decide)) (fun _ => rfl) q7 q8 (fr_trans hf1 q9)) (by rw [hE])
        · have hE := ((hT0.trans (cif_t e)).trans (if_neg (fun q => absurd (e4.symm.trans q) (by decide)))).trans (if_neg (fun q => absurd (e5.symm.trans q) (by decide)))
          rw [fset_same, fset_fset, fset_fset, era_set] at q8
          exact bm_eq (kk B' T w' (id, K0, K1, on, lnu, fset se p (ss_nb ((I.1, I.2.1, I.2.2.1, lt), xb, xr, xm, xs, n, b, br, bp, bo, on1) :: (se p).eraseIdx k), me) (L, bd, ll, tc, tl, tf, tg, cf, cg, ct, co, li, fo, db) (List.prefix_refl T) (by omega) (fun q => by rw [hE] at q; exact absurd (show (0 : Int32) ≤ -15 from q) (by decide)) (fun q => by rw [hE] at q; exact absurd (show (-15 : Int32) = 1 from q) (by decide)) (fun _ => rfl) q7 q8 (fr_trans hf1 q9)) (by rw [hE])
      · have c153 : xk9 = 0 := Classical.not_not.mp c153
        exact absurd ((TI_0 hC1.1 htk9).mp c153) hKn
    · have c119 : xk9 = 0 := Classical.not_not.mp c119
      exact absurd ((TI_0 hC1.1 htk9).mp c119) hKn
theorem as_first {id : Tm} {K0 K1 : PK} {on : List (Tm × Int32)} {lnu : Int32} {se : Nat → List SS} {me : Nat → MM} {ids : Nat → Tm} {p : Nat} {H : Tm} {D' : DV} (h : as_spec (id, K0, K1, on, lnu, se, me) ids p H = some D') (hk0 : 0 < K0.2.1 → kd K0.1 = 1) (hk1 : 0 < K1.2.1 → kd K1.1 = 1) : ∃ S l, D'.2.2.2.2.2.1 p = S :: l ∧ okI S.1 ∧ kd S.2.2.2.1 = 1 := by
  have hK : ∀ b, pk_find K0 K1 (pt H 2) = some b → kd (pk_of K0 K1 b).1 = 1 := fun b hb => by
    unfold pk_find at hb
    by_cases c0 : 0 < K0.2.1 ∧ Tpub K0.1 = pt H 2
    · rw [cif_t c0] at hb; cases hb; exact hk0 c0.1
    · rw [cif_f c0] at hb
      by_cases c1 : 0 < K1.2.1 ∧ Tpub K1.1 = pt H 2
      · rw [cif_t c1] at hb; cases hb; exact hk1 c1.1
      · rw [cif_f c1] at hb; cases hb
  unfold as_spec at h
  dsimp only at h
  cases hb : pk_find K0 K1 (pt H 2) with
  | none => rw [hb] at h; cases h
  | some b =>
    rw [hb] at h
    dsimp only at h
    by_cases c : pt H 3 = tz
    · rw [cif_t c] at h
      by_cases c2 : pt H 0 ∈ (pk_of K0 K1 b).2.2 ∨ 4 ≤ (pk_of K0 K1 b).2.2.length
      · rw [cif_t c2] at h; cases h
      · rw [cif_f c2] at h
        cases h
        exact ⟨_, _, fset_same _ _ _, (fun e he => absurd (show e ∈ [] from he) List.not_mem_nil), hK b hb⟩
    · rw [cif_f c] at h
      cases ho : on_find (pt H 3) on with
      | none => rw [ho] at h; cases h
      | some i =>
        rw [ho] at h
        cases h
        exact ⟨_, _, fset_same _ _ _, (fun e he => absurd (show e ∈ [] from he) List.not_mem_nil), hK b hb⟩
set_option maxRecDepth 100000 in
theorem t_takeSealed {sc : tm_X} {d : Nat} {B : bm_H} {F : Nat → Prop} {N S M ln : Nat} {T : List Tm} {dr : Nat} {K : Tm → Prop} {ca rm kc kl rk : Nat} {ws : List (Tm × Int32)} {wt : List Tm} {L : List LT} {bd ll tc tl tf tg : Nat → Int32} {cf cg : Int32} {ct : Tm} {co : Bool} {li fo db : Int32} {ids dir reg : Nat → Tm} {seen : List Tm} {π : Nat → Nat} {w : Nat → SW} {dev : Nat → DV} {sto : Nat → ST} {id : Tm} {K0 K1 : PK} {on : List (Tm × Int32)} {lnu : Int32} {se : Nat → List SS} {me : Nat → MM} {q p : Nat} {x : Int32} {A : Tm} {Q : Int32 → bm_H → Prop} (hC : CK B F N S M ln T dr K ca rm kc kl rk) (hH : RH B T ws wt (L, bd, ll, tc, tl, tf, tg, cf, cg, ct, co, li, fo, db) ids dir reg seen π w dev sto) (hq : q < 6) (hp : p < 6) (ep : nu (pt A 1) 0 = nI p) (eD : dev 6 = (id, K0, K1, on, lnu, se, me)) (kI : kd id = 1) (kJ : kd (ids p) = 1) (hk0 : 0 < K0.2.1 → kd K0.1 = 1) (hk1 : 0 < K1.2.1 → kd K1.1 = 1) (hk : ∀ e, e ∈ on → kd e.1 = 1) (hse : ∀ (k : Nat) (S : SS), (se p)[k]? = some S → okI S.1 ∧ kd S.2.2.2.1 = 1) (kA : kd (pt (pt (pt A 1) 0) 0) = 1) (hkh : kd (pt (pt (pt A 1) 1) 0) = 1) (hx : tv T x A) (hM : T.length + 34 < M) (kk : ∀ B' T' w' D' G', T <+: T' → T'.length ≤ T.length + 34 → (0 ≤ (ts_spec (id, K0, K1, on, lnu, se, me) ids q p A).1 → D' = (ts_spec (id, K0, K1, on, lnu, se, me) ids q p A).2.1) → ((ts_spec (id, K0, K1, on, lnu, se, me) ids q p A).1 = 1 → G' = (L, bd, ll, tc, tl, tf, tg, nI p, -1, pt (pt A 2) 0, (ts_spec (id, K0, K1, on, lnu, se, me) ids q p A).2.2, li, fo, db)) → ((ts_spec (id, K0, K1, on, lnu, se, me) ids q p A).1 ≠ 1 → G' = (L, bd, ll, tc, tl, tf, tg, cf, cg, ct, co, li, fo, db)) → CK B' F N S M ln T' dr K ca rm kc kl rk → RH B' T' ws wt G' ids dir reg seen π (fset w 6 w') (fset dev 6 D') sto → fr (fun y => ¬ F y) B B' → Q (ts_spec (id, K0, K1, on, lnu, se, me) ids q p A).1 B') : bm_Gi sc (d + 5) 107 [.ref 0, .int (nI q), .int x] B Q := by
  have hW := hH.2.2.2.2.1.2.2.2.2 6 (by decide)
  rw [eD] at hW
  have hca := hC.2.2.2.2.2.1
  have r6 := rb_in (hH.2.2.2.2.1.2.2.1 6 (by decide))
  have hH0 : RH B T ws wt (L, bd, ll, tc, tl, tf, tg, cf, cg, ct, co, li, fo, db) ids dir reg seen π (fset w 6 (w 6)) (fset dev 6 (id, K0, K1, on, lnu, se, me)) sto := by rw [fset_eta, ← eD, fset_eta]; exact hH
  have kE : ∀ e : Int32, ¬ 0 ≤ e → e ≠ 1 → (ts_spec (id, K0, K1, on, lnu, se, me) ids q p A).1 = e → Q e B := fun e he he1 h => h ▸ kk B T (w 6) (id, K0, K1, on, lnu, se, me) (L, bd, ll, tc, tl, tf, tg, cf, cg, ct, co, li, fo, db) (List.prefix_refl T) (by omega) (fun q => absurd (h ▸ q) he) (fun q => absurd (h.symm.trans q) he1) (fun _ => rfl) hC hH0 (fr_rfl _ B)
  show bm_G sc (d + 5) 107 0 [(0, .ref 0), (1, .int (nI q)), (2, .int x)] [] B _
  generalize elv : ([(0, .ref 0), (1, .int (nI q)), (2, .int x)] : tm_L) = lv
  have l0 : lv.lookup 0 = some (.ref 0) := by rw [← elv]; rfl
  have l1 : lv.lookup 1 = some (.int (nI q)) := by rw [← elv]; rfl
  have l2 : lv.lookup 2 = some (.int x) := by rw [← elv]; rfl
  clear elv
  refine g_ald (pc' := 1) cd_Ho_takeSealed rfl (Or.inr ⟨_, rfl, rfl, rfl⟩) l0 rfl rfl ?_
  refine g_fR (c := 11) (k := 0) (x := 1) (pc' := 4) cd_Ho_takeSealed rfl rfl rfl rfl rfl (by decide) hH.1.1.1 hH.1.1.2 hH.1.2.1.1 ?_
  refine g_ild (pc' := 5) cd_Ho_takeSealed rfl (Or.inr ⟨_, rfl, rfl, rfl⟩) l2 rfl ?_
  refine g_k1 (v := 1) (pc' := 6) cd_Ho_takeSealed rfl (by decide) rfl ?_
  refine g_calli (pc' := 9) cd_Ho_takeSealed rfl rfl rfl rfl rfl (tm_invV rfl rfl cd_Te_partOf rfl (Nat.le_of_ble_eq_true rfl) (by decide) hC.1.1.1.1 hC.1.1.1.2) (t_partOf (i := 1) hC.1 hx (by decide) (fun r5 ht5 => ?_))
  show bm_G _ _ _ 9 _ [.int r5] B _
  refine g_ist (pc' := 10) cd_Ho_takeSealed rfl (Or.inr ⟨_, rfl, rfl, rfl⟩) (by decide) rfl (fun lv el => ?_)
  have l0 := tm_lk el l0 rfl (by decide)
  have l1 := tm_lk el l1 rfl (by decide)
  have l2 := tm_lk el l2 rfl (by decide)
  have l3 : lv.lookup 3 = some (.int r5) := tm_lks el
  clear el
  refine g_ald (pc' := 11) cd_Ho_takeSealed rfl (Or.inr ⟨_, rfl, rfl, rfl⟩) l0 rfl rfl ?_
  refine g_fR (c := 11) (k := 0) (x := 1) (pc' := 14) cd_Ho_takeSealed rfl rfl rfl rfl rfl (by decide) hH.1.1.1 hH.1.1.2 hH.1.2.1.1 ?_
  refine g_ild (pc' := 15) cd_Ho_takeSealed rfl (Or.inr ⟨_, rfl, rfl, rfl⟩) l3 rfl ?_
  refine g_k1 (v := 0) (pc' := 16) cd_Ho_takeSealed rfl (by decide) rfl ?_
  refine g_calli (pc' := 19) cd_Ho_takeSealed rfl rfl rfl rfl rfl (tm_invV rfl rfl cd_Te_numberOf rfl (Nat.le_of_ble_eq_true rfl) (by decide) hC.1.1.1.1 hC.1.1.1.2) (t_numberOf (i := 0) hC.1 ht5 (by decide) ?_)
  rw [ep]
  show bm_G _ _ _ 19 _ [.int (nI p)] B _
  refine g_ist (pc' := 21) cd_Ho_takeSealed rfl (Or.inl ⟨rfl, rfl⟩) (by decide) rfl (fun lv el => ?_)
  have l0 := tm_lk el l0 rfl (by decide)
  have l1 := tm_lk el l1 rfl (by decide)
  have l2 := tm_lk el l2 rfl (by decide)
  have l3 := tm_lk el l3 rfl (by decide)
  have l4 : lv.lookup 4 = some (.int (nI p)) := tm_lks el
  clear el
  refine g_ald (pc' := 22) cd_Ho_takeSealed rfl (Or.inr ⟨_, rfl, rfl, rfl⟩) l0 rfl rfl ?_
  refine g_fR (c := 11) (k := 0) (x := 1) (pc' := 25) cd_Ho_takeSealed rfl rfl rfl rfl rfl (by decide) hH.1.1.1 hH.1.1.2 hH.1.2.1.1 ?_
  refine g_ild (pc' := 26) cd_Ho_takeSealed rfl (Or.inr ⟨_, rfl, rfl, rfl⟩) l3 rfl ?_
  refine g_k1 (v := 1) (pc' := 27) cd_Ho_takeSealed rfl (by decide) rfl ?_
  refine g_calli (pc' := 30) cd_Ho_takeSealed rfl rfl rfl rfl rfl (tm_invV rfl rfl cd_Te_numberOf rfl (Nat.le_of_ble_eq_true rfl) (by decide) hC.1.1.1.1 hC.1.1.1.2) (t_numberOf (i := 1) hC.1 ht5 (by decide) ?_)
  show bm_G _ _ _ 30 _ [.int (nu (pt A 1) 1)] B _
  refine g_ild (pc' := 31) cd_Ho_takeSealed rfl (Or.inr ⟨_, rfl, rfl, rfl⟩) l1 rfl ?_
  refine g_if2 (t := 40) (pc' := 34) cd_Ho_takeSealed rfl rfl rfl (fun c31 => ?_) (fun c31 => ?_)
  · have c31 : ¬ (nu (pt A 1) 1) = (nI q) := c31
    refine g_k2 (v := (-11)) (pc' := 42) cd_Ho_takeSealed rfl (by decide) rfl ?_
    exact g_reti cd_Ho_takeSealed rfl ⟨_, rfl, (kE _ (by decide) (by decide) (by unfold ts_spec; rw [if_neg (fun e => c31 e.1)]))⟩
  · have c31 : (nu (pt A 1) 1) = (nI q) := Classical.not_not.mp c31
    refine g_ild (pc' := 36) cd_Ho_takeSealed rfl (Or.inl ⟨rfl, rfl⟩) l4 rfl ?_
    refine g_ild (pc' := 37) cd_Ho_takeSealed rfl (Or.inr ⟨_, rfl, rfl, rfl⟩) l1 rfl ?_
    refine g_if2 (t := 43) (pc' := 40) cd_Ho_takeSealed rfl rfl rfl (fun c37 => ?_) (fun c37 => ?_)
    · have c37 : ¬ (nI p) = (nI q) := c37
      refine g_ald (pc' := 44) cd_Ho_takeSealed rfl (Or.inr ⟨_, rfl, rfl, rfl⟩) l0 rfl rfl ?_
      refine g_fR (c := 11) (k := 11) (x := (rb (π 6))) (pc' := 47) cd_Ho_takeSealed rfl rfl rfl rfl rfl (by decide) hH.1.1.1 hH.1.1.2 hH.2.2.2.2.1.2.1 ?_
      refine g_ild (pc' := 49) cd_Ho_takeSealed rfl (Or.inl ⟨rfl, rfl⟩) l4 rfl ?_
      refine g_ald (pc' := 50) cd_Ho_takeSealed rfl (Or.inr ⟨_, rfl, rfl, rfl⟩) l0 rfl rfl ?_
      refine g_fR (c := 11) (k := 0) (x := 1) (pc' := 53) cd_Ho_takeSealed rfl rfl rfl rfl rfl (by decide) hH.1.1.1 hH.1.1.2 hH.1.2.1.1 ?_
      refine g_ild (pc' := 54) cd_Ho_takeSealed rfl (Or.inr ⟨_, rfl, rfl, rfl⟩) l3 rfl ?_
      refine g_k1 (v := 0) (pc' := 55) cd_Ho_takeSealed rfl (by decide) rfl ?_
      refine g_calli (pc' := 58) cd_Ho_takeSealed rfl rfl rfl rfl rfl (tm_invV rfl rfl cd_Te_partOf rfl (Nat.le_of_ble_eq_true rfl) (by decide) hC.1.1.1.1 hC.1.1.1.2) (t_partOf (i := 0) hC.1 ht5 (by decide) (fun r6 ht6 => ?_))
      show bm_G _ _ _ 58 _ [.int r6, .int (nI p), .ref ((rb (π 6)))] B _
      have hgo : (nu (pt A 1) 1 = nI q ∧ p ≠ q) := ⟨c31, fun e => c37 (by rw [e])⟩
      refine g_callr (pc' := 61) cd_Ho_takeSealed rfl rfl rfl rfl rfl (tm_invV rfl rfl cd_De_findSession rfl (Nat.le_of_ble_eq_true rfl) (by decide) (RDe_K (hH.2.2.2.2.1.2.2.2.2 6 (by decide))).1 (RDe_K (hH.2.2.2.2.1.2.2.2.2 6 (by decide))).2) (t_findSession hC.1 hW hp ht6 (fun hno => ?_) (fun k S0 hks hb hno => ?_))
      · skip
        show bm_G _ _ _ 61 _ [.null] B _
        refine g_ast (pc' := 63) cd_Ho_takeSealed rfl (Or.inl ⟨rfl, rfl⟩) rfl (by decide) rfl (fun lv el => ?_)
        have l0 := tm_lk el l0 rfl (by decide)
        have l1 := tm_lk el l1 rfl (by decide)
        have l2 := tm_lk el l2 rfl (by decide)
        have l3 := tm_lk el l3 rfl (by decide)
        have l4 := tm_lk el l4 rfl (by decide)
        have l5 : lv.lookup 5 = some (.null) := tm_lks el
        clear el
        refine g_ald (pc' := 65) cd_Ho_takeSealed rfl (Or.inl ⟨rfl, rfl⟩) l5 rfl rfl ?_
        refine g_nnF (t := 77) (pc' := 68) cd_Ho_takeSealed rfl rfl rfl ?_
        refine g_ald (pc' := 69) cd_Ho_takeSealed rfl (Or.inr ⟨_, rfl, rfl, rfl⟩) l0 rfl rfl ?_
        refine g_ild (pc' := 71) cd_Ho_takeSealed rfl (Or.inl ⟨rfl, rfl⟩) l4 rfl ?_
        refine g_ild (pc' := 72) cd_Ho_takeSealed rfl (Or.inr ⟨_, rfl, rfl, rfl⟩) l3 rfl ?_
        refine g_callr (pc' := 75) cd_Ho_takeSealed rfl rfl rfl rfl rfl (tm_invV rfl rfl cd_Ho_answerSession rfl (Nat.le_of_ble_eq_true rfl) (by decide) hH.1.1.1 hH.1.1.2) (t_answer hC hH hp eD kI kJ hk0 hk1 hk kA ht5 (by omega) (fun has => ?_) (fun B1 T1 w1 D1 has hp1 hl1 hC1 hH1 hz1 => ?_))
        · skip
          show bm_G _ _ _ 75 _ [.null] B _
          refine g_ast (pc' := 77) cd_Ho_takeSealed rfl (Or.inl ⟨rfl, rfl⟩) rfl (by decide) rfl (fun lv el => ?_)
          have l0 := tm_lk el l0 rfl (by decide)
          have l1 := tm_lk el l1 rfl (by decide)
          have l2 := tm_lk el l2 rfl (by decide)
          have l3 := tm_lk el l3 rfl (by decide)
          have l4 := tm_lk el l4 rfl (by decide)
          have l5 : lv.lookup 5 = some (.null) := tm_lks el
          clear el
          refine g_ald (pc' := 79) cd_Ho_takeSealed rfl (Or.inl ⟨rfl, rfl⟩) l5 rfl rfl ?_
          refine g_nnF (t := 85) (pc' := 82) cd_Ho_takeSealed rfl rfl rfl ?_
          refine g_k2 (v := (-12)) (pc' := 84) cd_Ho_takeSealed rfl (by decide) rfl ?_
          exact g_reti cd_Ho_takeSealed rfl ⟨_, rfl, (kE _ (by decide) (by decide) (by unfold ts_spec; rw [if_pos hgo]; dsimp only; rw [ss_find_no hno]; dsimp only; rw [has]))⟩
        · skip
          show bm_G _ _ _ 75 _ [.ref ((sA (rb (π 6)) w1.2.1 p 0))] B1 _
          refine g_ast (pc' := 77) cd_Ho_takeSealed rfl (Or.inl ⟨rfl, rfl⟩) rfl (by decide) rfl (fun lv el => ?_)
          have l0 := tm_lk el l0 rfl (by decide)
          have l1 := tm_lk el l1 rfl (by decide)
          have l2 := tm_lk el l2 rfl (by decide)
          have l3 := tm_lk el l3 rfl (by decide)
          have l4 := tm_lk el l4 rfl (by decide)
          have l5 : lv.lookup 5 = some (.ref ((sA (rb (π 6)) w1.2.1 p 0))) := tm_lks el
          clear el
          refine g_ald (pc' := 79) cd_Ho_takeSealed rfl (Or.inl ⟨rfl, rfl⟩) l5 rfl rfl ?_
          refine g_nnT (t := 85) cd_Ho_takeSealed rfl rfl ?_
          obtain ⟨S0, l, hse1, hoI, hkm⟩ := as_first (p := p) has hk0 hk1
          have hE : (ts_spec (id, K0, K1, on, lnu, se, me) ids q p A) = ts_go D1 p A 0 S0 := by unfold ts_spec; rw [if_pos hgo]; dsimp only; rw [ss_find_no hno]; dsimp only; rw [has]; dsimp only; rw [hse1]
          rw [hE] at kk
          obtain ⟨id2, L0, L1, on2, lnu2, se2, me2⟩ := D1
          have e6 : (fset w 6 w1) 6 = w1 := fset_same _ _ _
          have hf1 : fr (fun y => ¬ F y) B B1 := fr_mono (fun y q => q.elim (nF_tcs hC) (fun q => nF_lo hC (by omega))) hz1.1
          exact l_takeS (k := 0) hC1 hH1 hp (fset_same _ _ _) (show (se2 p)[0]? = some S0 by rw [show se2 p = S0 :: l from hse1]; rfl) hoI hkm hkh (tv_mono hp1 hx) (tv_mono hp1 ht5) (by omega) (fun B' T' w' D' G' q1 q2 q3 q4 q5 q6 q7 q8 => kk B' T' w' D' G' (hp1.trans q1) (by omega) q3 q4 q5 q6 (by rw [fset_fset, fset_fset] at q7; exact q7) (fr_trans hf1 q8)) lv l0 l2 l3 l4 (by rw [e6]; exact l5)
      · skip
        show bm_G _ _ _ 61 _ [.ref ((sA (rb (π 6)) (w 6).2.1 p k))] B _
        refine g_ast (pc' := 63) cd_Ho_takeSealed rfl (Or.inl ⟨rfl, rfl⟩) rfl (by decide) rfl (fun lv el => ?_)
        have l0 := tm_lk el l0 rfl (by decide)
        have l1 := tm_lk el l1 rfl (by decide)
        have l2 := tm_lk el l2 rfl (by decide)
        have l3 := tm_lk el l3 rfl (by decide)
        have l4 := tm_lk el l4 rfl (by decide)
        have l5 : lv.lookup 5 = some (.ref ((sA (rb (π 6)) (w 6).2.1 p k))) := tm_lks el
        clear el
        refine g_ald (pc' := 65) cd_Ho_takeSealed rfl (Or.inl ⟨rfl, rfl⟩) l5 rfl rfl ?_
        refine g_nnT (t := 77) cd_Ho_takeSealed rfl rfl ?_
        refine g_ald (pc' := 79) cd_Ho_takeSealed rfl (Or.inl ⟨rfl, rfl⟩) l5 rfl rfl ?_
        refine g_nnT (t := 85) cd_Ho_takeSealed rfl rfl ?_
        have hE : (ts_spec (id, K0, K1, on, lnu, se, me) ids q p A) = ts_go (id, K0, K1, on, lnu, se, me) p A k S0 := by unfold ts_spec; rw [if_pos hgo]; dsimp only; rw [ss_find_at (hW.2.2.2.2.1 p hp).1.2 hks hb hno]
        rw [hE] at kk
        exact l_takeS hC hH hp eD hks (hse k S0 hks).1 (hse k S0 hks).2 hkh hx ht5 (by omega) (fun B' T' w' D' G' q1 q2 => kk B' T' w' D' G' q1 (by omega)) lv l0 l2 l3 l4 l5
    · have c37 : (nI p) = (nI q) := Classical.not_not.mp c37
      refine g_k2 (v := (-11)) (pc' := 42) cd_Ho_takeSealed rfl (by decide) rfl ?_
      exact g_reti cd_Ho_takeSealed rfl ⟨_, rfl, (kE _ (by decide) (by decide) (by unfold ts_spec; rw [if_neg (fun e => e.2 ((nI_eq (by omega) (by omega)).mp c37))]))⟩
