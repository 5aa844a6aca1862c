/-! look -/
theorem CK_ln {B : bm_H} {F : Nat → Prop} {N S M ln : Nat} {T : List Tm} {dr : Nat} {K : Tm → Prop} {ca rm kc kl rk : Nat} (h : CK B F N S M ln T dr K ca rm kc kl rk) : ln ≤ T.length := by
  obtain ⟨L, fp, h1, h2, h3, h4⟩ := h.2.1
  exact h3
theorem take_mem {α : Type} {l : List α} {i : Nat} {e : α} (h : l[i]? = some e) (y : α) : (y ∈ l.take (i + 1)) ↔ (y ∈ l.take i ∨ y = e) := by
  rw [List.take_add_one, h]
  simp
set_option maxRecDepth 100000 in
theorem l_look {sc : tm_X} {d : Nat} {B0 : bm_H} {F : Nat → Prop} {N S M ln : Nat} {T : List Tm} {dr : Nat} {K : Tm → Prop} {ca rm kc kl rk : Nat} {ws : List (Tm × Int32)} {wt : List Tm} {L : List LT} {bd ll tc tl tf tg : Nat → Int32} {cf cg : Int32} {ct : Tm} {co : Bool} {li fo db : Int32} {ids dir reg : Nat → Tm} {seen : List Tm} {π : Nat → Nat} {w : Nat → SW} {dev : Nat → DV} {sto : Nat → ST} {p : Nat} {Q : Int32 → bm_H → Prop} (hp : p < 6) (hF : ∀ y, y < 1482 → ¬ F y) (kk : ∀ B' ln' kc' kl' rk', ln ≤ ln' → CK B' F N S M ln' T dr (fun y => K y ∨ y ∈ seen) ca rm kc' kl' rk' → RH B' T ws wt (L, bd, upd ll p (nI dr), tc, tl, tf, tg, cf, cg, ct, co, li ||| (1 <<< (nI p &&& 31)), fo, db) ids dir reg seen π w dev sto → fr (fun y => ¬ F y) B0 B' → Q (nI seen.length) B') : ∀ (m i : Nat) (B : bm_H) (l1 kc1 kl1 rk1 : Nat), i + m = seen.length → ln ≤ l1 → CK B F N S M l1 T dr (fun y => K y ∨ y ∈ seen.take i) ca rm kc1 kl1 rk1 → RH B T ws wt (L, bd, ll, tc, tl, tf, tg, cf, cg, ct, co, li, fo, db) ids dir reg seen π w dev sto → fr (fun y => ¬ F y) B0 B → ∀ lv : tm_L, lv.lookup 0 = some (.ref 0) → lv.lookup 1 = some (.int (nI p)) → lv.lookup 2 = some (.int (nI i)) → bm_G sc (d + 4) 152 28 lv [] B (fun r B' => ∃ v, r = some (.int v) ∧ Q v B') := by
  intro m
  induction m with
  | zero =>
    intro i B l1x kc1 kl1 rk1 him hln hC hH hf lv l0 l1 l2
    have ei : i = seen.length := by omega
    refine g_ild (pc' := 29) cd_Ho_look rfl (Or.inr ⟨_, rfl, rfl, rfl⟩) l2 rfl ?_
    refine g_ald (pc' := 30) cd_Ho_look rfl (Or.inr ⟨_, rfl, rfl, rfl⟩) l0 rfl rfl ?_
    refine g_fI (c := 11) (k := 10) (x := nI seen.length) (pc' := 33) cd_Ho_look rfl rfl rfl rfl rfl (by decide) hH.1.1.1 hH.1.1.2 hH.2.2.2.1.2.2.2.1.1 ?_
    refine g_if2 (t := 55) (pc' := 36) cd_Ho_look rfl rfl rfl (fun c33 => ?_) (fun c33 => ?_)
    · have c33 : (nI seen.length) ≤ (nI i) := c33
      refine g_ald (pc' := 56) cd_Ho_look rfl (Or.inr ⟨_, rfl, rfl, rfl⟩) l0 rfl rfl ?_
      refine g_fR (c := 11) (k := 3) (x := 11) (pc' := 59) cd_Ho_look rfl rfl rfl rfl rfl (by decide) hH.1.1.1 hH.1.1.2 hH.1.2.1.2.2.2.1 ?_
      refine g_ild (pc' := 60) cd_Ho_look rfl (Or.inr ⟨_, rfl, rfl, rfl⟩) l1 rfl ?_
      refine g_ald (pc' := 61) cd_Ho_look rfl (Or.inr ⟨_, rfl, rfl, rfl⟩) l0 rfl rfl ?_
      refine g_fR (c := 11) (k := 0) (x := 1) (pc' := 64) cd_Ho_look rfl rfl rfl rfl rfl (by decide) hH.1.1.1 hH.1.1.2 hH.1.2.1.1 ?_
      refine g_fI (c := 9) (k := 5) (x := nI dr) (pc' := 67) cd_Ho_look rfl rfl rfl rfl rfl (by decide) hC.1.1.1.1 hC.1.1.1.2 hC.1.1.2.2.2.1.2.2 ?_
      refine g_callv (pc' := 70) cd_Ho_look rfl rfl rfl rfl rfl (tm_invV rfl rfl cd_Le_noteLook rfl (Nat.le_of_ble_eq_true rfl) (by decide) hH.2.2.1.1.1.1 hH.2.2.1.1.1.2) (t_noteLook hH.2.2.1 hp (fun B1 hL1 hz1 => ?_))
      have hH1 := RH_le hH hz1.1 (fun y q => by unfold lex; omega) (List.prefix_refl T) hL1
      have hC1 := CK_cls hC hz1 (fun y q => by unfold lex at q; omega)
      rw [ei, List.take_length] at hC1
      show bm_G _ _ _ 70 _ [] B1 _
      refine g_ald (pc' := 71) cd_Ho_look rfl (Or.inr ⟨_, rfl, rfl, rfl⟩) l0 rfl rfl ?_
      refine g_fI (c := 11) (k := 10) (x := nI seen.length) (pc' := 74) cd_Ho_look rfl rfl rfl rfl rfl (by decide) hH1.1.1.1 hH1.1.1.2 hH1.2.2.2.1.2.2.2.1.1 ?_
      exact g_reti cd_Ho_look rfl ⟨_, rfl, (kk B1 _ _ _ _ hln hC1 hH1 (fr_trans hf (fr_mono (fun y q => hF y (by unfold lex at q; omega)) hz1.1)))⟩
    · have c33 : ¬ (nI seen.length) ≤ (nI i) := c33
      exact absurd (show nI seen.length ≤ nI i by rw [ei]; exact Int32.le_refl _) c33
  | succ m ih =>
    intro i B l1x kc1 kl1 rk1 him hln hC hH hf lv l0 l1 l2
    have hi : i < seen.length := by omega
    obtain ⟨e, he⟩ : ∃ e, seen[i]? = some e := ⟨_, List.getElem?_eq_getElem hi⟩
    have tj := hH.2.2.2.1.2.2.2.2 i e he
    rw [Nat.zero_add] at tj
    have h2144 := hH.2.2.2.1.2.2.2.1.2
    refine g_ild (pc' := 29) cd_Ho_look rfl (Or.inr ⟨_, rfl, rfl, rfl⟩) l2 rfl ?_
    refine g_ald (pc' := 30) cd_Ho_look rfl (Or.inr ⟨_, rfl, rfl, rfl⟩) l0 rfl rfl ?_
    refine g_fI (c := 11) (k := 10) (x := nI seen.length) (pc' := 33) cd_Ho_look rfl rfl rfl rfl rfl (by decide) hH.1.1.1 hH.1.1.2 hH.2.2.2.1.2.2.2.1.1 ?_
    refine g_if2 (t := 55) (pc' := 36) cd_Ho_look rfl rfl rfl (fun c33 => ?_) (fun c33 => ?_)
    · have c33 : (nI seen.length) ≤ (nI i) := c33
      exact absurd c33 (nI_ge hi (by omega))
    · have c33 : ¬ (nI seen.length) ≤ (nI i) := c33
      refine g_ald (pc' := 37) cd_Ho_look rfl (Or.inr ⟨_, rfl, rfl, rfl⟩) l0 rfl rfl ?_
      refine g_fR (c := 11) (k := 1) (x := 5) (pc' := 40) cd_Ho_look rfl rfl rfl rfl rfl (by decide) hH.1.1.1 hH.1.1.2 hH.1.2.1.2.1 ?_
      refine g_ald (pc' := 41) cd_Ho_look rfl (Or.inr ⟨_, rfl, rfl, rfl⟩) l0 rfl rfl ?_
      refine g_fR (c := 11) (k := 9) (x := 24) (pc' := 44) cd_Ho_look rfl rfl rfl rfl rfl (by decide) hH.1.1.1 hH.1.1.2 hH.1.2.1.2.2.2.2.2.2.2.2.2 ?_
      refine g_ild (pc' := 45) cd_Ho_look rfl (Or.inr ⟨_, rfl, rfl, rfl⟩) l2 rfl ?_
      refine g_aI (x := (bm_AI B 24 i)) (pc' := 46) cd_Ho_look rfl rfl hH.1.2.2.2.2.2.2.2.1 hH.1.2.2.2.2.2.2.2.2.1 (by rw [show bm_AL B 24 = 2144 from hH.1.2.2.2.2.2.2.2.2.2]; exact vp_in_nI (by omega) (by decide)) (by rw [nI_clamp (by omega)]) ?_
      refine g_callv (pc' := 49) cd_Ho_look rfl rfl rfl rfl rfl (tm_invV rfl rfl cd_Kn_give rfl (Nat.le_of_ble_eq_true rfl) (by decide) (CK_5 hC).1 (CK_5 hC).2) (t_giveC hC tj (fun B1 kc2 kl2 rk2 hC1 hf1 => ?_))
      have hH1 := RH_xc hH hf1 (List.prefix_refl T)
      have hC2 := CK_eqK hC1 (fun y => ⟨fun q => (show K y ∨ y ∈ seen.take (i + 1) from q.elim (fun q => q.elim Or.inl (fun q => Or.inr ((take_mem he y).mpr (Or.inl q)))) (fun q => Or.inr ((take_mem he y).mpr (Or.inr q)))), fun (q : K y ∨ y ∈ seen.take (i + 1)) => q.elim (fun q => Or.inl (Or.inl q)) (fun q => ((take_mem he y).mp q).elim (fun q => Or.inl (Or.inr q)) Or.inr)⟩)
      have hle := CK_ln hC
      show bm_G _ _ _ 49 _ [] B1 _
      refine g_inc (y := nI (i + 1)) (pc' := 52) cd_Ho_look rfl l2 (by decide) (nI_add i 1) rfl (fun lv el => ?_)
      have l0 := tm_lk el l0 rfl (by decide)
      have l1 := tm_lk el l1 rfl (by decide)
      have l2 : lv.lookup 2 = some (.int (nI (i + 1))) := tm_lks el
      clear el
      refine g_pure (pc' := 28) (st' := []) cd_Ho_look rfl rfl (fun _ _ => rfl) ?_
      exact ih (i + 1) B1 _ kc2 kl2 rk2 (by omega) (by omega) hC2 hH1 (fr_trans hf (fr_mono (fun y q => nF_xc hC q) hf1)) lv l0 l1 l2
set_option maxRecDepth 100000 in
theorem t_look {sc : tm_X} {d : Nat} {B : bm_H} {F : Nat → Prop} {N S M ln : Nat} {T : List Tm} {dr : Nat} {K : Tm → Prop} {ca rm kc kl rk : Nat} {ws : List (Tm × Int32)} {wt : List Tm} {L : List LT} {bd ll tc tl tf tg : Nat → Int32} {cf cg : Int32} {ct : Tm} {co : Bool} {li fo db : Int32} {ids dir reg : Nat → Tm} {seen : List Tm} {π : Nat → Nat} {w : Nat → SW} {dev : Nat → DV} {sto : Nat → ST} {p : Nat} {Q : Int32 → bm_H → Prop} (hC : CK B F N S M ln T dr K ca rm kc kl rk) (hH : RH B T ws wt (L, bd, ll, tc, tl, tf, tg, cf, cg, ct, co, li, fo, db) ids dir reg seen π w dev sto) (hp : p < 6) (h21 : (st_terms (sto p)).length ≤ 2144) (kk : ∀ B' ln' kc' kl' rk', ln ≤ ln' → CK B' F N S M ln' T dr (fun y => K y ∨ y ∈ (st_terms (sto p))) ca rm kc' kl' rk' → RH B' T ws wt (L, bd, upd ll p (nI dr), tc, tl, tf, tg, cf, cg, ct, co, li ||| (1 <<< (nI p &&& 31)), fo, db) ids dir reg (st_terms (sto p)) π w dev sto → fr (fun y => ¬ F y) B B' → Q (nI (st_terms (sto p)).length) B') : bm_Gi sc (d + 4) 152 [.ref 0, .int (nI p)] B Q := by
  have hst0 := hH.2.2.2.2.2.2 p hp
  show bm_G sc (d + 4) 152 0 [(0, .ref 0), (1, .int (nI p))] [] B _
  generalize elv : ([(0, .ref 0), (1, .int (nI p))] : tm_L) = lv
  have l0 : lv.lookup 0 = some (.ref 0) := by rw [← elv]; rfl
  have l1 : lv.lookup 1 = some (.int (nI p)) := by rw [← elv]; rfl
  clear elv
  refine g_ild (pc' := 1) cd_Ho_look rfl (Or.inr ⟨_, rfl, rfl, rfl⟩) l1 rfl ?_
  refine g_calli (pc' := 4) cd_Ho_look rfl rfl rfl rfl rfl (tm_invS rfl rfl cd_Ho_isDevice rfl (Nat.le_of_ble_eq_true rfl)) (t_isDev hp ?_)
  show bm_G _ _ _ 4 _ [.int 1] B _
  refine g_if1 (t := 9) (pc' := 7) cd_Ho_look rfl rfl rfl (fun c4 => ?_) (fun c4 => ?_)
  · have c4 : ¬ (1 : Int32) = 0 := c4
    refine g_ald (pc' := 10) cd_Ho_look rfl (Or.inr ⟨_, rfl, rfl, rfl⟩) l0 rfl rfl ?_
    refine g_ald (pc' := 11) cd_Ho_look rfl (Or.inr ⟨_, rfl, rfl, rfl⟩) l0 rfl rfl ?_
    refine g_fR (c := 11) (k := 5) (x := 20) (pc' := 14) cd_Ho_look rfl rfl rfl rfl rfl (by decide) hH.1.1.1 hH.1.1.2 hH.1.2.1.2.2.2.2.2.1 ?_
    refine g_ild (pc' := 15) cd_Ho_look rfl (Or.inr ⟨_, rfl, rfl, rfl⟩) l1 rfl ?_
    refine g_aR (t := 3) (x := (431 + 209 * p)) (pc' := 16) cd_Ho_look rfl rfl hH.1.2.2.2.1.1 hH.1.2.2.2.1.2.1 (by decide) rfl rfl (by rw [show bm_AL B 20 = 6 from hH.1.2.2.2.1.2.2]; exact vp_in_nI hp (by decide)) (by rw [nI_clamp (by omega)]; exact hH.2.2.2.2.2.1 p hp) ?_
    refine g_ald (pc' := 17) cd_Ho_look rfl (Or.inr ⟨_, rfl, rfl, rfl⟩) l0 rfl rfl ?_
    refine g_fR (c := 11) (k := 9) (x := 24) (pc' := 20) cd_Ho_look rfl rfl rfl rfl rfl (by decide) hH.1.1.1 hH.1.1.2 hH.1.2.1.2.2.2.2.2.2.2.2.2 ?_
    refine g_calli (pc' := 23) cd_Ho_look rfl rfl rfl rfl rfl (tm_invV rfl rfl cd_St_copyTerms rfl (Nat.le_of_ble_eq_true rfl) (by decide) (RSt_K hst0).1 (RSt_K hst0).2) (t_copyTerms (TI_T0 hC.1) hst0 hH.1.2.2.2.2.2.2.2 (by omega) (fun B1 hfl hz1 => ?_))
    have hS1 := HoS_fr hH.1 hz1.1
    show bm_G _ _ _ 23 _ [.int (nI (st_terms (sto p)).length), .ref 0] B1 _
    refine g_putI (c := 11) (k := 10) (pc' := 26) cd_Ho_look rfl rfl rfl rfl (by simp [tm_okV, narrow, fits]) (Or.inl rfl) rfl (by decide) hS1.1.1 hS1.1.2 ?_
    have P1 : bm_FI (bm_putI B1 11 10 0 (nI (st_terms (sto p)).length)) 11 10 0 = nI (st_terms (sto p)).length := rfl
    obtain ⟨B2, eB2⟩ : ∃ Bx, Bx = bm_putI B1 11 10 0 (nI (st_terms (sto p)).length) := ⟨_, rfl⟩
    have hf2 : fr (fun y => y = 0) B1 B2 := eB2 ▸ fr_putI B1 11 10 0 _
    have hz2 : fz (fun y => y = 0 ∨ y = 24) B B2 := ⟨fr_trans (fr_mono (fun y q => Or.inr q) hz1.1) (fr_mono (fun y q => Or.inl q) hf2), by rw [eB2]; exact hz1.2.1, by rw [eB2]; exact hz1.2.2⟩
    have e10 : bm_FI B2 11 10 0 = nI (st_terms (sto p)).length := by rw [eB2]; rfl
    have eAI : bm_AI B2 24 = bm_AI B1 24 := by rw [eB2]; rfl
    have eFR : bm_FR B2 11 11 0 = bm_FR B 11 11 0 := by rw [eB2]; exact fr_FR hz1.1 hH.1.1.1 (by omega) 11 11
    have hH2 := RH_seen hH hz2.1 (fun y q => by omega) (List.prefix_refl T) (show RSn B2 T (st_terms (sto p)) from ⟨⟨e10, h21⟩, by rw [eAI]; exact hfl⟩) eFR
    have hC2 := CK_cls hC hz2 (fun y q => by omega)
    rw [← eB2]
    refine g_k1 (v := 0) (pc' := 27) cd_Ho_look rfl (by decide) rfl ?_
    refine g_ist (pc' := 28) cd_Ho_look rfl (Or.inr ⟨_, rfl, rfl, rfl⟩) (by decide) rfl (fun lv el => ?_)
    have l0 := tm_lk el l0 rfl (by decide)
    have l1 := tm_lk el l1 rfl (by decide)
    have l2 : lv.lookup 2 = some (.int 0) := tm_lks el
    clear el
    exact l_look (kc := kc) (kl := kl) (rk := rk) hp (fun y q => nF_lo hC q) (fun B' ln' kc' kl' rk' q1 q2 q3 q4 => kk B' ln' kc' kl' rk' q1 q2 q3 q4) (st_terms (sto p)).length 0 B2 ln kc kl rk (by omega) (Nat.le_refl _) (CK_eqK hC2 (fun y => ⟨Or.inl, fun (q : K y ∨ y ∈ (st_terms (sto p)).take 0) => q.elim id (fun q => by rw [List.take_zero] at q; exact absurd q List.not_mem_nil)⟩)) hH2 (fr_mono (fun y q => nF_lo hC (by omega)) hz2.1) lv l0 l1 l2
  · exact absurd (show ¬ (¬ (1 : Int32) = 0) from c4) (by decide)
set_option maxRecDepth 100000 in
theorem t_look0 {sc : tm_X} {d : Nat} {B : bm_H} {F : Nat → Prop} {N S M ln : Nat} {T : List Tm} {dr : Nat} {K : Tm → Prop} {ca rm kc kl rk : Nat} {ws : List (Tm × Int32)} {wt : List Tm} {G : LG} {ids dir reg : Nat → Tm} {seen : List Tm} {π : Nat → Nat} {w : Nat → SW} {dev : Nat → DV} {sto : Nat → ST} {p : Int32} {Q : Int32 → bm_H → Prop} (hC : CK B F N S M ln T dr K ca rm kc kl rk) (hH : RH B T ws wt G ids dir reg seen π w dev sto) (h : inR p 6 = false) (kk : Q (-1) B) : bm_Gi sc (d + 4) 152 [.ref 0, .int p] B Q := by
  show bm_G sc (d + 4) 152 0 [(0, .ref 0), (1, .int p)] [] B _
  generalize elv : ([(0, .ref 0), (1, .int p)] : tm_L) = lv
  have l0 : lv.lookup 0 = some (.ref 0) := by rw [← elv]; rfl
  have l1 : lv.lookup 1 = some (.int p) := by rw [← elv]; rfl
  clear elv
  refine g_ild (pc' := 1) cd_Ho_look rfl (Or.inr ⟨_, rfl, rfl, rfl⟩) l1 rfl ?_
  refine g_calli (pc' := 4) cd_Ho_look rfl rfl rfl rfl rfl (tm_invS rfl rfl cd_Ho_isDevice rfl (Nat.le_of_ble_eq_true rfl)) (t_notDev h ?_)
  show bm_G _ _ _ 4 _ [.int 0] B _
  refine g_if1 (t := 9) (pc' := 7) cd_Ho_look rfl rfl rfl (fun c4 => ?_) (fun c4 => ?_)
  · exact absurd (show ¬ (0 : Int32) = 0 from c4) (by decide)
  · have c4 : (0 : Int32) = 0 := Classical.not_not.mp c4
    refine g_k1 (v := (-1)) (pc' := 8) cd_Ho_look rfl (by decide) rfl ?_
    exact g_reti cd_Ho_look rfl ⟨_, rfl, kk⟩
