/-! A session is answered -/
noncomputable def pk_find (K0 K1 : PK) (A : Tm) : Option Bool := cif (0 < K0.2.1 ∧ Tpub K0.1 = A) (some false) (cif (0 < K1.2.1 ∧ Tpub K1.1 = A) (some true) none)
noncomputable def on_find (A : Tm) : List (Tm × Int32) → Option Nat
  | [] => none
  | e :: l => cif (Tpub e.1 = A) (some 0) ((on_find A l).map fun i => i + 1)
theorem on_find_no {A : Tm} : ∀ {l : List (Tm × Int32)}, (∀ (k : Nat) (e : Tm × Int32), l[k]? = some e → Tpub e.1 ≠ A) → on_find A l = none
  | [], _ => rfl
  | e :: l, h => by
    unfold on_find
    rw [cif_f (h 0 e rfl), on_find_no (l := l) (fun k e' hk => h (k + 1) e' hk)]
    rfl
theorem on_find_at {A : Tm} : ∀ {l : List (Tm × Int32)} {i : Nat} {e : Tm × Int32}, l[i]? = some e → Tpub e.1 = A → (∀ (j : Nat) (e' : Tm × Int32), j < i → l[j]? = some e' → Tpub e'.1 ≠ A) → on_find A l = some i
  | [], i, e, h, _, _ => by simp at h
  | e0 :: l, 0, e, h, h1, _ => by
    simp at h
    subst h
    unfold on_find
    rw [cif_t h1]
  | e0 :: l, i + 1, e, h, h1, h2 => by
    unfold on_find
    rw [cif_f (h2 0 e0 (by omega) rfl), on_find_at (l := l) (i := i) (e := e) h h1 (fun j e' hj hje => h2 (j + 1) e' (by omega) hje)]
    rfl
def as_root (id ss pi base : Tm) (o : Option Tm) : Tm := match o with
  | none => Tmx 3 (Tmx 1 (Tmx 0 (Tsh ss pi) (Tsh id (pt base 0))) (Tsh ss (pt base 0))) tz
  | some o => Tmx 2 (Tmx 1 (Tmx 0 (Tsh ss pi) (Tsh id (pt base 0))) (Tsh ss (pt base 0))) (Tsh o (pt base 0))
def pk_of (K0 K1 : PK) (b : Bool) : PK := if b = true then K1 else K0
def pk_add (K0 K1 : PK) (b : Bool) (A : Tm) : PK × PK := if b = true then (K0, (K1.1, K1.2.1, K1.2.2 ++ [A])) else ((K0.1, K0.2.1, K0.2.2 ++ [A]), K1)
noncomputable def as_spec (D : DV) (ids : Nat → Tm) (p : Nat) (H : Tm) : Option DV := match D with
  | (id, K0, K1, on, lnu, se, me) => match pk_find K0 K1 (pt H 2) with
    | none => none
    | some b => cif (pt H 3 = tz) (cif (pt H 0 ∈ (pk_of K0 K1 b).2.2 ∨ 4 ≤ (pk_of K0 K1 b).2.2.length) none (some (dv_ses (id, (pk_add K0 K1 b (pt H 0)).1, (pk_add K0 K1 b (pt H 0)).2, on, lnu, se, me) p (ss_start (pt H 0) (pk_of K0 K1 b).1 (as_root id (pk_of K0 K1 b).1 (ids p) (pt H 0) none) false))))
      (match on_find (pt H 3) on with
      | none => none
      | some i => some (dv_ses (id, K0, K1, on.eraseIdx i, lnu, se, me) p (ss_start (pt H 0) (pk_of K0 K1 b).1 (as_root id (pk_of K0 K1 b).1 (ids p) (pt H 0) (some (on.getD i (tz, 0)).1)) true)))
theorem RPs_at {B : bm_H} {T : List Tm} {x : Nat} {b0 : Bool} {K0 K1 : PK} (h : RPs B T x b0 K0 K1) (b : Bool) : RPk B T (pA x b0 (sh b)) (pk_of K0 K1 b) := by
  cases b
  · exact h.2.1
  · exact h.2.2
theorem sh_lt (b : Bool) : sh b < 2 := by cases b <;> decide
theorem pk_add_of (K0 K1 : PK) (b c : Bool) (A : Tm) : (pk_of (pk_add K0 K1 b A).1 (pk_add K0 K1 b A).2 c).1 = (pk_of K0 K1 c).1 := by cases b <;> cases c <;> rfl
theorem RDe_pk1 {B B' : bm_H} {T : List Tm} {x : Nat} {w : SW} {id : Tm} {K0 K1 : PK} {on : List (Tm × Int32)} {lnu : Int32} {se : Nat → List SS} {me : Nat → MM} {b : Bool} {A : Tm} (h : RDe B T x w (id, K0, K1, on, lnu, se, me)) (hf : fz (fun v => v = pA x w.1 (sh b) ∨ v = pA x w.1 (sh b) + 1) B B') (hn : RPk B' T (pA x w.1 (sh b)) ((pk_of K0 K1 b).1, (pk_of K0 K1 b).2.1, (pk_of K0 K1 b).2.2 ++ [A])) : RDe B' T x w (id, (pk_add K0 K1 b A).1, (pk_add K0 K1 b A).2, on, lnu, se, me) := by
  have i0 := pA_in x w.1 (k := 0) (by decide)
  have i1 := pA_in x w.1 (k := 1) (by decide)
  have i2 := pA_01 x w.1
  have ib := pA_in x w.1 (sh_lt b)
  have hS := h.1
  have hP := h.2.2.1
  refine RDe_pks (b' := w.1) h hf.1 (fun y a c d q => by omega) (List.prefix_refl T) ⟨?_, ?_⟩
  · rw [fr_AR hf.1 hS.2.2.1.1 (by omega)]
    exact hP.1
  · cases b
    · exact ⟨hn, RPk_fr hP.2.2 hf.1 (by simp only [sh]; omega) (by simp only [sh]; omega) (List.prefix_refl T)⟩
    · exact ⟨RPk_fr hP.2.1 hf.1 (by simp only [sh]; omega) (by simp only [sh]; omega) (List.prefix_refl T), hn⟩
set_option maxRecDepth 100000 in
theorem l_ansE1 {sc : tm_X} {d : Nat} {B : bm_H} {F : Nat → Prop} {N S M ln : Nat} {T : List Tm} {dr : Nat} {K : Tm → Prop} {ca rm kc kl rk : Nat} {ws : List (Tm × Int32)} {wt : List Tm} {G : LG} {ids dir reg : Nat → Tm} {seen : List Tm} {π : Nat → Nat} {w : Nat → SW} {dev : Nat → DV} {sto : Nat → ST} {id : Tm} {K0 K1 : PK} {on : List (Tm × Int32)} {lnu : Int32} {se : Nat → List SS} {me : Nat → MM} {p : Nat} {b : Bool} {x3 x11 : Int32} {BA C : Tm} {Q : Option Nat → bm_H → Prop} (hC : CK B F N S M ln T dr K ca rm kc kl rk) (hH : RH B T ws wt G ids dir reg seen π w dev sto) (hp : p < 6) (eD : dev 6 = (id, K0, K1, on, lnu, se, me)) (t3 : tv T x3 BA) (t11 : tv T x11 C) (kk : ∀ B' w', CK B' F N S M ln T dr K ca rm kc kl rk → RH B' T ws wt G ids dir reg seen π (fset w 6 w') (fset dev 6 (dv_ses (id, K0, K1, on, lnu, se, me) p (ss_start BA (pk_of K0 K1 b).1 C true))) sto → fz (dxs 1 ca 3 4 (rb (π 6))) B B' → Q (some (sA (rb (π 6)) w'.2.1 p 0)) B') : ∀ lv : tm_L, lv.lookup 0 = some (.ref 0) → lv.lookup 1 = some (.int (nI p)) → lv.lookup 3 = some (.int x3) → lv.lookup 4 = some (.ref (pA (rb (π 6)) (w 6).1 (sh b))) → lv.lookup 5 = some (.int 1) → lv.lookup 11 = some (.int x11) → bm_G sc (d + 4) 109 228 lv [] B (fun r B' => ∃ x, r = some (va_rf x) ∧ Q x B') := by
  intro lv l0 l1 l3 l4 l5 l11
  have hV := hH.2.2.2.2.1
  have r6 := rb_in (hV.2.2.1 6 (by decide))
  have hW := hV.2.2.2.2 6 (by decide)
  rw [eD] at hW
  have hca := hC.2.2.2.2.2.1
  have hnt : ∀ y, 8 ≤ y → y < 1482 → ¬ tcs 1 ca 3 4 y := fun y a b => CK_tcs hC a b
  have hPk := RPs_at hW.2.2.1 b
  have ip := pA_in (rb (π 6)) (w 6).1 (sh_lt b)
  refine g_ald (pc' := 229) cd_Ho_answerSession rfl (Or.inr ⟨_, rfl, rfl, rfl⟩) l0 rfl rfl ?_
  refine g_fR (c := 11) (k := 11) (x := (rb (π 6))) (pc' := 232) cd_Ho_answerSession rfl rfl rfl rfl rfl (by decide) hH.1.1.1 hH.1.1.2 hH.2.2.2.2.1.2.1 ?_
  refine g_ild (pc' := 233) cd_Ho_answerSession rfl (Or.inr ⟨_, rfl, rfl, rfl⟩) l1 rfl ?_
  refine g_callr (pc' := 236) cd_Ho_answerSession rfl rfl rfl rfl rfl (tm_invV rfl rfl cd_De_addSession rfl (Nat.le_of_ble_eq_true rfl) (by decide) (RDe_K (hH.2.2.2.2.1.2.2.2.2 6 (by decide))).1 (RDe_K (hH.2.2.2.2.1.2.2.2.2 6 (by decide))).2) (t_addSession hW hp (fun B1 S0 w1 hD1 ew1 ew2 hz1 => ?_))
  have hg : RSe B1 T (sA (rb (π 6)) w1.2.1 p 0) S0 := (RSs_get (hD1.2.2.2.2.1 p hp) (by rw [fset_same]; rfl)).2.1
  have isl := sA_in (rb (π 6)) w1.2.1 hp (k := 0) (by decide)
  have hT1 := TI_fr hC.1 hz1.1 (by omega) (by omega) (by omega)
  have hS1 := HoS_fr hH.1 hz1.1
  have q62 : bm_FI B1 6 2 (pA (rb (π 6)) (w 6).1 (sh b)) = bm_FI B 6 2 (pA (rb (π 6)) (w 6).1 (sh b)) := fr_FI hz1.1 hPk.1.1.1 (by omega) 6 2
  show bm_G _ _ _ 236 _ [.ref ((sA (rb (π 6)) w1.2.1 p 0))] B1 _
  refine g_ast (pc' := 238) cd_Ho_answerSession rfl (Or.inl ⟨rfl, rfl⟩) rfl (by decide) rfl (fun lv el => ?_)
  have l0 := tm_lk el l0 rfl (by decide)
  have l1 := tm_lk el l1 rfl (by decide)
  have l3 := tm_lk el l3 rfl (by decide)
  have l4 := tm_lk el l4 rfl (by decide)
  have l5 := tm_lk el l5 rfl (by decide)
  have l11 := tm_lk el l11 rfl (by decide)
  have l12 : lv.lookup 12 = some (.ref ((sA (rb (π 6)) w1.2.1 p 0))) := tm_lks el
  clear el
  refine g_ald (pc' := 240) cd_Ho_answerSession rfl (Or.inl ⟨rfl, rfl⟩) l12 rfl rfl ?_
  refine g_ild (pc' := 241) cd_Ho_answerSession rfl (Or.inr ⟨_, rfl, rfl, rfl⟩) l3 rfl ?_
  refine g_ald (pc' := 243) cd_Ho_answerSession rfl (Or.inl ⟨rfl, rfl⟩) l4 rfl rfl ?_
  refine g_fI (c := 6) (k := 2) (x := (bm_FI B 6 2 (pA (rb (π 6)) (w 6).1 (sh b)))) (pc' := 246) cd_Ho_answerSession rfl rfl rfl rfl rfl (by decide) (fr_lt hz1.1 hPk.1.1.1) ((fr_K hz1.1 hPk.1.1.1).trans hPk.1.1.2) q62 ?_
  refine g_ild (pc' := 248) cd_Ho_answerSession rfl (Or.inl ⟨rfl, rfl⟩) l11 rfl ?_
  refine g_ild (pc' := 250) cd_Ho_answerSession rfl (Or.inl ⟨rfl, rfl⟩) l5 rfl ?_
  refine g_callv (pc' := 253) cd_Ho_answerSession rfl rfl rfl rfl rfl (tm_invV rfl rfl cd_Se_start rfl (Nat.le_of_ble_eq_true rfl) (by decide) (RSe_S hg).1.1 (RSe_S hg).1.2) (t_Sstart (o := true) (c := S0.1.2.2.2.length) hT1 (RSe_S hg) (RSe_c hg) (hnt _ (by omega) (by omega)) (hnt _ (by omega) (by omega)) t3 hPk.2.1.1 t11 (fun B2 hT2 hR2 hz2 => ?_))
  show bm_G _ _ _ 253 _ [] B2 _
  refine g_ald (pc' := 255) cd_Ho_answerSession rfl (Or.inl ⟨rfl, rfl⟩) l12 rfl rfl ?_
  have hD3 := RDe_ses (k := 0) hD1 hp (by rw [fset_same]; simp) hz2.1 (fun y a b cc q => by omega) (List.prefix_refl T) hR2
  have hzT : fz (dxs 1 ca 3 4 (rb (π 6))) B B2 := fz_trans (fz_mono (fun y q => Or.inr (by omega)) hz1) (fz_mono (fun y q => Or.inr (by omega)) hz2)
  rw [fset_fset, fset_same] at hD3
  have hH3 := RH_work hC hH hzT (List.prefix_refl T) hD3
  have hC3 := CK_work hC hH hT2 hzT (List.prefix_refl T)
  exact g_retr (x := (some (sA (rb (π 6)) w1.2.1 p 0))) cd_Ho_answerSession rfl ⟨(some (sA (rb (π 6)) w1.2.1 p 0)), rfl, (kk B2 w1 hC3 hH3 hzT)⟩
set_option maxRecDepth 100000 in
theorem l_ans1 {sc : tm_X} {d : Nat} {B : bm_H} {F : Nat → Prop} {N S M ln : Nat} {T : List Tm} {dr : Nat} {K : Tm → Prop} {ca rm kc kl rk : Nat} {ws : List (Tm × Int32)} {wt : List Tm} {G : LG} {ids dir reg : Nat → Tm} {seen : List Tm} {π : Nat → Nat} {w : Nat → SW} {dev : Nat → DV} {sto : Nat → ST} {id : Tm} {K0 K1 : PK} {on : List (Tm × Int32)} {lnu : Int32} {se : Nat → List SS} {me : Nat → MM} {p : Nat} {b : Bool} {x3 x6 : Int32} {BA O : Tm} {Q : Option Nat → bm_H → Prop} (hC : CK B F N S M ln T dr K ca rm kc kl rk) (hH : RH B T ws wt G ids dir reg seen π w dev sto) (hp : p < 6) (eD : dev 6 = (id, K0, K1, on, lnu, se, me)) (kI : kd id = 1) (kJ : kd (ids p) = 1) (kB : kd (pk_of K0 K1 b).1 = 1) (kA : kd (pt BA 0) = 1) (t3 : tv T x3 BA) (t6 : tv T x6 O) (kO : kd O = 1) (hM : T.length + 8 < M) (kk : ∀ B' T' w', T <+: T' → T'.length ≤ T.length + 8 → CK B' F N S M ln T' dr K ca rm kc kl rk → RH B' T' ws wt G ids dir reg seen π (fset w 6 w') (fset dev 6 (dv_ses (id, K0, K1, on, lnu, se, me) p (ss_start BA (pk_of K0 K1 b).1 (as_root id (pk_of K0 K1 b).1 (ids p) BA (some O)) true))) sto → fz (dxs 1 ca 3 4 (rb (π 6))) B B' → Q (some (sA (rb (π 6)) w'.2.1 p 0)) B') : ∀ lv : tm_L, lv.lookup 0 = some (.ref 0) → lv.lookup 1 = some (.int (nI p)) → lv.lookup 3 = some (.int x3) → lv.lookup 4 = some (.ref (pA (rb (π 6)) (w 6).1 (sh b))) → lv.lookup 5 = some (.int 1) → lv.lookup 6 = some (.int x6) → bm_G sc (d + 4) 109 104 lv [] B (fun r B' => ∃ x, r = some (va_rf x) ∧ Q x B') := by
  intro lv l0 l1 l3 l4 l5 l6
  have hrm := hC.2.2.2.2.1.2
  have hca := hC.2.2.2.2.2.1
  have hV := hH.2.2.2.2.1
  have r6 := rb_in (hV.2.2.1 6 (by decide))
  have hW := hV.2.2.2.2 6 (by decide)
  rw [eD] at hW
  have hPk := RPs_at hW.2.2.1 b
  have ip := pA_in (rb (π 6)) (w 6).1 (sh_lt b)
  have ti := hH.2.2.2.1.1 p hp
  have hnt : ∀ y, (y = 0 ∨ (8 ≤ y ∧ y < 1482)) → ¬ tcs 1 ca 3 4 y := fun y a q => by unfold tcs at q; omega
  refine g_ald (pc' := 105) cd_Ho_answerSession rfl (Or.inr ⟨_, rfl, rfl, rfl⟩) l0 rfl rfl ?_
  refine g_fR (c := 11) (k := 0) (x := 1) (pc' := 108) cd_Ho_answerSession rfl rfl rfl rfl rfl (by decide) hH.1.1.1 hH.1.1.2 hH.1.2.1.1 ?_
  refine g_ald (pc' := 109) cd_Ho_answerSession rfl (Or.inr ⟨_, rfl, rfl, rfl⟩) l0 rfl rfl ?_
  refine g_fR (c := 11) (k := 6) (x := 21) (pc' := 112) cd_Ho_answerSession rfl rfl rfl rfl rfl (by decide) hH.1.1.1 hH.1.1.2 hH.1.2.1.2.2.2.2.2.2.1 ?_
  refine g_ild (pc' := 113) cd_Ho_answerSession rfl (Or.inr ⟨_, rfl, rfl, rfl⟩) l1 rfl ?_
  refine g_aI (x := (bm_AI B 21 p)) (pc' := 114) cd_Ho_answerSession rfl rfl hH.1.2.2.2.2.1.1 hH.1.2.2.2.2.1.2.1 (by rw [show bm_AL B 21 = 6 from hH.1.2.2.2.2.1.2.2]; exact vp_in_nI (by omega) (by decide)) (by rw [show bm_AI B 21 = _ from rfl, nI_clamp (by omega)]) ?_
  refine g_calli (pc' := 117) cd_Ho_answerSession rfl rfl rfl rfl rfl (tm_invV rfl rfl cd_Te_publicOf rfl (Nat.le_of_ble_eq_true rfl) (by decide) hC.1.1.1.1 hC.1.1.1.2) (t_publicOf hC.1 ti (fun r1 ht1 => ?_))
  rw [if_pos kJ] at ht1
  show bm_G _ _ _ 117 _ [.int r1] B _
  refine g_ist (pc' := 119) cd_Ho_answerSession rfl (Or.inl ⟨rfl, rfl⟩) (by decide) rfl (fun lv el => ?_)
  have l0 := tm_lk el l0 rfl (by decide)
  have l1 := tm_lk el l1 rfl (by decide)
  have l3 := tm_lk el l3 rfl (by decide)
  have l4 := tm_lk el l4 rfl (by decide)
  have l5 := tm_lk el l5 rfl (by decide)
  have l6 := tm_lk el l6 rfl (by decide)
  have l7 : lv.lookup 7 = some (.int r1) := tm_lks el
  clear el
  refine g_ald (pc' := 120) cd_Ho_answerSession rfl (Or.inr ⟨_, rfl, rfl, rfl⟩) l0 rfl rfl ?_
  refine g_fR (c := 11) (k := 0) (x := 1) (pc' := 123) cd_Ho_answerSession rfl rfl rfl rfl rfl (by decide) hH.1.1.1 hH.1.1.2 hH.1.2.1.1 ?_
  refine g_ald (pc' := 125) cd_Ho_answerSession rfl (Or.inl ⟨rfl, rfl⟩) l4 rfl rfl ?_
  refine g_fI (c := 6) (k := 2) (x := (bm_FI B 6 2 (pA (rb (π 6)) (w 6).1 (sh b)))) (pc' := 128) cd_Ho_answerSession rfl rfl rfl rfl rfl (by decide) hPk.1.1.1 hPk.1.1.2 rfl ?_
  refine g_ild (pc' := 130) cd_Ho_answerSession rfl (Or.inl ⟨rfl, rfl⟩) l7 rfl ?_
  refine g_calli (pc' := 133) cd_Ho_answerSession rfl rfl rfl rfl rfl (tm_invV rfl rfl cd_Te_shared rfl (Nat.le_of_ble_eq_true rfl) (by decide) hC.1.1.1.1 hC.1.1.1.2) (t_shared hC.1 (by omega) hPk.2.1.1 ht1 kB kJ (fun B2 T2 r2 hx2 ht2 => ?_))
  have hT2 := hx2.2.2.1
  have hl2 := hx2.2.1
  have hf2 := (fz_te hx2.2.2.2).1
  have hz2 := fz_te hx2.2.2.2
  have f3_0 := fr_lt hf2 hH.1.1.1
  have g3_0 := (fr_K hf2 hH.1.1.1).trans hH.1.1.2
  have f3_1 := fr_lt hf2 hC.1.1.1.1
  have g3_1 := (fr_K hf2 hC.1.1.1.1).trans hC.1.1.1.2
  have f3_2 := fr_lt hf2 hH.1.2.2.2.2.1.1
  have g3_2 := (fr_K hf2 hH.1.2.2.2.2.1.1).trans hH.1.2.2.2.2.1.2.1
  have f3_3 := fr_lt hf2 (RDe_K (hH.2.2.2.2.1.2.2.2.2 6 (by decide))).1
  have g3_3 := (fr_K hf2 (RDe_K (hH.2.2.2.2.1.2.2.2.2 6 (by decide))).1).trans (RDe_K (hH.2.2.2.2.1.2.2.2.2 6 (by decide))).2
  have f3_4 := fr_lt hf2 hPk.1.1.1
  have g3_4 := (fr_K hf2 hPk.1.1.1).trans hPk.1.1.2
  have q3_0 : bm_FI B2 0 6 (rb (π 6)) = (bm_FI B 0 6 (rb (π 6))) := (fr_FI hf2 (RDe_K (hH.2.2.2.2.1.2.2.2.2 6 (by decide))).1 (hnt _ (by omega)) 0 6).trans rfl
  have q3_1 : bm_FI B2 6 2 (pA (rb (π 6)) (w 6).1 (sh b)) = (bm_FI B 6 2 (pA (rb (π 6)) (w 6).1 (sh b))) := (fr_FI hf2 hPk.1.1.1 (hnt _ (by omega)) 6 2).trans rfl
  have r3_0 : bm_FR B2 11 0 0 = some 1 := (fr_FR hf2 hH.1.1.1 (hnt _ (by omega)) 11 0).trans hH.1.2.1.1
  have r3_1 : bm_FR B2 11 6 0 = some 21 := (fr_FR hf2 hH.1.1.1 (hnt _ (by omega)) 11 6).trans hH.1.2.1.2.2.2.2.2.2.1
  have r3_2 : bm_FR B2 11 11 0 = some (rb (π 6)) := (fr_FR hf2 hH.1.1.1 (hnt _ (by omega)) 11 11).trans hH.2.2.2.2.1.2.1
  have u3_0 : bm_AI B2 21 = (bm_AI B 21) := (fr_AI hf2 hH.1.2.2.2.2.1.1 (hnt _ (by omega))).trans rfl
  have w3_0 : bm_AL B2 21 = 6 := (fr_AL hf2 hH.1.2.2.2.2.1.1).trans hH.1.2.2.2.2.1.2.2
  have tv4_0 := tv_mono hx2.1 t3
  have tv4_1 := tv_mono hx2.1 t6
  have tv4_2 := tv_mono hx2.1 hW.2.1.1
  have tv4_3 := tv_mono hx2.1 hPk.2.1.1
  have tv4_4 := tv_mono hx2.1 ti
  have tv4_5 := tv_mono hx2.1 ht1
  have Z5 : fz (tcs 1 ca 3 4) B B2 := fz_trans (fz_rfl _ B) (fz_mono (fun _ q => q) hz2)
  show bm_G _ _ _ 133 _ [.int r2] B2 _
  refine g_ist (pc' := 135) cd_Ho_answerSession rfl (Or.inl ⟨rfl, rfl⟩) (by decide) rfl (fun lv el => ?_)
  have l0 := tm_lk el l0 rfl (by decide)
  have l1 := tm_lk el l1 rfl (by decide)
  have l3 := tm_lk el l3 rfl (by decide)
  have l4 := tm_lk el l4 rfl (by decide)
  have l5 := tm_lk el l5 rfl (by decide)
  have l6 := tm_lk el l6 rfl (by decide)
  have l7 := tm_lk el l7 rfl (by decide)
  have l8 : lv.lookup 8 = some (.int r2) := tm_lks el
  clear el
  refine g_ald (pc' := 136) cd_Ho_answerSession rfl (Or.inr ⟨_, rfl, rfl, rfl⟩) l0 rfl rfl ?_
  refine g_fR (c := 11) (k := 0) (x := 1) (pc' := 139) cd_Ho_answerSession rfl rfl rfl rfl rfl (by decide) f3_0 g3_0 r3_0 ?_
  refine g_k1 (v := 0) (pc' := 140) cd_Ho_answerSession rfl (by decide) rfl ?_
  refine g_ild (pc' := 142) cd_Ho_answerSession rfl (Or.inl ⟨rfl, rfl⟩) l8 rfl ?_
  refine g_ald (pc' := 143) cd_Ho_answerSession rfl (Or.inr ⟨_, rfl, rfl, rfl⟩) l0 rfl rfl ?_
  refine g_fR (c := 11) (k := 0) (x := 1) (pc' := 146) cd_Ho_answerSession rfl rfl rfl rfl rfl (by decide) f3_0 g3_0 r3_0 ?_
  refine g_ald (pc' := 147) cd_Ho_answerSession rfl (Or.inr ⟨_, rfl, rfl, rfl⟩) l0 rfl rfl ?_
  refine g_fR (c := 11) (k := 11) (x := (rb (π 6))) (pc' := 150) cd_Ho_answerSession rfl rfl rfl rfl rfl (by decide) f3_0 g3_0 r3_2 ?_
  refine g_fI (c := 0) (k := 6) (x := (bm_FI B 0 6 (rb (π 6)))) (pc' := 153) cd_Ho_answerSession rfl rfl rfl rfl rfl (by decide) f3_3 g3_3 q3_0 ?_
  refine g_ild (pc' := 154) cd_Ho_answerSession rfl (Or.inr ⟨_, rfl, rfl, rfl⟩) l3 rfl ?_
  refine g_calli (pc' := 157) cd_Ho_answerSession rfl rfl rfl rfl rfl (tm_invV rfl rfl cd_Te_shared rfl (Nat.le_of_ble_eq_true rfl) (by decide) f3_1 g3_1) (t_shared hT2 (by omega) tv4_2 tv4_0 kI kA (fun B6 T6 r6 hx6 ht6 => ?_))
  have hT6 := hx6.2.2.1
  have hl6 := hx6.2.1
  have hf6 := (fz_te hx6.2.2.2).1
  have hz6 := fz_te hx6.2.2.2
  have f7_0 := fr_lt hf6 f3_0
  have g7_0 := (fr_K hf6 f3_0).trans g3_0
  have f7_1 := fr_lt hf6 f3_1
  have g7_1 := (fr_K hf6 f3_1).trans g3_1
  have f7_2 := fr_lt hf6 f3_2
  have g7_2 := (fr_K hf6 f3_2).trans g3_2
  have f7_3 := fr_lt hf6 f3_3
  have g7_3 := (fr_K hf6 f3_3).trans g3_3
  have f7_4 := fr_lt hf6 f3_4
  have g7_4 := (fr_K hf6 f3_4).trans g3_4
  have q7_0 : bm_FI B6 0 6 (rb (π 6)) = (bm_FI B 0 6 (rb (π 6))) := (fr_FI hf6 f3_3 (hnt _ (by omega)) 0 6).trans q3_0
  have q7_1 : bm_FI B6 6 2 (pA (rb (π 6)) (w 6).1 (sh b)) = (bm_FI B 6 2 (pA (rb (π 6)) (w 6).1 (sh b))) := (fr_FI hf6 f3_4 (hnt _ (by omega)) 6 2).trans q3_1
  have r7_0 : bm_FR B6 11 0 0 = some 1 := (fr_FR hf6 f3_0 (hnt _ (by omega)) 11 0).trans r3_0
  have r7_1 : bm_FR B6 11 6 0 = some 21 := (fr_FR hf6 f3_0 (hnt _ (by omega)) 11 6).trans r3_1
  have r7_2 : bm_FR B6 11 11 0 = some (rb (π 6)) := (fr_FR hf6 f3_0 (hnt _ (by omega)) 11 11).trans r3_2
  have u7_0 : bm_AI B6 21 = (bm_AI B 21) := (fr_AI hf6 f3_2 (hnt _ (by omega))).trans u3_0
  have w7_0 : bm_AL B6 21 = 6 := (fr_AL hf6 f3_2).trans w3_0
  have tv8_0 := tv_mono hx6.1 tv4_0
  have tv8_1 := tv_mono hx6.1 tv4_1
  have tv8_2 := tv_mono hx6.1 tv4_2
  have tv8_3 := tv_mono hx6.1 tv4_3
  have tv8_4 := tv_mono hx6.1 tv4_4
  have tv8_5 := tv_mono hx6.1 tv4_5
  have tv8_6 := tv_mono hx6.1 ht2
  have Z9 : fz (tcs 1 ca 3 4) B B6 := fz_trans Z5 (fz_mono (fun _ q => q) hz6)
  show bm_G _ _ _ 157 _ [.int r6, .int r2, .int 0, .ref 1] B6 _
  refine g_calli (pc' := 160) cd_Ho_answerSession rfl rfl rfl rfl rfl (tm_invV rfl rfl cd_Te_mix rfl (Nat.le_of_ble_eq_true rfl) (by decide) f7_1 g7_1) (t_mix (n := 0) hT6 (by omega) tv8_6 ht6 (fun B10 T10 r10 hx10 ht10 => ?_))
  have hT10 := hx10.2.2.1
  have hl10 := hx10.2.1
  have hf10 := (fz_te hx10.2.2.2).1
  have hz10 := fz_te hx10.2.2.2
  have f11_0 := fr_lt hf10 f7_0
  have g11_0 := (fr_K hf10 f7_0).trans g7_0
  have f11_1 := fr_lt hf10 f7_1
  have g11_1 := (fr_K hf10 f7_1).trans g7_1
  have f11_2 := fr_lt hf10 f7_2
  have g11_2 := (fr_K hf10 f7_2).trans g7_2
  have f11_3 := fr_lt hf10 f7_3
  have g11_3 := (fr_K hf10 f7_3).trans g7_3
  have f11_4 := fr_lt hf10 f7_4
  have g11_4 := (fr_K hf10 f7_4).trans g7_4
  have q11_0 : bm_FI B10 0 6 (rb (π 6)) = (bm_FI B 0 6 (rb (π 6))) := (fr_FI hf10 f7_3 (hnt _ (by omega)) 0 6).trans q7_0
  have q11_1 : bm_FI B10 6 2 (pA (rb (π 6)) (w 6).1 (sh b)) = (bm_FI B 6 2 (pA (rb (π 6)) (w 6).1 (sh b))) := (fr_FI hf10 f7_4 (hnt _ (by omega)) 6 2).trans q7_1
  have r11_0 : bm_FR B10 11 0 0 = some 1 := (fr_FR hf10 f7_0 (hnt _ (by omega)) 11 0).trans r7_0
  have r11_1 : bm_FR B10 11 6 0 = some 21 := (fr_FR hf10 f7_0 (hnt _ (by omega)) 11 6).trans r7_1
  have r11_2 : bm_FR B10 11 11 0 = some (rb (π 6)) := (fr_FR hf10 f7_0 (hnt _ (by omega)) 11 11).trans r7_2
  have u11_0 : bm_AI B10 21 = (bm_AI B 21) := (fr_AI hf10 f7_2 (hnt _ (by omega))).trans u7_0
  have w11_0 : bm_AL B10 21 = 6 := (fr_AL hf10 f7_2).trans w7_0
  have tv12_0 := tv_mono hx10.1 tv8_0
  have tv12_1 := tv_mono hx10.1 tv8_1
  have tv12_2 := tv_mono hx10.1 tv8_2
  have tv12_3 := tv_mono hx10.1 tv8_3
  have tv12_4 := tv_mono hx10.1 tv8_4
  have tv12_5 := tv_mono hx10.1 tv8_5
  have tv12_6 := tv_mono hx10.1 tv8_6
  have tv12_7 := tv_mono hx10.1 ht6
  have Z13 : fz (tcs 1 ca 3 4) B B10 := fz_trans Z9 (fz_mono (fun _ q => q) hz10)
  show bm_G _ _ _ 160 _ [.int r10] B10 _
  refine g_ist (pc' := 162) cd_Ho_answerSession rfl (Or.inl ⟨rfl, rfl⟩) (by decide) rfl (fun lv el => ?_)
  have l0 := tm_lk el l0 rfl (by decide)
  have l1 := tm_lk el l1 rfl (by decide)
  have l3 := tm_lk el l3 rfl (by decide)
  have l4 := tm_lk el l4 rfl (by decide)
  have l5 := tm_lk el l5 rfl (by decide)
  have l6 := tm_lk el l6 rfl (by decide)
  have l7 := tm_lk el l7 rfl (by decide)
  have l8 := tm_lk el l8 rfl (by decide)
  have l9 : lv.lookup 9 = some (.int r10) := tm_lks el
  clear el
  refine g_ald (pc' := 163) cd_Ho_answerSession rfl (Or.inr ⟨_, rfl, rfl, rfl⟩) l0 rfl rfl ?_
  refine g_fR (c := 11) (k := 0) (x := 1) (pc' := 166) cd_Ho_answerSession rfl rfl rfl rfl rfl (by decide) f11_0 g11_0 r11_0 ?_
  refine g_k1 (v := 1) (pc' := 167) cd_Ho_answerSession rfl (by decide) rfl ?_
  refine g_ild (pc' := 169) cd_Ho_answerSession rfl (Or.inl ⟨rfl, rfl⟩) l9 rfl ?_
  refine g_ald (pc' := 170) cd_Ho_answerSession rfl (Or.inr ⟨_, rfl, rfl, rfl⟩) l0 rfl rfl ?_
  refine g_fR (c := 11) (k := 0) (x := 1) (pc' := 173) cd_Ho_answerSession rfl rfl rfl rfl rfl (by decide) f11_0 g11_0 r11_0 ?_
  refine g_ald (pc' := 175) cd_Ho_answerSession rfl (Or.inl ⟨rfl, rfl⟩) l4 rfl rfl ?_
  refine g_fI (c := 6) (k := 2) (x := (bm_FI B 6 2 (pA (rb (π 6)) (w 6).1 (sh b)))) (pc' := 178) cd_Ho_answerSession rfl rfl rfl rfl rfl (by decide) f11_4 g11_4 q11_1 ?_
  refine g_ild (pc' := 179) cd_Ho_answerSession rfl (Or.inr ⟨_, rfl, rfl, rfl⟩) l3 rfl ?_
  refine g_calli (pc' := 182) cd_Ho_answerSession rfl rfl rfl rfl rfl (tm_invV rfl rfl cd_Te_shared rfl (Nat.le_of_ble_eq_true rfl) (by decide) f11_1 g11_1) (t_shared hT10 (by omega) tv12_3 tv12_0 kB kA (fun B14 T14 r14 hx14 ht14 => ?_))
  have hT14 := hx14.2.2.1
  have hl14 := hx14.2.1
  have hf14 := (fz_te hx14.2.2.2).1
  have hz14 := fz_te hx14.2.2.2
  have f15_0 := fr_lt hf14 f11_0
  have g15_0 := (fr_K hf14 f11_0).trans g11_0
  have f15_1 := fr_lt hf14 f11_1
  have g15_1 := (fr_K hf14 f11_1).trans g11_1
  have f15_2 := fr_lt hf14 f11_2
  have g15_2 := (fr_K hf14 f11_2).trans g11_2
  have f15_3 := fr_lt hf14 f11_3
  have g15_3 := (fr_K hf14 f11_3).trans g11_3
  have f15_4 := fr_lt hf14 f11_4
  have g15_4 := (fr_K hf14 f11_4).trans g11_4
  have q15_0 : bm_FI B14 0 6 (rb (π 6)) = (bm_FI B 0 6 (rb (π 6))) := (fr_FI hf14 f11_3 (hnt _ (by omega)) 0 6).trans q11_0
  have q15_1 : bm_FI B14 6 2 (pA (rb (π 6)) (w 6).1 (sh b)) = (bm_FI B 6 2 (pA (rb (π 6)) (w 6).1 (sh b))) := (fr_FI hf14 f11_4 (hnt _ (by omega)) 6 2).trans q11_1
  have r15_0 : bm_FR B14 11 0 0 = some 1 := (fr_FR hf14 f11_0 (hnt _ (by omega)) 11 0).trans r11_0
  have r15_1 : bm_FR B14 11 6 0 = some 21 := (fr_FR hf14 f11_0 (hnt _ (by omega)) 11 6).trans r11_1
  have r15_2 : bm_FR B14 11 11 0 = some (rb (π 6)) := (fr_FR hf14 f11_0 (hnt _ (by omega)) 11 11).trans r11_2
  have u15_0 : bm_AI B14 21 = (bm_AI B 21) := (fr_AI hf14 f11_2 (hnt _ (by omega))).trans u11_0
  have w15_0 : bm_AL B14 21 = 6 := (fr_AL hf14 f11_2).trans w11_0
  have tv16_0 := tv_mono hx14.1 tv12_0
  have tv16_1 := tv_mono hx14.1 tv12_1
  have tv16_2 := tv_mono hx14.1 tv12_2
  have tv16_3 := tv_mono hx14.1 tv12_3
  have tv16_4 := tv_mono hx14.1 tv12_4
  have tv16_5 := tv_mono hx14.1 tv12_5
  have tv16_6 := tv_mono hx14.1 tv12_6
  have tv16_7 := tv_mono hx14.1 tv12_7
  have tv16_8 := tv_mono hx14.1 ht10
  have Z17 : fz (tcs 1 ca 3 4) B B14 := fz_trans Z13 (fz_mono (fun _ q => q) hz14)
  show bm_G _ _ _ 182 _ [.int r14, .int r10, .int 1, .ref 1] B14 _
  refine g_calli (pc' := 185) cd_Ho_answerSession rfl rfl rfl rfl rfl (tm_invV rfl rfl cd_Te_mix rfl (Nat.le_of_ble_eq_true rfl) (by decide) f15_1 g15_1) (t_mix (n := 1) hT14 (by omega) tv16_8 ht14 (fun B18 T18 r18 hx18 ht18 => ?_))
  have hT18 := hx18.2.2.1
  have hl18 := hx18.2.1
  have hf18 := (fz_te hx18.2.2.2).1
  have hz18 := fz_te hx18.2.2.2
  have f19_0 := fr_lt hf18 f15_0
  have g19_0 := (fr_K hf18 f15_0).trans g15_0
  have f19_1 := fr_lt hf18 f15_1
  have g19_1 := (fr_K hf18 f15_1).trans g15_1
  have f19_2 := fr_lt hf18 f15_2
  have g19_2 := (fr_K hf18 f15_2).trans g15_2
  have f19_3 := fr_lt hf18 f15_3
  have g19_3 := (fr_K hf18 f15_3).trans g15_3
  have f19_4 := fr_lt hf18 f15_4
  have g19_4 := (fr_K hf18 f15_4).trans g15_4
  have q19_0 : bm_FI B18 0 6 (rb (π 6)) = (bm_FI B 0 6 (rb (π 6))) := (fr_FI hf18 f15_3 (hnt _ (by omega)) 0 6).trans q15_0
  have q19_1 : bm_FI B18 6 2 (pA (rb (π 6)) (w 6).1 (sh b)) = (bm_FI B 6 2 (pA (rb (π 6)) (w 6).1 (sh b))) := (fr_FI hf18 f15_4 (hnt _ (by omega)) 6 2).trans q15_1
  have r19_0 : bm_FR B18 11 0 0 = some 1 := (fr_FR hf18 f15_0 (hnt _ (by omega)) 11 0).trans r15_0
  have r19_1 : bm_FR B18 11 6 0 = some 21 := (fr_FR hf18 f15_0 (hnt _ (by omega)) 11 6).trans r15_1
  have r19_2 : bm_FR B18 11 11 0 = some (rb (π 6)) := (fr_FR hf18 f15_0 (hnt _ (by omega)) 11 11).trans r15_2
  have u19_0 : bm_AI B18 21 = (bm_AI B 21) := (fr_AI hf18 f15_2 (hnt _ (by omega))).trans u15_0
  have w19_0 : bm_AL B18 21 = 6 := (fr_AL hf18 f15_2).trans w15_0
  have tv20_0 := tv_mono hx18.1 tv16_0
  have tv20_1 := tv_mono hx18.1 tv16_1
  have tv20_2 := tv_mono hx18.1 tv16_2
  have tv20_3 := tv_mono hx18.1 tv16_3
  have tv20_4 := tv_mono hx18.1 tv16_4
  have tv20_5 := tv_mono hx18.1 tv16_5
  have tv20_6 := tv_mono hx18.1 tv16_6
  have tv20_7 := tv_mono hx18.1 tv16_7
  have tv20_8 := tv_mono hx18.1 tv16_8
  have tv20_9 := tv_mono hx18.1 ht14
  have Z21 : fz (tcs 1 ca 3 4) B B18 := fz_trans Z17 (fz_mono (fun _ q => q) hz18)
  show bm_G _ _ _ 185 _ [.int r18] B18 _
  refine g_ist (pc' := 187) cd_Ho_answerSession rfl (Or.inl ⟨rfl, rfl⟩) (by decide) rfl (fun lv el => ?_)
  have l0 := tm_lk el l0 rfl (by decide)
  have l1 := tm_lk el l1 rfl (by decide)
  have l3 := tm_lk el l3 rfl (by decide)
  have l4 := tm_lk el l4 rfl (by decide)
  have l5 := tm_lk el l5 rfl (by decide)
  have l6 := tm_lk el l6 rfl (by decide)
  have l7 := tm_lk el l7 rfl (by decide)
  have l8 := tm_lk el l8 rfl (by decide)
  have l9 := tm_lk el l9 rfl (by decide)
  have l10 : lv.lookup 10 = some (.int r18) := tm_lks el
  clear el
  refine g_ild (pc' := 189) cd_Ho_answerSession rfl (Or.inl ⟨rfl, rfl⟩) l5 rfl ?_
  refine g_if1 (t := 215) (pc' := 192) cd_Ho_answerSession rfl rfl rfl (fun c189 => ?_) (fun c189 => ?_)
  · exact absurd (show (1 : Int32) = 0 from c189) (by decide)
  · have c189 : ¬ (1 : Int32) = 0 := c189
    refine g_ald (pc' := 193) cd_Ho_answerSession rfl (Or.inr ⟨_, rfl, rfl, rfl⟩) l0 rfl rfl ?_
    refine g_fR (c := 11) (k := 0) (x := 1) (pc' := 196) cd_Ho_answerSession rfl rfl rfl rfl rfl (by decide) f19_0 g19_0 r19_0 ?_
    refine g_k1 (v := 2) (pc' := 197) cd_Ho_answerSession rfl (by decide) rfl ?_
    refine g_ild (pc' := 199) cd_Ho_answerSession rfl (Or.inl ⟨rfl, rfl⟩) l10 rfl ?_
    refine g_ald (pc' := 200) cd_Ho_answerSession rfl (Or.inr ⟨_, rfl, rfl, rfl⟩) l0 rfl rfl ?_
    refine g_fR (c := 11) (k := 0) (x := 1) (pc' := 203) cd_Ho_answerSession rfl rfl rfl rfl rfl (by decide) f19_0 g19_0 r19_0 ?_
    refine g_ild (pc' := 205) cd_Ho_answerSession rfl (Or.inl ⟨rfl, rfl⟩) l6 rfl ?_
    refine g_ild (pc' := 206) cd_Ho_answerSession rfl (Or.inr ⟨_, rfl, rfl, rfl⟩) l3 rfl ?_
    refine g_calli (pc' := 209) cd_Ho_answerSession rfl rfl rfl rfl rfl (tm_invV rfl rfl cd_Te_shared rfl (Nat.le_of_ble_eq_true rfl) (by decide) f19_1 g19_1) (t_shared hT18 (by omega) tv20_1 tv20_0 kO kA (fun B22 T22 r22 hx22 ht22 => ?_))
    have hT22 := hx22.2.2.1
    have hl22 := hx22.2.1
    have hf22 := (fz_te hx22.2.2.2).1
    have hz22 := fz_te hx22.2.2.2
    have f23_0 := fr_lt hf22 f19_0
    have g23_0 := (fr_K hf22 f19_0).trans g19_0
    have f23_1 := fr_lt hf22 f19_1
    have g23_1 := (fr_K hf22 f19_1).trans g19_1
    have f23_2 := fr_lt hf22 f19_2
    have g23_2 := (fr_K hf22 f19_2).trans g19_2
    have f23_3 := fr_lt hf22 f19_3
    have g23_3 := (fr_K hf22 f19_3).trans g19_3
    have f23_4 := fr_lt hf22 f19_4
    have g23_4 := (fr_K hf22 f19_4).trans g19_4
    have q23_0 : bm_FI B22 0 6 (rb (π 6)) = (bm_FI B 0 6 (rb (π 6))) := (fr_FI hf22 f19_3 (hnt _ (by omega)) 0 6).trans q19_0
    have q23_1 : bm_FI B22 6 2 (pA (rb (π 6)) (w 6).1 (sh b)) = (bm_FI B 6 2 (pA (rb (π 6)) (w 6).1 (sh b))) := (fr_FI hf22 f19_4 (hnt _ (by omega)) 6 2).trans q19_1
    have r23_0 : bm_FR B22 11 0 0 = some 1 := (fr_FR hf22 f19_0 (hnt _ (by omega)) 11 0).trans r19_0
    have r23_1 : bm_FR B22 11 6 0 = some 21 := (fr_FR hf22 f19_0 (hnt _ (by omega)) 11 6).trans r19_1
    have r23_2 : bm_FR B22 11 11 0 = some (rb (π 6)) := (fr_FR hf22 f19_0 (hnt _ (by omega)) 11 11).trans r19_2
    have u23_0 : bm_AI B22 21 = (bm_AI B 21) := (fr_AI hf22 f19_2 (hnt _ (by omega))).trans u19_0
    have w23_0 : bm_AL B22 21 = 6 := (fr_AL hf22 f19_2).trans w19_0
    have tv24_0 := tv_mono hx22.1 tv20_0
    have tv24_1 := tv_mono hx22.1 tv20_1
    have tv24_2 := tv_mono hx22.1 tv20_2
    have tv24_3 := tv_mono hx22.1 tv20_3
    have tv24_4 := tv_mono hx22.1 tv20_4
    have tv24_5 := tv_mono hx22.1 tv20_5
    have tv24_6 := tv_mono hx22.1 tv20_6
    have tv24_7 := tv_mono hx22.1 tv20_7
    have tv24_8 := tv_mono hx22.1 tv20_8
    have tv24_9 := tv_mono hx22.1 tv20_9
    have tv24_10 := tv_mono hx22.1 ht18
    have Z25 : fz (tcs 1 ca 3 4) B B22 := fz_trans Z21 (fz_mono (fun _ q => q) hz22)
    show bm_G _ _ _ 209 _ [.int r22, .int r18, .int 2, .ref 1] B22 _
    refine g_calli (pc' := 212) cd_Ho_answerSession rfl rfl rfl rfl rfl (tm_invV rfl rfl cd_Te_mix rfl (Nat.le_of_ble_eq_true rfl) (by decide) f23_1 g23_1) (t_mix (n := 2) hT22 (by omega) tv24_10 ht22 (fun B26 T26 r26 hx26 ht26 => ?_))
    have hT26 := hx26.2.2.1
    have hl26 := hx26.2.1
    have hf26 := (fz_te hx26.2.2.2).1
    have hz26 := fz_te hx26.2.2.2
    have f27_0 := fr_lt hf26 f23_0
    have g27_0 := (fr_K hf26 f23_0).trans g23_0
    have f27_1 := fr_lt hf26 f23_1
    have g27_1 := (fr_K hf26 f23_1).trans g23_1
    have f27_2 := fr_lt hf26 f23_2
    have g27_2 := (fr_K hf26 f23_2).trans g23_2
    have f27_3 := fr_lt hf26 f23_3
    have g27_3 := (fr_K hf26 f23_3).trans g23_3
    have f27_4 := fr_lt hf26 f23_4
    have g27_4 := (fr_K hf26 f23_4).trans g23_4
    have q27_0 : bm_FI B26 0 6 (rb (π 6)) = (bm_FI B 0 6 (rb (π 6))) := (fr_FI hf26 f23_3 (hnt _ (by omega)) 0 6).trans q23_0
    have q27_1 : bm_FI B26 6 2 (pA (rb (π 6)) (w 6).1 (sh b)) = (bm_FI B 6 2 (pA (rb (π 6)) (w 6).1 (sh b))) := (fr_FI hf26 f23_4 (hnt _ (by omega)) 6 2).trans q23_1
    have r27_0 : bm_FR B26 11 0 0 = some 1 := (fr_FR hf26 f23_0 (hnt _ (by omega)) 11 0).trans r23_0
    have r27_1 : bm_FR B26 11 6 0 = some 21 := (fr_FR hf26 f23_0 (hnt _ (by omega)) 11 6).trans r23_1
    have r27_2 : bm_FR B26 11 11 0 = some (rb (π 6)) := (fr_FR hf26 f23_0 (hnt _ (by omega)) 11 11).trans r23_2
    have u27_0 : bm_AI B26 21 = (bm_AI B 21) := (fr_AI hf26 f23_2 (hnt _ (by omega))).trans u23_0
    have w27_0 : bm_AL B26 21 = 6 := (fr_AL hf26 f23_2).trans w23_0
    have tv28_0 := tv_mono hx26.1 tv24_0
    have tv28_1 := tv_mono hx26.1 tv24_1
    have tv28_2 := tv_mono hx26.1 tv24_2
    have tv28_3 := tv_mono hx26.1 tv24_3
    have tv28_4 := tv_mono hx26.1 tv24_4
    have tv28_5 := tv_mono hx26.1 tv24_5
    have tv28_6 := tv_mono hx26.1 tv24_6
    have tv28_7 := tv_mono hx26.1 tv24_7
    have tv28_8 := tv_mono hx26.1 tv24_8
    have tv28_9 := tv_mono hx26.1 tv24_9
    have tv28_10 := tv_mono hx26.1 tv24_10
    have tv28_11 := tv_mono hx26.1 ht22
    have Z29 : fz (tcs 1 ca 3 4) B B26 := fz_trans Z25 (fz_mono (fun _ q => q) hz26)
    show bm_G _ _ _ 212 _ [.int r26] B26 _
    refine g_pure (pc' := 226) (st' := [.int r26]) cd_Ho_answerSession rfl rfl (fun _ _ => rfl) ?_
    refine g_ist (pc' := 228) cd_Ho_answerSession rfl (Or.inl ⟨rfl, rfl⟩) (by decide) rfl (fun lv el => ?_)
    have l0 := tm_lk el l0 rfl (by decide)
    have l1 := tm_lk el l1 rfl (by decide)
    have l3 := tm_lk el l3 rfl (by decide)
    have l4 := tm_lk el l4 rfl (by decide)
    have l5 := tm_lk el l5 rfl (by decide)
    have l6 := tm_lk el l6 rfl (by decide)
    have l7 := tm_lk el l7 rfl (by decide)
    have l8 := tm_lk el l8 rfl (by decide)
    have l9 := tm_lk el l9 rfl (by decide)
    have l10 := tm_lk el l10 rfl (by decide)
    have l11 : lv.lookup 11 = some (.int r26) := tm_lks el
    clear el
    have hlen : T26.length ≤ T.length + 8 := by
      omega
    have hpp := ((((((hx2.1.trans hx6.1).trans hx10.1).trans hx14.1).trans hx18.1).trans hx22.1).trans hx26.1)
    have hCk := CK_made hC hT26 hpp Z29 (fun y q => Or.inl q)
    have hHk := RH_te hC hH Z29 hpp
    exact l_ansE1 hCk hHk hp eD tv28_0 ht26 (fun B' w' q3 q4 q5 => kk B' _ w' hpp hlen q3 q4 (fz_trans (fz_mono (fun y q => Or.inl q) Z29) q5)) lv l0 l1 l3 l4 l5 l11
set_option maxRecDepth 100000 in
theorem l_ansE0 {sc : tm_X} {d : Nat} {B : bm_H} {F : Nat → Prop} {N S M ln : Nat} {T : List Tm} {dr : Nat} {K : Tm → Prop} {ca rm kc kl rk : Nat} {ws : List (Tm × Int32)} {wt : List Tm} {G : LG} {ids dir reg : Nat → Tm} {seen : List Tm} {π : Nat → Nat} {w : Nat → SW} {dev : Nat → DV} {sto : Nat → ST} {id : Tm} {K0 K1 : PK} {on : List (Tm × Int32)} {lnu : Int32} {se : Nat → List SS} {me : Nat → MM} {p : Nat} {b : Bool} {x3 x11 : Int32} {BA C : Tm} {Q : Option Nat → bm_H → Prop} (hC : CK B F N S M ln T dr K ca rm kc kl rk) (hH : RH B T ws wt G ids dir reg seen π w dev sto) (hp : p < 6) (eD : dev 6 = (id, K0, K1, on, lnu, se, me)) (t3 : tv T x3 BA) (t11 : tv T x11 C) (kk : ∀ B' w', CK B' F N S M ln T dr K ca rm kc kl rk → RH B' T ws wt G ids dir reg seen π (fset w 6 w') (fset dev 6 (dv_ses (id, K0, K1, on, lnu, se, me) p (ss_start BA (pk_of K0 K1 b).1 C false))) sto → fz (dxs 1 ca 3 4 (rb (π 6))) B B' → Q (some (sA (rb (π 6)) w'.2.1 p 0)) B') : ∀ lv : tm_L, lv.lookup 0 = some (.ref 0) → lv.lookup 1 = some (.int (nI p)) → lv.lookup 3 = some (.int x3) → lv.lookup 4 = some (.ref (pA (rb (π 6)) (w 6).1 (sh b))) → lv.lookup 5 = some (.int 0) → lv.lookup 11 = some (.int x11) → bm_G sc (d + 4) 109 228 lv [] B (fun r B' => ∃ x, r = some (va_rf x) ∧ Q x B') := by
  intro lv l0 l1 l3 l4 l5 l11
  have hV := hH.2.2.2.2.1
  have r6 := rb_in (hV.2.2.1 6 (by decide))
  have hW := hV.2.2.2.2 6 (by decide)
  rw [eD] at hW
  have hca := hC.2.2.2.2.2.1
  have hnt : ∀ y, 8 ≤ y → y < 1482 → ¬ tcs 1 ca 3 4 y := fun y a b => CK_tcs hC a b
  have hPk := RPs_at hW.2.2.1 b
  have ip := pA_in (rb (π 6)) (w 6).1 (sh_lt b)
  refine g_ald (pc' := 229) cd_Ho_answerSession rfl (Or.inr ⟨_, rfl, rfl, rfl⟩) l0 rfl rfl ?_
  refine g_fR (c := 11) (k := 11) (x := (rb (π 6))) (pc' := 232) cd_Ho_answerSession rfl rfl rfl rfl rfl (by decide) hH.1.1.1 hH.1.1.2 hH.2.2.2.2.1.2.1 ?_
  refine g_ild (pc' := 233) cd_Ho_answerSession rfl (Or.inr ⟨_, rfl, rfl, rfl⟩) l1 rfl ?_
  refine g_callr (pc' := 236) cd_Ho_answerSession rfl rfl rfl rfl rfl (tm_invV rfl rfl cd_De_addSession rfl (Nat.le_of_ble_eq_true rfl) (by decide) (RDe_K (hH.2.2.2.2.1.2.2.2.2 6 (by decide))).1 (RDe_K (hH.2.2.2.2.1.2.2.2.2 6 (by decide))).2) (t_addSession hW hp (fun B1 S0 w1 hD1 ew1 ew2 hz1 => ?_))
  have hg : RSe B1 T (sA (rb (π 6)) w1.2.1 p 0) S0 := (RSs_get (hD1.2.2.2.2.1 p hp) (by rw [fset_same]; rfl)).2.1
  have isl := sA_in (rb (π 6)) w1.2.1 hp (k := 0) (by decide)
  have hT1 := TI_fr hC.1 hz1.1 (by omega) (by omega) (by omega)
  have hS1 := HoS_fr hH.1 hz1.1
  have q62 : bm_FI B1 6 2 (pA (rb (π 6)) (w 6).1 (sh b)) = bm_FI B 6 2 (pA (rb (π 6)) (w 6).1 (sh b)) := fr_FI hz1.1 hPk.1.1.1 (by omega) 6 2
  show bm_G _ _ _ 236 _ [.ref ((sA (rb (π 6)) w1.2.1 p 0))] B1 _
  refine g_ast (pc' := 238) cd_Ho_answerSession rfl (Or.inl ⟨rfl, rfl⟩) rfl (by decide) rfl (fun lv el => ?_)
  have l0 := tm_lk el l0 rfl (by decide)
  have l1 := tm_lk el l1 rfl (by decide)
  have l3 := tm_lk el l3 rfl (by decide)
  have l4 := tm_lk el l4 rfl (by decide)
  have l5 := tm_lk el l5 rfl (by decide)
  have l11 := tm_lk el l11 rfl (by decide)
  have l12 : lv.lookup 12 = some (.ref ((sA (rb (π 6)) w1.2.1 p 0))) := tm_lks el
  clear el
  refine g_ald (pc' := 240) cd_Ho_answerSession rfl (Or.inl ⟨rfl, rfl⟩) l12 rfl rfl ?_
  refine g_ild (pc' := 241) cd_Ho_answerSession rfl (Or.inr ⟨_, rfl, rfl, rfl⟩) l3 rfl ?_
  refine g_ald (pc' := 243) cd_Ho_answerSession rfl (Or.inl ⟨rfl, rfl⟩) l4 rfl rfl ?_
  refine g_fI (c := 6) (k := 2) (x := (bm_FI B 6 2 (pA (rb (π 6)) (w 6).1 (sh b)))) (pc' := 246) cd_Ho_answerSession rfl rfl rfl rfl rfl (by decide) (fr_lt hz1.1 hPk.1.1.1) ((fr_K hz1.1 hPk.1.1.1).trans hPk.1.1.2) q62 ?_
  refine g_ild (pc' := 248) cd_Ho_answerSession rfl (Or.inl ⟨rfl, rfl⟩) l11 rfl ?_
  refine g_ild (pc' := 250) cd_Ho_answerSession rfl (Or.inl ⟨rfl, rfl⟩) l5 rfl ?_
  refine g_callv (pc' := 253) cd_Ho_answerSession rfl rfl rfl rfl rfl (tm_invV rfl rfl cd_Se_start rfl (Nat.le_of_ble_eq_true rfl) (by decide) (RSe_S hg).1.1 (RSe_S hg).1.2) (t_Sstart (o := false) (c := S0.1.2.2.2.length) hT1 (RSe_S hg) (RSe_c hg) (hnt _ (by omega) (by omega)) (hnt _ (by omega) (by omega)) t3 hPk.2.1.1 t11 (fun B2 hT2 hR2 hz2 => ?_))
  show bm_G _ _ _ 253 _ [] B2 _
  refine g_ald (pc' := 255) cd_Ho_answerSession rfl (Or.inl ⟨rfl, rfl⟩) l12 rfl rfl ?_
  have hD3 := RDe_ses (k := 0) hD1 hp (by rw [fset_same]; simp) hz2.1 (fun y a b cc q => by omega) (List.prefix_refl T) hR2
  have hzT : fz (dxs 1 ca 3 4 (rb (π 6))) B B2 := fz_trans (fz_mono (fun y q => Or.inr (by omega)) hz1) (fz_mono (fun y q => Or.inr (by omega)) hz2)
  rw [fset_fset, fset_same] at hD3
  have hH3 := RH_work hC hH hzT (List.prefix_refl T) hD3
  have hC3 := CK_work hC hH hT2 hzT (List.prefix_refl T)
  exact g_retr (x := (some (sA (rb (π 6)) w1.2.1 p 0))) cd_Ho_answerSession rfl ⟨(some (sA (rb (π 6)) w1.2.1 p 0)), rfl, (kk B2 w1 hC3 hH3 hzT)⟩
set_option maxRecDepth 100000 in
theorem l_ans0 {sc : tm_X} {d : Nat} {B : bm_H} {F : Nat → Prop} {N S M ln : Nat} {T : List Tm} {dr : Nat} {K : Tm → Prop} {ca rm kc kl rk : Nat} {ws : List (Tm × Int32)} {wt : List Tm} {G : LG} {ids dir reg : Nat → Tm} {seen : List Tm} {π : Nat → Nat} {w : Nat → SW} {dev : Nat → DV} {sto : Nat → ST} {id : Tm} {K0 K1 : PK} {on : List (Tm × Int32)} {lnu : Int32} {se : Nat → List SS} {me : Nat → MM} {p : Nat} {b : Bool} {x3 x6 : Int32} {BA O : Tm} {Q : Option Nat → bm_H → Prop} (hC : CK B F N S M ln T dr K ca rm kc kl rk) (hH : RH B T ws wt G ids dir reg seen π w dev sto) (hp : p < 6) (eD : dev 6 = (id, K0, K1, on, lnu, se, me)) (kI : kd id = 1) (kJ : kd (ids p) = 1) (kB : kd (pk_of K0 K1 b).1 = 1) (kA : kd (pt BA 0) = 1) (t3 : tv T x3 BA) (t6 : tv T x6 O) (kO : True) (hM : T.length + 8 < M) (kk : ∀ B' T' w', T <+: T' → T'.length ≤ T.length + 8 → CK B' F N S M ln T' dr K ca rm kc kl rk → RH B' T' ws wt G ids dir reg seen π (fset w 6 w') (fset dev 6 (dv_ses (id, K0, K1, on, lnu, se, me) p (ss_start BA (pk_of K0 K1 b).1 (as_root id (pk_of K0 K1 b).1 (ids p) BA none) false))) sto → fz (dxs 1 ca 3 4 (rb (π 6))) B B' → Q (some (sA (rb (π 6)) w'.2.1 p 0)) B') : ∀ lv : tm_L, lv.lookup 0 = some (.ref 0) → lv.lookup 1 = some (.int (nI p)) → lv.lookup 3 = some (.int x3) → lv.lookup 4 = some (.ref (pA (rb (π 6)) (w 6).1 (sh b))) → lv.lookup 5 = some (.int 0) → lv.lookup 6 = some (.int x6) → bm_G sc (d + 4) 109 104 lv [] B (fun r B' => ∃ x, r = some (va_rf x) ∧ Q x B') := by
  intro lv l0 l1 l3 l4 l5 l6
  have hrm := hC.2.2.2.2.1.2
  have hca := hC.2.2.2.2.2.1
  have hV := hH.2.2.2.2.1
  have r6 := rb_in (hV.2.2.1 6 (by decide))
  have hW := hV.2.2.2.2 6 (by decide)
  rw [eD] at hW
  have hPk := RPs_at hW.2.2.1 b
  have ip := pA_in (rb (π 6)) (w 6).1 (sh_lt b)
  have ti := hH.2.2.2.1.1 p hp
  have hnt : ∀ y, (y = 0 ∨ (8 ≤ y ∧ y < 1482)) → ¬ tcs 1 ca 3 4 y := fun y a q => by unfold tcs at q; omega
  refine g_ald (pc' := 105) cd_Ho_answerSession rfl (Or.inr ⟨_, rfl, rfl, rfl⟩) l0 rfl rfl ?_
  refine g_fR (c := 11) (k := 0) (x := 1) (pc' := 108) cd_Ho_answerSession rfl rfl rfl rfl rfl (by decide) hH.1.1.1 hH.1.1.2 hH.1.2.1.1 ?_
  refine g_ald (pc' := 109) cd_Ho_answerSession rfl (Or.inr ⟨_, rfl, rfl, rfl⟩) l0 rfl rfl ?_
  refine g_fR (c := 11) (k := 6) (x := 21) (pc' := 112) cd_Ho_answerSession rfl rfl rfl rfl rfl (by decide) hH.1.1.1 hH.1.1.2 hH.1.2.1.2.2.2.2.2.2.1 ?_
  refine g_ild (pc' := 113) cd_Ho_answerSession rfl (Or.inr ⟨_, rfl, rfl, rfl⟩) l1 rfl ?_
  refine g_aI (x := (bm_AI B 21 p)) (pc' := 114) cd_Ho_answerSession rfl rfl hH.1.2.2.2.2.1.1 hH.1.2.2.2.2.1.2.1 (by rw [show bm_AL B 21 = 6 from hH.1.2.2.2.2.1.2.2]; exact vp_in_nI (by omega) (by decide)) (by rw [show bm_AI B 21 = _ from rfl, nI_clamp (by omega)]) ?_
  refine g_calli (pc' := 117) cd_Ho_answerSession rfl rfl rfl rfl rfl (tm_invV rfl rfl cd_Te_publicOf rfl (Nat.le_of_ble_eq_true rfl) (by decide) hC.1.1.1.1 hC.1.1.1.2) (t_publicOf hC.1 ti (fun r30 ht30 => ?_))
  rw [if_pos kJ] at ht30
  show bm_G _ _ _ 117 _ [.int r30] B _
  refine g_ist (pc' := 119) cd_Ho_answerSession rfl (Or.inl ⟨rfl, rfl⟩) (by decide) rfl (fun lv el => ?_)
  have l0 := tm_lk el l0 rfl (by decide)
  have l1 := tm_lk el l1 rfl (by decide)
  have l3 := tm_lk el l3 rfl (by decide)
  have l4 := tm_lk el l4 rfl (by decide)
  have l5 := tm_lk el l5 rfl (by decide)
  have l6 := tm_lk el l6 rfl (by decide)
  have l7 : lv.lookup 7 = some (.int r30) := tm_lks el
  clear el
  refine g_ald (pc' := 120) cd_Ho_answerSession rfl (Or.inr ⟨_, rfl, rfl, rfl⟩) l0 rfl rfl ?_
  refine g_fR (c := 11) (k := 0) (x := 1) (pc' := 123) cd_Ho_answerSession rfl rfl rfl rfl rfl (by decide) hH.1.1.1 hH.1.1.2 hH.1.2.1.1 ?_
  refine g_ald (pc' := 125) cd_Ho_answerSession rfl (Or.inl ⟨rfl, rfl⟩) l4 rfl rfl ?_
  refine g_fI (c := 6) (k := 2) (x := (bm_FI B 6 2 (pA (rb (π 6)) (w 6).1 (sh b)))) (pc' := 128) cd_Ho_answerSession rfl rfl rfl rfl rfl (by decide) hPk.1.1.1 hPk.1.1.2 rfl ?_
  refine g_ild (pc' := 130) cd_Ho_answerSession rfl (Or.inl ⟨rfl, rfl⟩) l7 rfl ?_
  refine g_calli (pc' := 133) cd_Ho_answerSession rfl rfl rfl rfl rfl (tm_invV rfl rfl cd_Te_shared rfl (Nat.le_of_ble_eq_true rfl) (by decide) hC.1.1.1.1 hC.1.1.1.2) (t_shared hC.1 (by omega) hPk.2.1.1 ht30 kB kJ (fun B31 T31 r31 hx31 ht31 => ?_))
  have hT31 := hx31.2.2.1
  have hl31 := hx31.2.1
  have hf31 := (fz_te hx31.2.2.2).1
  have hz31 := fz_te hx31.2.2.2
  have f32_0 := fr_lt hf31 hH.1.1.1
  have g32_0 := (fr_K hf31 hH.1.1.1).trans hH.1.1.2
  have f32_1 := fr_lt hf31 hC.1.1.1.1
  have g32_1 := (fr_K hf31 hC.1.1.1.1).trans hC.1.1.1.2
  have f32_2 := fr_lt hf31 hH.1.2.2.2.2.1.1
  have g32_2 := (fr_K hf31 hH.1.2.2.2.2.1.1).trans hH.1.2.2.2.2.1.2.1
  have f32_3 := fr_lt hf31 (RDe_K (hH.2.2.2.2.1.2.2.2.2 6 (by decide))).1
  have g32_3 := (fr_K hf31 (RDe_K (hH.2.2.2.2.1.2.2.2.2 6 (by decide))).1).trans (RDe_K (hH.2.2.2.2.1.2.2.2.2 6 (by decide))).2
  have f32_4 := fr_lt hf31 hPk.1.1.1
  have g32_4 := (fr_K hf31 hPk.1.1.1).trans hPk.1.1.2
  have q32_0 : bm_FI B31 0 6 (rb (π 6)) = (bm_FI B 0 6 (rb (π 6))) := (fr_FI hf31 (RDe_K (hH.2.2.2.2.1.2.2.2.2 6 (by decide))).1 (hnt _ (by omega)) 0 6).trans rfl
  have q32_1 : bm_FI B31 6 2 (pA (rb (π 6)) (w 6).1 (sh b)) = (bm_FI B 6 2 (pA (rb (π 6)) (w 6).1 (sh b))) := (fr_FI hf31 hPk.1.1.1 (hnt _ (by omega)) 6 2).trans rfl
  have r32_0 : bm_FR B31 11 0 0 = some 1 := (fr_FR hf31 hH.1.1.1 (hnt _ (by omega)) 11 0).trans hH.1.2.1.1
  have r32_1 : bm_FR B31 11 6 0 = some 21 := (fr_FR hf31 hH.1.1.1 (hnt _ (by omega)) 11 6).trans hH.1.2.1.2.2.2.2.2.2.1
  have r32_2 : bm_FR B31 11 11 0 = some (rb (π 6)) := (fr_FR hf31 hH.1.1.1 (hnt _ (by omega)) 11 11).trans hH.2.2.2.2.1.2.1
  have u32_0 : bm_AI B31 21 = (bm_AI B 21) := (fr_AI hf31 hH.1.2.2.2.2.1.1 (hnt _ (by omega))).trans rfl
  have w32_0 : bm_AL B31 21 = 6 := (fr_AL hf31 hH.1.2.2.2.2.1.1).trans hH.1.2.2.2.2.1.2.2
  have tv33_0 := tv_mono hx31.1 t3
  have tv33_1 := tv_mono hx31.1 t6
  have tv33_2 := tv_mono hx31.1 hW.2.1.1
  have tv33_3 := tv_mono hx31.1 hPk.2.1.1
  have tv33_4 := tv_mono hx31.1 ti
  have tv33_5 := tv_mono hx31.1 ht30
  have Z34 : fz (tcs 1 ca 3 4) B B31 := fz_trans (fz_rfl _ B) (fz_mono (fun _ q => q) hz31)
  show bm_G _ _ _ 133 _ [.int r31] B31 _
  refine g_ist (pc' := 135) cd_Ho_answerSession rfl (Or.inl ⟨rfl, rfl⟩) (by decide) rfl (fun lv el => ?_)
  have l0 := tm_lk el l0 rfl (by decide)
  have l1 := tm_lk el l1 rfl (by decide)
  have l3 := tm_lk el l3 rfl (by decide)
  have l4 := tm_lk el l4 rfl (by decide)
  have l5 := tm_lk el l5 rfl (by decide)
  have l6 := tm_lk el l6 rfl (by decide)
  have l7 := tm_lk el l7 rfl (by decide)
  have l8 : lv.lookup 8 = some (.int r31) := tm_lks el
  clear el
  refine g_ald (pc' := 136) cd_Ho_answerSession rfl (Or.inr ⟨_, rfl, rfl, rfl⟩) l0 rfl rfl ?_
  refine g_fR (c := 11) (k := 0) (x := 1) (pc' := 139) cd_Ho_answerSession rfl rfl rfl rfl rfl (by decide) f32_0 g32_0 r32_0 ?_
  refine g_k1 (v := 0) (pc' := 140) cd_Ho_answerSession rfl (by decide) rfl ?_
  refine g_ild (pc' := 142) cd_Ho_answerSession rfl (Or.inl ⟨rfl, rfl⟩) l8 rfl ?_
  refine g_ald (pc' := 143) cd_Ho_answerSession rfl (Or.inr ⟨_, rfl, rfl, rfl⟩) l0 rfl rfl ?_
  refine g_fR (c := 11) (k := 0) (x := 1) (pc' := 146) cd_Ho_answerSession rfl rfl rfl rfl rfl (by decide) f32_0 g32_0 r32_0 ?_
  refine g_ald (pc' := 147) cd_Ho_answerSession rfl (Or.inr ⟨_, rfl, rfl, rfl⟩) l0 rfl rfl ?_
  refine g_fR (c := 11) (k := 11) (x := (rb (π 6))) (pc' := 150) cd_Ho_answerSession rfl rfl rfl rfl rfl (by decide) f32_0 g32_0 r32_2 ?_
  refine g_fI (c := 0) (k := 6) (x := (bm_FI B 0 6 (rb (π 6)))) (pc' := 153) cd_Ho_answerSession rfl rfl rfl rfl rfl (by decide) f32_3 g32_3 q32_0 ?_
  refine g_ild (pc' := 154) cd_Ho_answerSession rfl (Or.inr ⟨_, rfl, rfl, rfl⟩) l3 rfl ?_
  refine g_calli (pc' := 157) cd_Ho_answerSession rfl rfl rfl rfl rfl (tm_invV rfl rfl cd_Te_shared rfl (Nat.le_of_ble_eq_true rfl) (by decide) f32_1 g32_1) (t_shared hT31 (by omega) tv33_2 tv33_0 kI kA (fun B35 T35 r35 hx35 ht35 => ?_))
  have hT35 := hx35.2.2.1
  have hl35 := hx35.2.1
  have hf35 := (fz_te hx35.2.2.2).1
  have hz35 := fz_te hx35.2.2.2
  have f36_0 := fr_lt hf35 f32_0
  have g36_0 := (fr_K hf35 f32_0).trans g32_0
  have f36_1 := fr_lt hf35 f32_1
  have g36_1 := (fr_K hf35 f32_1).trans g32_1
  have f36_2 := fr_lt hf35 f32_2
  have g36_2 := (fr_K hf35 f32_2).trans g32_2
  have f36_3 := fr_lt hf35 f32_3
  have g36_3 := (fr_K hf35 f32_3).trans g32_3
  have f36_4 := fr_lt hf35 f32_4
  have g36_4 := (fr_K hf35 f32_4).trans g32_4
  have q36_0 : bm_FI B35 0 6 (rb (π 6)) = (bm_FI B 0 6 (rb (π 6))) := (fr_FI hf35 f32_3 (hnt _ (by omega)) 0 6).trans q32_0
  have q36_1 : bm_FI B35 6 2 (pA (rb (π 6)) (w 6).1 (sh b)) = (bm_FI B 6 2 (pA (rb (π 6)) (w 6).1 (sh b))) := (fr_FI hf35 f32_4 (hnt _ (by omega)) 6 2).trans q32_1
  have r36_0 : bm_FR B35 11 0 0 = some 1 := (fr_FR hf35 f32_0 (hnt _ (by omega)) 11 0).trans r32_0
  have r36_1 : bm_FR B35 11 6 0 = some 21 := (fr_FR hf35 f32_0 (hnt _ (by omega)) 11 6).trans r32_1
  have r36_2 : bm_FR B35 11 11 0 = some (rb (π 6)) := (fr_FR hf35 f32_0 (hnt _ (by omega)) 11 11).trans r32_2
  have u36_0 : bm_AI B35 21 = (bm_AI B 21) := (fr_AI hf35 f32_2 (hnt _ (by omega))).trans u32_0
  have w36_0 : bm_AL B35 21 = 6 := (fr_AL hf35 f32_2).trans w32_0
  have tv37_0 := tv_mono hx35.1 tv33_0
  have tv37_1 := tv_mono hx35.1 tv33_1
  have tv37_2 := tv_mono hx35.1 tv33_2
  have tv37_3 := tv_mono hx35.1 tv33_3
  have tv37_4 := tv_mono hx35.1 tv33_4
  have tv37_5 := tv_mono hx35.1 tv33_5
  have tv37_6 := tv_mono hx35.1 ht31
  have Z38 : fz (tcs 1 ca 3 4) B B35 := fz_trans Z34 (fz_mono (fun _ q => q) hz35)
  show bm_G _ _ _ 157 _ [.int r35, .int r31, .int 0, .ref 1] B35 _
  refine g_calli (pc' := 160) cd_Ho_answerSession rfl rfl rfl rfl rfl (tm_invV rfl rfl cd_Te_mix rfl (Nat.le_of_ble_eq_true rfl) (by decide) f36_1 g36_1) (t_mix (n := 0) hT35 (by omega) tv37_6 ht35 (fun B39 T39 r39 hx39 ht39 => ?_))
  have hT39 := hx39.2.2.1
  have hl39 := hx39.2.1
  have hf39 := (fz_te hx39.2.2.2).1
  have hz39 := fz_te hx39.2.2.2
  have f40_0 := fr_lt hf39 f36_0
  have g40_0 := (fr_K hf39 f36_0).trans g36_0
  have f40_1 := fr_lt hf39 f36_1
  have g40_1 := (fr_K hf39 f36_1).trans g36_1
  have f40_2 := fr_lt hf39 f36_2
  have g40_2 := (fr_K hf39 f36_2).trans g36_2
  have f40_3 := fr_lt hf39 f36_3
  have g40_3 := (fr_K hf39 f36_3).trans g36_3
  have f40_4 := fr_lt hf39 f36_4
  have g40_4 := (fr_K hf39 f36_4).trans g36_4
  have q40_0 : bm_FI B39 0 6 (rb (π 6)) = (bm_FI B 0 6 (rb (π 6))) := (fr_FI hf39 f36_3 (hnt _ (by omega)) 0 6).trans q36_0
  have q40_1 : bm_FI B39 6 2 (pA (rb (π 6)) (w 6).1 (sh b)) = (bm_FI B 6 2 (pA (rb (π 6)) (w 6).1 (sh b))) := (fr_FI hf39 f36_4 (hnt _ (by omega)) 6 2).trans q36_1
  have r40_0 : bm_FR B39 11 0 0 = some 1 := (fr_FR hf39 f36_0 (hnt _ (by omega)) 11 0).trans r36_0
  have r40_1 : bm_FR B39 11 6 0 = some 21 := (fr_FR hf39 f36_0 (hnt _ (by omega)) 11 6).trans r36_1
  have r40_2 : bm_FR B39 11 11 0 = some (rb (π 6)) := (fr_FR hf39 f36_0 (hnt _ (by omega)) 11 11).trans r36_2
  have u40_0 : bm_AI B39 21 = (bm_AI B 21) := (fr_AI hf39 f36_2 (hnt _ (by omega))).trans u36_0
  have w40_0 : bm_AL B39 21 = 6 := (fr_AL hf39 f36_2).trans w36_0
  have tv41_0 := tv_mono hx39.1 tv37_0
  have tv41_1 := tv_mono hx39.1 tv37_1
  have tv41_2 := tv_mono hx39.1 tv37_2
  have tv41_3 := tv_mono hx39.1 tv37_3
  have tv41_4 := tv_mono hx39.1 tv37_4
  have tv41_5 := tv_mono hx39.1 tv37_5
  have tv41_6 := tv_mono hx39.1 tv37_6
  have tv41_7 := tv_mono hx39.1 ht35
  have Z42 : fz (tcs 1 ca 3 4) B B39 := fz_trans Z38 (fz_mono (fun _ q => q) hz39)
  show bm_G _ _ _ 160 _ [.int r39] B39 _
  refine g_ist (pc' := 162) cd_Ho_answerSession rfl (Or.inl ⟨rfl, rfl⟩) (by decide) rfl (fun lv el => ?_)
  have l0 := tm_lk el l0 rfl (by decide)
  have l1 := tm_lk el l1 rfl (by decide)
  have l3 := tm_lk el l3 rfl (by decide)
  have l4 := tm_lk el l4 rfl (by decide)
  have l5 := tm_lk el l5 rfl (by decide)
  have l6 := tm_lk el l6 rfl (by decide)
  have l7 := tm_lk el l7 rfl (by decide)
  have l8 := tm_lk el l8 rfl (by decide)
  have l9 : lv.lookup 9 = some (.int r39) := tm_lks el
  clear el
  refine g_ald (pc' := 163) cd_Ho_answerSession rfl (Or.inr ⟨_, rfl, rfl, rfl⟩) l0 rfl rfl ?_
  refine g_fR (c := 11) (k := 0) (x := 1) (pc' := 166) cd_Ho_answerSession rfl rfl rfl rfl rfl (by decide) f40_0 g40_0 r40_0 ?_
  refine g_k1 (v := 1) (pc' := 167) cd_Ho_answerSession rfl (by decide) rfl ?_
  refine g_ild (pc' := 169) cd_Ho_answerSession rfl (Or.inl ⟨rfl, rfl⟩) l9 rfl ?_
  refine g_ald (pc' := 170) cd_Ho_answerSession rfl (Or.inr ⟨_, rfl, rfl, rfl⟩) l0 rfl rfl ?_
  refine g_fR (c := 11) (k := 0) (x := 1) (pc' := 173) cd_Ho_answerSession rfl rfl rfl rfl rfl (by decide) f40_0 g40_0 r40_0 ?_
  refine g_ald (pc' := 175) cd_Ho_answerSession rfl (Or.inl ⟨rfl, rfl⟩) l4 rfl rfl ?_
  refine g_fI (c := 6) (k := 2) (x := (bm_FI B 6 2 (pA (rb (π 6)) (w 6).1 (sh b)))) (pc' := 178) cd_Ho_answerSession rfl rfl rfl rfl rfl (by decide) f40_4 g40_4 q40_1 ?_
  refine g_ild (pc' := 179) cd_Ho_answerSession rfl (Or.inr ⟨_, rfl, rfl, rfl⟩) l3 rfl ?_
  refine g_calli (pc' := 182) cd_Ho_answerSession rfl rfl rfl rfl rfl (tm_invV rfl rfl cd_Te_shared rfl (Nat.le_of_ble_eq_true rfl) (by decide) f40_1 g40_1) (t_shared hT39 (by omega) tv41_3 tv41_0 kB kA (fun B43 T43 r43 hx43 ht43 => ?_))
  have hT43 := hx43.2.2.1
  have hl43 := hx43.2.1
  have hf43 := (fz_te hx43.2.2.2).1
  have hz43 := fz_te hx43.2.2.2
  have f44_0 := fr_lt hf43 f40_0
  have g44_0 := (fr_K hf43 f40_0).trans g40_0
  have f44_1 := fr_lt hf43 f40_1
  have g44_1 := (fr_K hf43 f40_1).trans g40_1
  have f44_2 := fr_lt hf43 f40_2
  have g44_2 := (fr_K hf43 f40_2).trans g40_2
  have f44_3 := fr_lt hf43 f40_3
  have g44_3 := (fr_K hf43 f40_3).trans g40_3
  have f44_4 := fr_lt hf43 f40_4
  have g44_4 := (fr_K hf43 f40_4).trans g40_4
  have q44_0 : bm_FI B43 0 6 (rb (π 6)) = (bm_FI B 0 6 (rb (π 6))) := (fr_FI hf43 f40_3 (hnt _ (by omega)) 0 6).trans q40_0
  have q44_1 : bm_FI B43 6 2 (pA (rb (π 6)) (w 6).1 (sh b)) = (bm_FI B 6 2 (pA (rb (π 6)) (w 6).1 (sh b))) := (fr_FI hf43 f40_4 (hnt _ (by omega)) 6 2).trans q40_1
  have r44_0 : bm_FR B43 11 0 0 = some 1 := (fr_FR hf43 f40_0 (hnt _ (by omega)) 11 0).trans r40_0
  have r44_1 : bm_FR B43 11 6 0 = some 21 := (fr_FR hf43 f40_0 (hnt _ (by omega)) 11 6).trans r40_1
  have r44_2 : bm_FR B43 11 11 0 = some (rb (π 6)) := (fr_FR hf43 f40_0 (hnt _ (by omega)) 11 11).trans r40_2
  have u44_0 : bm_AI B43 21 = (bm_AI B 21) := (fr_AI hf43 f40_2 (hnt _ (by omega))).trans u40_0
  have w44_0 : bm_AL B43 21 = 6 := (fr_AL hf43 f40_2).trans w40_0
  have tv45_0 := tv_mono hx43.1 tv41_0
  have tv45_1 := tv_mono hx43.1 tv41_1
  have tv45_2 := tv_mono hx43.1 tv41_2
  have tv45_3 := tv_mono hx43.1 tv41_3
  have tv45_4 := tv_mono hx43.1 tv41_4
  have tv45_5 := tv_mono hx43.1 tv41_5
  have tv45_6 := tv_mono hx43.1 tv41_6
  have tv45_7 := tv_mono hx43.1 tv41_7
  have tv45_8 := tv_mono hx43.1 ht39
  have Z46 : fz (tcs 1 ca 3 4) B B43 := fz_trans Z42 (fz_mono (fun _ q => q) hz43)
  show bm_G _ _ _ 182 _ [.int r43, .int r39, .int 1, .ref 1] B43 _
  refine g_calli (pc' := 185) cd_Ho_answerSession rfl rfl rfl rfl rfl (tm_invV rfl rfl cd_Te_mix rfl (Nat.le_of_ble_eq_true rfl) (by decide) f44_1 g44_1) (t_mix (n := 1) hT43 (by omega) tv45_8 ht43 (fun B47 T47 r47 hx47 ht47 => ?_))
  have hT47 := hx47.2.2.1
  have hl47 := hx47.2.1
  have hf47 := (fz_te hx47.2.2.2).1
  have hz47 := fz_te hx47.2.2.2
  have f48_0 := fr_lt hf47 f44_0
  have g48_0 := (fr_K hf47 f44_0).trans g44_0
  have f48_1 := fr_lt hf47 f44_1
  have g48_1 := (fr_K hf47 f44_1).trans g44_1
  have f48_2 := fr_lt hf47 f44_2
  have g48_2 := (fr_K hf47 f44_2).trans g44_2
  have f48_3 := fr_lt hf47 f44_3
  have g48_3 := (fr_K hf47 f44_3).trans g44_3
  have f48_4 := fr_lt hf47 f44_4
  have g48_4 := (fr_K hf47 f44_4).trans g44_4
  have q48_0 : bm_FI B47 0 6 (rb (π 6)) = (bm_FI B 0 6 (rb (π 6))) := (fr_FI hf47 f44_3 (hnt _ (by omega)) 0 6).trans q44_0
  have q48_1 : bm_FI B47 6 2 (pA (rb (π 6)) (w 6).1 (sh b)) = (bm_FI B 6 2 (pA (rb (π 6)) (w 6).1 (sh b))) := (fr_FI hf47 f44_4 (hnt _ (by omega)) 6 2).trans q44_1
  have r48_0 : bm_FR B47 11 0 0 = some 1 := (fr_FR hf47 f44_0 (hnt _ (by omega)) 11 0).trans r44_0
  have r48_1 : bm_FR B47 11 6 0 = some 21 := (fr_FR hf47 f44_0 (hnt _ (by omega)) 11 6).trans r44_1
  have r48_2 : bm_FR B47 11 11 0 = some (rb (π 6)) := (fr_FR hf47 f44_0 (hnt _ (by omega)) 11 11).trans r44_2
  have u48_0 : bm_AI B47 21 = (bm_AI B 21) := (fr_AI hf47 f44_2 (hnt _ (by omega))).trans u44_0
  have w48_0 : bm_AL B47 21 = 6 := (fr_AL hf47 f44_2).trans w44_0
  have tv49_0 := tv_mono hx47.1 tv45_0
  have tv49_1 := tv_mono hx47.1 tv45_1
  have tv49_2 := tv_mono hx47.1 tv45_2
  have tv49_3 := tv_mono hx47.1 tv45_3
  have tv49_4 := tv_mono hx47.1 tv45_4
  have tv49_5 := tv_mono hx47.1 tv45_5
  have tv49_6 := tv_mono hx47.1 tv45_6
  have tv49_7 := tv_mono hx47.1 tv45_7
  have tv49_8 := tv_mono hx47.1 tv45_8
  have tv49_9 := tv_mono hx47.1 ht43
  have Z50 : fz (tcs 1 ca 3 4) B B47 := fz_trans Z46 (fz_mono (fun _ q => q) hz47)
  show bm_G _ _ _ 185 _ [.int r47] B47 _
  refine g_ist (pc' := 187) cd_Ho_answerSession rfl (Or.inl ⟨rfl, rfl⟩) (by decide) rfl (fun lv el => ?_)
  have l0 := tm_lk el l0 rfl (by decide)
  have l1 := tm_lk el l1 rfl (by decide)
  have l3 := tm_lk el l3 rfl (by decide)
  have l4 := tm_lk el l4 rfl (by decide)
  have l5 := tm_lk el l5 rfl (by decide)
  have l6 := tm_lk el l6 rfl (by decide)
  have l7 := tm_lk el l7 rfl (by decide)
  have l8 := tm_lk el l8 rfl (by decide)
  have l9 := tm_lk el l9 rfl (by decide)
  have l10 : lv.lookup 10 = some (.int r47) := tm_lks el
  clear el
  refine g_ild (pc' := 189) cd_Ho_answerSession rfl (Or.inl ⟨rfl, rfl⟩) l5 rfl ?_
  refine g_if1 (t := 215) (pc' := 192) cd_Ho_answerSession rfl rfl rfl (fun c189 => ?_) (fun c189 => ?_)
  · have c189 : (0 : Int32) = 0 := c189
    refine g_ald (pc' := 216) cd_Ho_answerSession rfl (Or.inr ⟨_, rfl, rfl, rfl⟩) l0 rfl rfl ?_
    refine g_fR (c := 11) (k := 0) (x := 1) (pc' := 219) cd_Ho_answerSession rfl rfl rfl rfl rfl (by decide) f48_0 g48_0 r48_0 ?_
    refine g_k1 (v := 3) (pc' := 220) cd_Ho_answerSession rfl (by decide) rfl ?_
    refine g_ild (pc' := 222) cd_Ho_answerSession rfl (Or.inl ⟨rfl, rfl⟩) l10 rfl ?_
    refine g_k1 (v := 0) (pc' := 223) cd_Ho_answerSession rfl (by decide) rfl ?_
    refine g_calli (pc' := 226) cd_Ho_answerSession rfl rfl rfl rfl rfl (tm_invV rfl rfl cd_Te_mix rfl (Nat.le_of_ble_eq_true rfl) (by decide) f48_1 g48_1) (t_mix (n := 3) hT47 (by omega) ht47 (TI_z hT47) (fun B51 T51 r51 hx51 ht51 => ?_))
    have hT51 := hx51.2.2.1
    have hl51 := hx51.2.1
    have hf51 := (fz_te hx51.2.2.2).1
    have hz51 := fz_te hx51.2.2.2
    have f52_0 := fr_lt hf51 f48_0
    have g52_0 := (fr_K hf51 f48_0).trans g48_0
    have f52_1 := fr_lt hf51 f48_1
    have g52_1 := (fr_K hf51 f48_1).trans g48_1
    have f52_2 := fr_lt hf51 f48_2
    have g52_2 := (fr_K hf51 f48_2).trans g48_2
    have f52_3 := fr_lt hf51 f48_3
    have g52_3 := (fr_K hf51 f48_3).trans g48_3
    have f52_4 := fr_lt hf51 f48_4
    have g52_4 := (fr_K hf51 f48_4).trans g48_4
    have q52_0 : bm_FI B51 0 6 (rb (π 6)) = (bm_FI B 0 6 (rb (π 6))) := (fr_FI hf51 f48_3 (hnt _ (by omega)) 0 6).trans q48_0
    have q52_1 : bm_FI B51 6 2 (pA (rb (π 6)) (w 6).1 (sh b)) = (bm_FI B 6 2 (pA (rb (π 6)) (w 6).1 (sh b))) := (fr_FI hf51 f48_4 (hnt _ (by omega)) 6 2).trans q48_1
    have r52_0 : bm_FR B51 11 0 0 = some 1 := (fr_FR hf51 f48_0 (hnt _ (by omega)) 11 0).trans r48_0
    have r52_1 : bm_FR B51 11 6 0 = some 21 := (fr_FR hf51 f48_0 (hnt _ (by omega)) 11 6).trans r48_1
    have r52_2 : bm_FR B51 11 11 0 = some (rb (π 6)) := (fr_FR hf51 f48_0 (hnt _ (by omega)) 11 11).trans r48_2
    have u52_0 : bm_AI B51 21 = (bm_AI B 21) := (fr_AI hf51 f48_2 (hnt _ (by omega))).trans u48_0
    have w52_0 : bm_AL B51 21 = 6 := (fr_AL hf51 f48_2).trans w48_0
    have tv53_0 := tv_mono hx51.1 tv49_0
    have tv53_1 := tv_mono hx51.1 tv49_1
    have tv53_2 := tv_mono hx51.1 tv49_2
    have tv53_3 := tv_mono hx51.1 tv49_3
    have tv53_4 := tv_mono hx51.1 tv49_4
    have tv53_5 := tv_mono hx51.1 tv49_5
    have tv53_6 := tv_mono hx51.1 tv49_6
    have tv53_7 := tv_mono hx51.1 tv49_7
    have tv53_8 := tv_mono hx51.1 tv49_8
    have tv53_9 := tv_mono hx51.1 tv49_9
    have tv53_10 := tv_mono hx51.1 ht47
    have Z54 : fz (tcs 1 ca 3 4) B B51 := fz_trans Z50 (fz_mono (fun _ q => q) hz51)
    show bm_G _ _ _ 226 _ [.int r51] B51 _
    refine g_ist (pc' := 228) cd_Ho_answerSession rfl (Or.inl ⟨rfl, rfl⟩) (by decide) rfl (fun lv el => ?_)
    have l0 := tm_lk el l0 rfl (by decide)
    have l1 := tm_lk el l1 rfl (by decide)
    have l3 := tm_lk el l3 rfl (by decide)
    have l4 := tm_lk el l4 rfl (by decide)
    have l5 := tm_lk el l5 rfl (by decide)
    have l6 := tm_lk el l6 rfl (by decide)
    have l7 := tm_lk el l7 rfl (by decide)
    have l8 := tm_lk el l8 rfl (by decide)
    have l9 := tm_lk el l9 rfl (by decide)
    have l10 := tm_lk el l10 rfl (by decide)
    have l11 : lv.lookup 11 = some (.int r51) := tm_lks el
    clear el
    have hlen : T51.length ≤ T.length + 8 := by
      omega
    have hpp := (((((hx31.1.trans hx35.1).trans hx39.1).trans hx43.1).trans hx47.1).trans hx51.1)
    have hCk := CK_made hC hT51 hpp Z54 (fun y q => Or.inl q)
    have hHk := RH_te hC hH Z54 hpp
    exact l_ansE0 hCk hHk hp eD tv53_0 ht51 (fun B' w' q3 q4 q5 => kk B' _ w' hpp hlen q3 q4 (fz_trans (fz_mono (fun y q => Or.inl q) Z54) q5)) lv l0 l1 l3 l4 l5 l11
  · exact absurd (show ¬ (0 : Int32) = 0 from c189) (by decide)
set_option maxRecDepth 100000 in
theorem t_answer {sc : tm_X} {d : Nat} {B : bm_H} {F : Nat → Prop} {N S M ln : Nat} {T : List Tm} {dr : Nat} {K : Tm → Prop} {ca rm kc kl rk : Nat} {ws : List (Tm × Int32)} {wt : List Tm} {G : LG} {ids dir reg : Nat → Tm} {seen : List Tm} {π : Nat → Nat} {w : Nat → SW} {dev : Nat → DV} {sto : Nat → ST} {id : Tm} {K0 K1 : PK} {on : List (Tm × Int32)} {lnu : Int32} {se : Nat → List SS} {me : Nat → MM} {p : Nat} {x : Int32} {H : Tm} {Q : Option Nat → bm_H → Prop} (hC : CK B F N S M ln T dr K ca rm kc kl rk) (hH : RH B T ws wt G ids dir reg seen π w dev sto) (hp : p < 6) (eD : dev 6 = (id, K0, K1, on, lnu, se, me)) (kI : kd id = 1) (kJ : kd (ids p) = 1) (hk0 : 0 < K0.2.1 → kd K0.1 = 1) (hk1 : 0 < K1.2.1 → kd K1.1 = 1) (hk : ∀ e, e ∈ on → kd e.1 = 1) (kA : kd (pt (pt H 0) 0) = 1) (hx : tv T x H) (hM : T.length + 8 < M) (kk0 : as_spec (id, K0, K1, on, lnu, se, me) ids p H = none → Q none B) (kk : ∀ B' T' w' D', as_spec (id, K0, K1, on, lnu, se, me) ids p H = some D' → T <+: T' → T'.length ≤ T.length + 8 → CK B' F N S M ln T' dr K ca rm kc kl rk → RH B' T' ws wt G ids dir reg seen π (fset w 6 w') (fset dev 6 D') sto → fz (dxs 1 ca 3 4 (rb (π 6))) B B' → Q (some (sA (rb (π 6)) w'.2.1 p 0)) B') : bm_Gr sc (d + 4) 109 [.ref 0, .int (nI p), .int x] B Q := by
  have hV := hH.2.2.2.2.1
  have r6 := rb_in (hV.2.2.1 6 (by decide))
  have hW := hV.2.2.2.2 6 (by decide)
  rw [eD] at hW
  have hca := hC.2.2.2.2.2.1
  have hs0 : pk_find K0 K1 (pt H 2) = none → as_spec (id, K0, K1, on, lnu, se, me) ids p H = none := fun q => by unfold as_spec; dsimp only; rw [q]
  show bm_G sc (d + 4) 109 0 [(0, .ref 0), (1, .int (nI p)), (2, .int x)] [] B _
  generalize elv : ([(0, .ref 0), (1, .int (nI p)), (2, .int x)] : tm_L) = lv
  have l0 : lv.lookup 0 = some (.ref 0) := by rw [← elv]; rfl
  have l1 : lv.lookup 1 = some (.int (nI p)) := by rw [← elv]; rfl
  have l2 : lv.lookup 2 = some (.int x) := by rw [← elv]; rfl
  clear elv
  refine g_ald (pc' := 1) cd_Ho_answerSession rfl (Or.inr ⟨_, rfl, rfl, rfl⟩) l0 rfl rfl ?_
  refine g_fR (c := 11) (k := 0) (x := 1) (pc' := 4) cd_Ho_answerSession rfl rfl rfl rfl rfl (by decide) hH.1.1.1 hH.1.1.2 hH.1.2.1.1 ?_
  refine g_ild (pc' := 5) cd_Ho_answerSession rfl (Or.inr ⟨_, rfl, rfl, rfl⟩) l2 rfl ?_
  refine g_k1 (v := 0) (pc' := 6) cd_Ho_answerSession rfl (by decide) rfl ?_
  refine g_calli (pc' := 9) cd_Ho_answerSession rfl rfl rfl rfl rfl (tm_invV rfl rfl cd_Te_partOf rfl (Nat.le_of_ble_eq_true rfl) (by decide) hC.1.1.1.1 hC.1.1.1.2) (t_partOf (i := 0) hC.1 hx (by decide) (fun r55 ht55 => ?_))
  show bm_G _ _ _ 9 _ [.int r55] B _
  refine g_ist (pc' := 10) cd_Ho_answerSession rfl (Or.inr ⟨_, rfl, rfl, rfl⟩) (by decide) rfl (fun lv el => ?_)
  have l0 := tm_lk el l0 rfl (by decide)
  have l1 := tm_lk el l1 rfl (by decide)
  have l2 := tm_lk el l2 rfl (by decide)
  have l3 : lv.lookup 3 = some (.int r55) := tm_lks el
  clear el
  refine g_ald (pc' := 11) cd_Ho_answerSession rfl (Or.inr ⟨_, rfl, rfl, rfl⟩) l0 rfl rfl ?_
  refine g_fR (c := 11) (k := 11) (x := (rb (π 6))) (pc' := 14) cd_Ho_answerSession rfl rfl rfl rfl rfl (by decide) hH.1.1.1 hH.1.1.2 hH.2.2.2.2.1.2.1 ?_
  refine g_ald (pc' := 15) cd_Ho_answerSession rfl (Or.inr ⟨_, rfl, rfl, rfl⟩) l0 rfl rfl ?_
  refine g_fR (c := 11) (k := 0) (x := 1) (pc' := 18) cd_Ho_answerSession rfl rfl rfl rfl rfl (by decide) hH.1.1.1 hH.1.1.2 hH.1.2.1.1 ?_
  refine g_ald (pc' := 19) cd_Ho_answerSession rfl (Or.inr ⟨_, rfl, rfl, rfl⟩) l0 rfl rfl ?_
  refine g_fR (c := 11) (k := 0) (x := 1) (pc' := 22) cd_Ho_answerSession rfl rfl rfl rfl rfl (by decide) hH.1.1.1 hH.1.1.2 hH.1.2.1.1 ?_
  refine g_ild (pc' := 23) cd_Ho_answerSession rfl (Or.inr ⟨_, rfl, rfl, rfl⟩) l2 rfl ?_
  refine g_k1 (v := 2) (pc' := 24) cd_Ho_answerSession rfl (by decide) rfl ?_
  refine g_calli (pc' := 27) cd_Ho_answerSession rfl rfl rfl rfl rfl (tm_invV rfl rfl cd_Te_partOf rfl (Nat.le_of_ble_eq_true rfl) (by decide) hC.1.1.1.1 hC.1.1.1.2) (t_partOf (i := 2) hC.1 hx (by decide) (fun r56 ht56 => ?_))
  show bm_G _ _ _ 27 _ [.int r56, .ref 1, .ref ((rb (π 6)))] B _
  refine g_callr (pc' := 30) cd_Ho_answerSession rfl rfl rfl rfl rfl (tm_invV rfl rfl cd_De_findPrekey rfl (Nat.le_of_ble_eq_true rfl) (by decide) (RDe_K (hH.2.2.2.2.1.2.2.2.2 6 (by decide))).1 (RDe_K (hH.2.2.2.2.1.2.2.2.2 6 (by decide))).2) (t_findPrekey hC.1 hW ht56 hk0 hk1 (fun q0 q1 => ?_) (fun q1 q2 => ?_) (fun q0 q1 q2 => ?_))
  · skip
    show bm_G _ _ _ 30 _ [.null] B _
    refine g_ast (pc' := 32) cd_Ho_answerSession rfl (Or.inl ⟨rfl, rfl⟩) rfl (by decide) rfl (fun lv el => ?_)
    have l0 := tm_lk el l0 rfl (by decide)
    have l1 := tm_lk el l1 rfl (by decide)
    have l2 := tm_lk el l2 rfl (by decide)
    have l3 := tm_lk el l3 rfl (by decide)
    have l4 : lv.lookup 4 = some (.null) := tm_lks el
    clear el
    refine g_ald (pc' := 34) cd_Ho_answerSession rfl (Or.inl ⟨rfl, rfl⟩) l4 rfl rfl ?_
    refine g_nnF (t := 39) (pc' := 37) cd_Ho_answerSession rfl rfl rfl ?_
    refine g_pure (pc' := 38) (st' := [.null]) cd_Ho_answerSession rfl rfl (fun _ _ => rfl) ?_
    exact g_retr (x := none) cd_Ho_answerSession rfl ⟨none, rfl, (kk0 (hs0 (by unfold pk_find; rw [cif_f q0, cif_f q1])))⟩
  · skip
    obtain ⟨b, eb⟩ : ∃ b, b = false := ⟨_, rfl⟩
    have hpf : pk_find K0 K1 (pt H 2) = some b := by rw [eb]; unfold pk_find; rw [cif_t ⟨q1, q2⟩]
    have kB : kd (pk_of K0 K1 b).1 = 1 := by rw [eb]; exact hk0 q1
    rw [show pA (rb (π 6)) (w 6).1 0 = (pA (rb (π 6)) (w 6).1 (sh b)) by rw [eb]; rfl]
    have hPk := RPs_at hW.2.2.1 b
    have ip := pA_in (rb (π 6)) (w 6).1 (sh_lt b)
    show bm_G _ _ _ 30 _ [.ref ((pA (rb (π 6)) (w 6).1 (sh b)))] B _
    refine g_ast (pc' := 32) cd_Ho_answerSession rfl (Or.inl ⟨rfl, rfl⟩) rfl (by decide) rfl (fun lv el => ?_)
    have l0 := tm_lk el l0 rfl (by decide)
    have l1 := tm_lk el l1 rfl (by decide)
    have l2 := tm_lk el l2 rfl (by decide)
    have l3 := tm_lk el l3 rfl (by decide)
    have l4 : lv.lookup 4 = some (.ref ((pA (rb (π 6)) (w 6).1 (sh b)))) := tm_lks el
    clear el
    refine g_ald (pc' := 34) cd_Ho_answerSession rfl (Or.inl ⟨rfl, rfl⟩) l4 rfl rfl ?_
    refine g_nnT (t := 39) cd_Ho_answerSession rfl rfl ?_
    refine g_ald (pc' := 40) cd_Ho_answerSession rfl (Or.inr ⟨_, rfl, rfl, rfl⟩) l0 rfl rfl ?_
    refine g_fR (c := 11) (k := 0) (x := 1) (pc' := 43) cd_Ho_answerSession rfl rfl rfl rfl rfl (by decide) hH.1.1.1 hH.1.1.2 hH.1.2.1.1 ?_
    refine g_ild (pc' := 44) cd_Ho_answerSession rfl (Or.inr ⟨_, rfl, rfl, rfl⟩) l2 rfl ?_
    refine g_k1 (v := 3) (pc' := 45) cd_Ho_answerSession rfl (by decide) rfl ?_
    refine g_calli (pc' := 48) cd_Ho_answerSession rfl rfl rfl rfl rfl (tm_invV rfl rfl cd_Te_partOf rfl (Nat.le_of_ble_eq_true rfl) (by decide) hC.1.1.1.1 hC.1.1.1.2) (t_partOf (i := 3) hC.1 hx (by decide) (fun r57 ht57 => ?_))
    show bm_G _ _ _ 48 _ [.int r57] B _
    refine g_if1 (t := 55) (pc' := 51) cd_Ho_answerSession rfl rfl rfl (fun c48 => ?_) (fun c48 => ?_)
    · have c48 : r57 = 0 := c48
      have e3 : pt H 3 = tz := (TI_0 hC.1 ht57).mp c48
      refine g_k1 (v := 0) (pc' := 56) cd_Ho_answerSession rfl (by decide) rfl ?_
      refine g_ist (pc' := 58) cd_Ho_answerSession rfl (Or.inl ⟨rfl, rfl⟩) (by decide) rfl (fun lv el => ?_)
      have l0 := tm_lk el l0 rfl (by decide)
      have l1 := tm_lk el l1 rfl (by decide)
      have l2 := tm_lk el l2 rfl (by decide)
      have l3 := tm_lk el l3 rfl (by decide)
      have l4 := tm_lk el l4 rfl (by decide)
      have l5 : lv.lookup 5 = some (.int 0) := tm_lks el
      clear el
      refine g_ald (pc' := 59) cd_Ho_answerSession rfl (Or.inr ⟨_, rfl, rfl, rfl⟩) l0 rfl rfl ?_
      refine g_fR (c := 11) (k := 11) (x := (rb (π 6))) (pc' := 62) cd_Ho_answerSession rfl rfl rfl rfl rfl (by decide) hH.1.1.1 hH.1.1.2 hH.2.2.2.2.1.2.1 ?_
      refine g_ald (pc' := 63) cd_Ho_answerSession rfl (Or.inr ⟨_, rfl, rfl, rfl⟩) l0 rfl rfl ?_
      refine g_fR (c := 11) (k := 0) (x := 1) (pc' := 66) cd_Ho_answerSession rfl rfl rfl rfl rfl (by decide) hH.1.1.1 hH.1.1.2 hH.1.2.1.1 ?_
      refine g_ald (pc' := 67) cd_Ho_answerSession rfl (Or.inr ⟨_, rfl, rfl, rfl⟩) l0 rfl rfl ?_
      refine g_fR (c := 11) (k := 0) (x := 1) (pc' := 70) cd_Ho_answerSession rfl rfl rfl rfl rfl (by decide) hH.1.1.1 hH.1.1.2 hH.1.2.1.1 ?_
      refine g_ild (pc' := 71) cd_Ho_answerSession rfl (Or.inr ⟨_, rfl, rfl, rfl⟩) l2 rfl ?_
      refine g_k1 (v := 3) (pc' := 72) cd_Ho_answerSession rfl (by decide) rfl ?_
      refine g_calli (pc' := 75) cd_Ho_answerSession rfl rfl rfl rfl rfl (tm_invV rfl rfl cd_Te_partOf rfl (Nat.le_of_ble_eq_true rfl) (by decide) hC.1.1.1.1 hC.1.1.1.2) (t_partOf (i := 3) hC.1 hx (by decide) (fun r58 ht58 => ?_))
      show bm_G _ _ _ 75 _ [.int r58, .ref 1, .ref ((rb (π 6)))] B _
      refine g_calli (pc' := 78) cd_Ho_answerSession rfl rfl rfl rfl rfl (tm_invV rfl rfl cd_De_takeOnce rfl (Nat.le_of_ble_eq_true rfl) (by decide) (RDe_K (hH.2.2.2.2.1.2.2.2.2 6 (by decide))).1 (RDe_K (hH.2.2.2.2.1.2.2.2.2 6 (by decide))).2) (t_takeOnce hC.1 hW ht58 hk (fun q5 => ?_) (fun i e B1 r5 q5 q6 => absurd (q6.trans e3) tn_ne))
      show bm_G _ _ _ 78 _ [.int 0] B _
      refine g_ist (pc' := 80) cd_Ho_answerSession rfl (Or.inl ⟨rfl, rfl⟩) (by decide) rfl (fun lv el => ?_)
      have l0 := tm_lk el l0 rfl (by decide)
      have l1 := tm_lk el l1 rfl (by decide)
      have l2 := tm_lk el l2 rfl (by decide)
      have l3 := tm_lk el l3 rfl (by decide)
      have l4 := tm_lk el l4 rfl (by decide)
      have l5 := tm_lk el l5 rfl (by decide)
      have l6 : lv.lookup 6 = some (.int 0) := tm_lks el
      clear el
      refine g_ild (pc' := 82) cd_Ho_answerSession rfl (Or.inl ⟨rfl, rfl⟩) l5 rfl ?_
      refine g_if1 (t := 93) (pc' := 85) cd_Ho_answerSession rfl rfl rfl (fun c82 => ?_) (fun c82 => ?_)
      · have c82 : (0 : Int32) = 0 := c82
        refine g_ald (pc' := 95) cd_Ho_answerSession rfl (Or.inl ⟨rfl, rfl⟩) l4 rfl rfl ?_
        refine g_ild (pc' := 96) cd_Ho_answerSession rfl (Or.inr ⟨_, rfl, rfl, rfl⟩) l3 rfl ?_
        refine g_calli (pc' := 99) cd_Ho_answerSession rfl rfl rfl rfl rfl (tm_invV rfl rfl cd_Pk_addBase rfl (Nat.le_of_ble_eq_true rfl) (by decide) hPk.1.1.1 hPk.1.1.2) (t_addBase (A0 := (pk_of K0 K1 b).1) (n := (pk_of K0 K1 b).2.1) (bs := (pk_of K0 K1 b).2.2) hC.1 hPk ht55 (fun q8 => ?_) (fun B1 q8 q9 hK1 hz1 => ?_))
        · skip
          show bm_G _ _ _ 99 _ [.int 0] B _
          refine g_if1 (t := 104) (pc' := 102) cd_Ho_answerSession rfl rfl rfl (fun c99 => ?_) (fun c99 => ?_)
          · exact absurd (show ¬ (0 : Int32) = 0 from c99) (by decide)
          · have c99 : (0 : Int32) = 0 := Classical.not_not.mp c99
            refine g_pure (pc' := 103) (st' := [.null]) cd_Ho_answerSession rfl rfl (fun _ _ => rfl) ?_
            exact g_retr (x := none) cd_Ho_answerSession rfl ⟨none, rfl, (kk0 (by unfold as_spec; dsimp only; rw [hpf]; dsimp only; rw [cif_t e3]; rw [cif_t q8]))⟩
        · skip
          have hT1 := TI_fr hC.1 hz1.1 (by omega) (by omega) (by omega)
          have hzT : fz (dxs 1 ca 3 4 (rb (π 6))) B B1 := fz_mono (fun y q => Or.inr (by omega)) hz1
          have hH1 := RH_work hC hH hzT (List.prefix_refl T) (RDe_pk1 hW hz1 hK1)
          have hC1 := CK_work hC hH hT1 hzT (List.prefix_refl T)
          have hw6 : (fset w 6 (w 6)) = w := fset_eta w 6
          rw [hw6] at hH1
          show bm_G _ _ _ 99 _ [.int 1] B1 _
          refine g_if1 (t := 104) (pc' := 102) cd_Ho_answerSession rfl rfl rfl (fun c99 => ?_) (fun c99 => ?_)
          · have c99 : ¬ (1 : Int32) = 0 := c99
            have hbb : pk_of (pk_add K0 K1 b (pt H 0)).1 (pk_add K0 K1 b (pt H 0)).2 b = ((pk_of K0 K1 b).1, (pk_of K0 K1 b).2.1, (pk_of K0 K1 b).2.2 ++ [pt H 0]) := by cases b <;> rfl
            exact l_ans0 (b := b) hC1 hH1 hp (fset_same _ _ _) kI kJ (by rw [pk_add_of]; exact kB) kA ht55 (TI_z hC1.1) trivial hM (fun B' T' w' q1 q2 q3 q4 q5 => kk B' T' w' _ (by unfold as_spec; dsimp only; rw [hpf]; dsimp only; rw [cif_t e3]; rw [cif_f (fun q => q.elim q8 (fun q => by omega))]) q1 q2 q3 (by rw [fset_fset, pk_add_of] at q4; exact q4) (fz_trans hzT q5)) lv l0 l1 l3 l4 l5 l6
          · exact absurd (show ¬ (¬ (1 : Int32) = 0) from c99) (by decide)
      · exact absurd (show ¬ (0 : Int32) = 0 from c82) (by decide)
    · have c48 : ¬ r57 = 0 := c48
      have e3 : ¬ pt H 3 = tz := fun q => c48 ((TI_0 hC.1 ht57).mpr q)
      refine g_k1 (v := 1) (pc' := 52) cd_Ho_answerSession rfl (by decide) rfl ?_
      refine g_pure (pc' := 56) (st' := [.int 1]) cd_Ho_answerSession rfl rfl (fun _ _ => rfl) ?_
      refine g_ist (pc' := 58) cd_Ho_answerSession rfl (Or.inl ⟨rfl, rfl⟩) (by decide) rfl (fun lv el => ?_)
      have l0 := tm_lk el l0 rfl (by decide)
      have l1 := tm_lk el l1 rfl (by decide)
      have l2 := tm_lk el l2 rfl (by decide)
      have l3 := tm_lk el l3 rfl (by decide)
      have l4 := tm_lk el l4 rfl (by decide)
      have l5 : lv.lookup 5 = some (.int 1) := tm_lks el
      clear el
      refine g_ald (pc' := 59) cd_Ho_answerSession rfl (Or.inr ⟨_, rfl, rfl, rfl⟩) l0 rfl rfl ?_
      refine g_fR (c := 11) (k := 11) (x := (rb (π 6))) (pc' := 62) cd_Ho_answerSession rfl rfl rfl rfl rfl (by decide) hH.1.1.1 hH.1.1.2 hH.2.2.2.2.1.2.1 ?_
      refine g_ald (pc' := 63) cd_Ho_answerSession rfl (Or.inr ⟨_, rfl, rfl, rfl⟩) l0 rfl rfl ?_
      refine g_fR (c := 11) (k := 0) (x := 1) (pc' := 66) cd_Ho_answerSession rfl rfl rfl rfl rfl (by decide) hH.1.1.1 hH.1.1.2 hH.1.2.1.1 ?_
      refine g_ald (pc' := 67) cd_Ho_answerSession rfl (Or.inr ⟨_, rfl, rfl, rfl⟩) l0 rfl rfl ?_
      refine g_fR (c := 11) (k := 0) (x := 1) (pc' := 70) cd_Ho_answerSession rfl rfl rfl rfl rfl (by decide) hH.1.1.1 hH.1.1.2 hH.1.2.1.1 ?_
      refine g_ild (pc' := 71) cd_Ho_answerSession rfl (Or.inr ⟨_, rfl, rfl, rfl⟩) l2 rfl ?_
      refine g_k1 (v := 3) (pc' := 72) cd_Ho_answerSession rfl (by decide) rfl ?_
      refine g_calli (pc' := 75) cd_Ho_answerSession rfl rfl rfl rfl rfl (tm_invV rfl rfl cd_Te_partOf rfl (Nat.le_of_ble_eq_true rfl) (by decide) hC.1.1.1.1 hC.1.1.1.2) (t_partOf (i := 3) hC.1 hx (by decide) (fun r59 ht59 => ?_))
      show bm_G _ _ _ 75 _ [.int r59, .ref 1, .ref ((rb (π 6)))] B _
      refine g_calli (pc' := 78) cd_Ho_answerSession rfl rfl rfl rfl rfl (tm_invV rfl rfl cd_De_takeOnce rfl (Nat.le_of_ble_eq_true rfl) (by decide) (RDe_K (hH.2.2.2.2.1.2.2.2.2 6 (by decide))).1 (RDe_K (hH.2.2.2.2.1.2.2.2.2 6 (by decide))).2) (t_takeOnce hC.1 hW ht59 hk (fun q5 => ?_) (fun i e B1 r5 q5 q6 q7 ht5 hD1 hz1 => ?_))
      · skip
        show bm_G _ _ _ 78 _ [.int 0] B _
        refine g_ist (pc' := 80) cd_Ho_answerSession rfl (Or.inl ⟨rfl, rfl⟩) (by decide) rfl (fun lv el => ?_)
        have l0 := tm_lk el l0 rfl (by decide)
        have l1 := tm_lk el l1 rfl (by decide)
        have l2 := tm_lk el l2 rfl (by decide)
        have l3 := tm_lk el l3 rfl (by decide)
        have l4 := tm_lk el l4 rfl (by decide)
        have l5 := tm_lk el l5 rfl (by decide)
        have l6 : lv.lookup 6 = some (.int 0) := tm_lks el
        clear el
        refine g_ild (pc' := 82) cd_Ho_answerSession rfl (Or.inl ⟨rfl, rfl⟩) l5 rfl ?_
        refine g_if1 (t := 93) (pc' := 85) cd_Ho_answerSession rfl rfl rfl (fun c82 => ?_) (fun c82 => ?_)
        · exact absurd (show (1 : Int32) = 0 from c82) (by decide)
        · have c82 : ¬ (1 : Int32) = 0 := c82
          refine g_ild (pc' := 87) cd_Ho_answerSession rfl (Or.inl ⟨rfl, rfl⟩) l6 rfl ?_
          refine g_if1 (t := 104) (pc' := 90) cd_Ho_answerSession rfl rfl rfl (fun c87 => ?_) (fun c87 => ?_)
          · exact absurd (show ¬ (0 : Int32) = 0 from c87) (by decide)
          · have c87 : (0 : Int32) = 0 := Classical.not_not.mp c87
            refine g_pure (pc' := 102) (st' := []) cd_Ho_answerSession rfl rfl (fun _ _ => rfl) ?_
            refine g_pure (pc' := 103) (st' := [.null]) cd_Ho_answerSession rfl rfl (fun _ _ => rfl) ?_
            exact g_retr (x := none) cd_Ho_answerSession rfl ⟨none, rfl, (kk0 (by unfold as_spec; dsimp only; rw [hpf]; dsimp only; rw [cif_f e3]; rw [on_find_no q5]))⟩
      · skip
        have hT1 := TI_fr hC.1 hz1.1 (by omega) (by omega) (by omega)
        have hzT : fz (dxs 1 ca 3 4 (rb (π 6))) B B1 := fz_mono (fun y q => Or.inr (by omega)) hz1
        have hH1 := RH_work hC hH hzT (List.prefix_refl T) hD1
        have hC1 := CK_work hC hH hT1 hzT (List.prefix_refl T)
        have hw6 : (fset w 6 (w 6)) = w := fset_eta w 6
        rw [hw6] at hH1
        have hke : kd e.1 = 1 := hk e (List.mem_of_getElem? q5)
        show bm_G _ _ _ 78 _ [.int r5] B1 _
        refine g_ist (pc' := 80) cd_Ho_answerSession rfl (Or.inl ⟨rfl, rfl⟩) (by decide) rfl (fun lv el => ?_)
        have l0 := tm_lk el l0 rfl (by decide)
        have l1 := tm_lk el l1 rfl (by decide)
        have l2 := tm_lk el l2 rfl (by decide)
        have l3 := tm_lk el l3 rfl (by decide)
        have l4 := tm_lk el l4 rfl (by decide)
        have l5 := tm_lk el l5 rfl (by decide)
        have l6 : lv.lookup 6 = some (.int r5) := tm_lks el
        clear el
        refine g_ild (pc' := 82) cd_Ho_answerSession rfl (Or.inl ⟨rfl, rfl⟩) l5 rfl ?_
        refine g_if1 (t := 93) (pc' := 85) cd_Ho_answerSession rfl rfl rfl (fun c82 => ?_) (fun c82 => ?_)
        · exact absurd (show (1 : Int32) = 0 from c82) (by decide)
        · have c82 : ¬ (1 : Int32) = 0 := c82
          refine g_ild (pc' := 87) cd_Ho_answerSession rfl (Or.inl ⟨rfl, rfl⟩) l6 rfl ?_
          refine g_if1 (t := 104) (pc' := 90) cd_Ho_answerSession rfl rfl rfl (fun c87 => ?_) (fun c87 => ?_)
          · have c87 : ¬ r5 = 0 := c87
            have hge : (on.getD i (tz, 0)).1 = e.1 := by rw [List.getD_eq_getElem?_getD, q5]; rfl
            exact l_ans1 (b := b) hC1 hH1 hp (fset_same _ _ _) kI kJ kB kA ht55 ht5 hke hM (fun B' T' w' q1 q2 q3 q4 q9 => kk B' T' w' _ (by unfold as_spec; dsimp only; rw [hpf]; dsimp only; rw [cif_f e3]; rw [on_find_at q5 q6 q7]) q1 q2 q3 (by rw [fset_fset] at q4; rw [hge]; exact q4) (fz_trans hzT q9)) lv l0 l1 l3 l4 l5 l6
          · have c87 : r5 = 0 := Classical.not_not.mp c87
            exact absurd ((TI_0 hC1.1 ht5).mp c87) (fun q => by rw [q] at hke; exact absurd hke (by decide))
  · skip
    obtain ⟨b, eb⟩ : ∃ b, b = true := ⟨_, rfl⟩
    have hpf : pk_find K0 K1 (pt H 2) = some b := by rw [eb]; unfold pk_find; rw [cif_f q0, cif_t ⟨q1, q2⟩]
    have kB : kd (pk_of K0 K1 b).1 = 1 := by rw [eb]; exact hk1 q1
    rw [show pA (rb (π 6)) (w 6).1 1 = (pA (rb (π 6)) (w 6).1 (sh b)) by rw [eb]; rfl]
    have hPk := RPs_at hW.2.2.1 b
    have ip := pA_in (rb (π 6)) (w 6).1 (sh_lt b)
    show bm_G _ _ _ 30 _ [.ref ((pA (rb (π 6)) (w 6).1 (sh b)))] B _
    refine g_ast (pc' := 32) cd_Ho_answerSession rfl (Or.inl ⟨rfl, rfl⟩) rfl (by decide) rfl (fun lv el => ?_)
    have l0 := tm_lk el l0 rfl (by decide)
    have l1 := tm_lk el l1 rfl (by decide)
    have l2 := tm_lk el l2 rfl (by decide)
    have l3 := tm_lk el l3 rfl (by decide)
    have l4 : lv.lookup 4 = some (.ref ((pA (rb (π 6)) (w 6).1 (sh b)))) := tm_lks el
    clear el
    refine g_ald (pc' := 34) cd_Ho_answerSession rfl (Or.inl ⟨rfl, rfl⟩) l4 rfl rfl ?_
    refine g_nnT (t := 39) cd_Ho_answerSession rfl rfl ?_
    refine g_ald (pc' := 40) cd_Ho_answerSession rfl (Or.inr ⟨_, rfl, rfl, rfl⟩) l0 rfl rfl ?_
    refine g_fR (c := 11) (k := 0) (x := 1) (pc' := 43) cd_Ho_answerSession rfl rfl rfl rfl rfl (by decide) hH.1.1.1 hH.1.1.2 hH.1.2.1.1 ?_
    refine g_ild (pc' := 44) cd_Ho_answerSession rfl (Or.inr ⟨_, rfl, rfl, rfl⟩) l2 rfl ?_
    refine g_k1 (v := 3) (pc' := 45) cd_Ho_answerSession rfl (by decide) rfl ?_
    refine g_calli (pc' := 48) cd_Ho_answerSession rfl rfl rfl rfl rfl (tm_invV rfl rfl cd_Te_partOf rfl (Nat.le_of_ble_eq_true rfl) (by decide) hC.1.1.1.1 hC.1.1.1.2) (t_partOf (i := 3) hC.1 hx (by decide) (fun r60 ht60 => ?_))
    show bm_G _ _ _ 48 _ [.int r60] B _
    refine g_if1 (t := 55) (pc' := 51) cd_Ho_answerSession rfl rfl rfl (fun c48 => ?_) (fun c48 => ?_)
    · have c48 : r60 = 0 := c48
      have e3 : pt H 3 = tz := (TI_0 hC.1 ht60).mp c48
      refine g_k1 (v := 0) (pc' := 56) cd_Ho_answerSession rfl (by decide) rfl ?_
      refine g_ist (pc' := 58) cd_Ho_answerSession rfl (Or.inl ⟨rfl, rfl⟩) (by decide) rfl (fun lv el => ?_)
      have l0 := tm_lk el l0 rfl (by decide)
      have l1 := tm_lk el l1 rfl (by decide)
      have l2 := tm_lk el l2 rfl (by decide)
      have l3 := tm_lk el l3 rfl (by decide)
      have l4 := tm_lk el l4 rfl (by decide)
      have l5 : lv.lookup 5 = some (.int 0) := tm_lks el
      clear el
      refine g_ald (pc' := 59) cd_Ho_answerSession rfl (Or.inr ⟨_, rfl, rfl, rfl⟩) l0 rfl rfl ?_
      refine g_fR (c := 11) (k := 11) (x := (rb (π 6))) (pc' := 62) cd_Ho_answerSession rfl rfl rfl rfl rfl (by decide) hH.1.1.1 hH.1.1.2 hH.2.2.2.2.1.2.1 ?_
      refine g_ald (pc' := 63) cd_Ho_answerSession rfl (Or.inr ⟨_, rfl, rfl, rfl⟩) l0 rfl rfl ?_
      refine g_fR (c := 11) (k := 0) (x := 1) (pc' := 66) cd_Ho_answerSession rfl rfl rfl rfl rfl (by decide) hH.1.1.1 hH.1.1.2 hH.1.2.1.1 ?_
      refine g_ald (pc' := 67) cd_Ho_answerSession rfl (Or.inr ⟨_, rfl, rfl, rfl⟩) l0 rfl rfl ?_
      refine g_fR (c := 11) (k := 0) (x := 1) (pc' := 70) cd_Ho_answerSession rfl rfl rfl rfl rfl (by decide) hH.1.1.1 hH.1.1.2 hH.1.2.1.1 ?_
      refine g_ild (pc' := 71) cd_Ho_answerSession rfl (Or.inr ⟨_, rfl, rfl, rfl⟩) l2 rfl ?_
      refine g_k1 (v := 3) (pc' := 72) cd_Ho_answerSession rfl (by decide) rfl ?_
      refine g_calli (pc' := 75) cd_Ho_answerSession rfl rfl rfl rfl rfl (tm_invV rfl rfl cd_Te_partOf rfl (Nat.le_of_ble_eq_true rfl) (by decide) hC.1.1.1.1 hC.1.1.1.2) (t_partOf (i := 3) hC.1 hx (by decide) (fun r61 ht61 => ?_))
      show bm_G _ _ _ 75 _ [.int r61, .ref 1, .ref ((rb (π 6)))] B _
      refine g_calli (pc' := 78) cd_Ho_answerSession rfl rfl rfl rfl rfl (tm_invV rfl rfl cd_De_takeOnce rfl (Nat.le_of_ble_eq_true rfl) (by decide) (RDe_K (hH.2.2.2.2.1.2.2.2.2 6 (by decide))).1 (RDe_K (hH.2.2.2.2.1.2.2.2.2 6 (by decide))).2) (t_takeOnce hC.1 hW ht61 hk (fun q5 => ?_) (fun i e B1 r5 q5 q6 => absurd (q6.trans e3) tn_ne))
      show bm_G _ _ _ 78 _ [.int 0] B _
      refine g_ist (pc' := 80) cd_Ho_answerSession rfl (Or.inl ⟨rfl, rfl⟩) (by decide) rfl (fun lv el => ?_)
      have l0 := tm_lk el l0 rfl (by decide)
      have l1 := tm_lk el l1 rfl (by decide)
      have l2 := tm_lk el l2 rfl (by decide)
      have l3 := tm_lk el l3 rfl (by decide)
      have l4 := tm_lk el l4 rfl (by decide)
      have l5 := tm_lk el l5 rfl (by decide)
      have l6 : lv.lookup 6 = some (.int 0) := tm_lks el
      clear el
      refine g_ild (pc' := 82) cd_Ho_answerSession rfl (Or.inl ⟨rfl, rfl⟩) l5 rfl ?_
      refine g_if1 (t := 93) (pc' := 85) cd_Ho_answerSession rfl rfl rfl (fun c82 => ?_) (fun c82 => ?_)
      · have c82 : (0 : Int32) = 0 := c82
        refine g_ald (pc' := 95) cd_Ho_answerSession rfl (Or.inl ⟨rfl, rfl⟩) l4 rfl rfl ?_
        refine g_ild (pc' := 96) cd_Ho_answerSession rfl (Or.inr ⟨_, rfl, rfl, rfl⟩) l3 rfl ?_
        refine g_calli (pc' := 99) cd_Ho_answerSession rfl rfl rfl rfl rfl (tm_invV rfl rfl cd_Pk_addBase rfl (Nat.le_of_ble_eq_true rfl) (by decide) hPk.1.1.1 hPk.1.1.2) (t_addBase (A0 := (pk_of K0 K1 b).1) (n := (pk_of K0 K1 b).2.1) (bs := (pk_of K0 K1 b).2.2) hC.1 hPk ht55 (fun q8 => ?_) (fun B1 q8 q9 hK1 hz1 => ?_))
        · skip
          show bm_G _ _ _ 99 _ [.int 0] B _
          refine g_if1 (t := 104) (pc' := 102) cd_Ho_answerSession rfl rfl rfl (fun c99 => ?_) (fun c99 => ?_)
          · exact absurd (show ¬ (0 : Int32) = 0 from c99) (by decide)
          · have c99 : (0 : Int32) = 0 := Classical.not_not.mp c99
            refine g_pure (pc' := 103) (st' := [.null]) cd_Ho_answerSession rfl rfl (fun _ _ => rfl) ?_
            exact g_retr (x := none) cd_Ho_answerSession rfl ⟨none, rfl, (kk0 (by unfold as_spec; dsimp only; rw [hpf]; dsimp only; rw [cif_t e3]; rw [cif_t q8]))⟩
        · skip
          have hT1 := TI_fr hC.1 hz1.1 (by omega) (by omega) (by omega)
          have hzT : fz (dxs 1 ca 3 4 (rb (π 6))) B B1 := fz_mono (fun y q => Or.inr (by omega)) hz1
          have hH1 := RH_work hC hH hzT (List.prefix_refl T) (RDe_pk1 hW hz1 hK1)
          have hC1 := CK_work hC hH hT1 hzT (List.prefix_refl T)
          have hw6 : (fset w 6 (w 6)) = w := fset_eta w 6
          rw [hw6] at hH1
          show bm_G _ _ _ 99 _ [.int 1] B1 _
          refine g_if1 (t := 104) (pc' := 102) cd_Ho_answerSession rfl rfl rfl (fun c99 => ?_) (fun c99 => ?_)
          · have c99 : ¬ (1 : Int32) = 0 := c99
            have hbb : pk_of (pk_add K0 K1 b (pt H 0)).1 (pk_add K0 K1 b (pt H 0)).2 b = ((pk_of K0 K1 b).1, (pk_of K0 K1 b).2.1, (pk_of K0 K1 b).2.2 ++ [pt H 0]) := by cases b <;> rfl
            exact l_ans0 (b := b) hC1 hH1 hp (fset_same _ _ _) kI kJ (by rw [pk_add_of]; exact kB) kA ht55 (TI_z hC1.1) trivial hM (fun B' T' w' q1 q2 q3 q4 q5 => kk B' T' w' _ (by unfold as_spec; dsimp only; rw [hpf]; dsimp only; rw [cif_t e3]; rw [cif_f (fun q => q.elim q8 (fun q => by omega))]) q1 q2 q3 (by rw [fset_fset, pk_add_of] at q4; exact q4) (fz_trans hzT q5)) lv l0 l1 l3 l4 l5 l6
          · exact absurd (show ¬ (¬ (1 : Int32) = 0) from c99) (by decide)
      · exact absurd (show ¬ (0 : Int32) = 0 from c82) (by decide)
    · have c48 : ¬ r60 = 0 := c48
      have e3 : ¬ pt H 3 = tz := fun q => c48 ((TI_0 hC.1 ht60).mpr q)
      refine g_k1 (v := 1) (pc' := 52) cd_Ho_answerSession rfl (by decide) rfl ?_
      refine g_pure (pc' := 56) (st' := [.int 1]) cd_Ho_answerSession rfl rfl (fun _ _ => rfl) ?_
      refine g_ist (pc' := 58) cd_Ho_answerSession rfl (Or.inl ⟨rfl, rfl⟩) (by decide) rfl (fun lv el => ?_)
      have l0 := tm_lk el l0 rfl (by decide)
      have l1 := tm_lk el l1 rfl (by decide)
      have l2 := tm_lk el l2 rfl (by decide)
      have l3 := tm_lk el l3 rfl (by decide)
      have l4 := tm_lk el l4 rfl (by decide)
      have l5 : lv.lookup 5 = some (.int 1) := tm_lks el
      clear el
      refine g_ald (pc' := 59) cd_Ho_answerSession rfl (Or.inr ⟨_, rfl, rfl, rfl⟩) l0 rfl rfl ?_
      refine g_fR (c := 11) (k := 11) (x := (rb (π 6))) (pc' := 62) cd_Ho_answerSession rfl rfl rfl rfl rfl (by decide) hH.1.1.1 hH.1.1.2 hH.2.2.2.2.1.2.1 ?_
      refine g_ald (pc' := 63) cd_Ho_answerSession rfl (Or.inr ⟨_, rfl, rfl, rfl⟩) l0 rfl rfl ?_
      refine g_fR (c := 11) (k := 0) (x := 1) (pc' := 66) cd_Ho_answerSession rfl rfl rfl rfl rfl (by decide) hH.1.1.1 hH.1.1.2 hH.1.2.1.1 ?_
      refine g_ald (pc' := 67) cd_Ho_answerSession rfl (Or.inr ⟨_, rfl, rfl, rfl⟩) l0 rfl rfl ?_
      refine g_fR (c := 11) (k := 0) (x := 1) (pc' := 70) cd_Ho_answerSession rfl rfl rfl rfl rfl (by decide) hH.1.1.1 hH.1.1.2 hH.1.2.1.1 ?_
      refine g_ild (pc' := 71) cd_Ho_answerSession rfl (Or.inr ⟨_, rfl, rfl, rfl⟩) l2 rfl ?_
      refine g_k1 (v := 3) (pc' := 72) cd_Ho_answerSession rfl (by decide) rfl ?_
      refine g_calli (pc' := 75) cd_Ho_answerSession rfl rfl rfl rfl rfl (tm_invV rfl rfl cd_Te_partOf rfl (Nat.le_of_ble_eq_true rfl) (by decide) hC.1.1.1.1 hC.1.1.1.2) (t_partOf (i := 3) hC.1 hx (by decide) (fun r62 ht62 => ?_))
      show bm_G _ _ _ 75 _ [.int r62, .ref 1, .ref ((rb (π 6)))] B _
      refine g_calli (pc' := 78) cd_Ho_answerSession rfl rfl rfl rfl rfl (tm_invV rfl rfl cd_De_takeOnce rfl (Nat.le_of_ble_eq_true rfl) (by decide) (RDe_K (hH.2.2.2.2.1.2.2.2.2 6 (by decide))).1 (RDe_K (hH.2.2.2.2.1.2.2.2.2 6 (by decide))).2) (t_takeOnce hC.1 hW ht62 hk (fun q5 => ?_) (fun i e B1 r5 q5 q6 q7 ht5 hD1 hz1 => ?_))
      · skip
        show bm_G _ _ _ 78 _ [.int 0] B _
        refine g_ist (pc' := 80) cd_Ho_answerSession rfl (Or.inl ⟨rfl, rfl⟩) (by decide) rfl (fun lv el => ?_)
        have l0 := tm_lk el l0 rfl (by decide)
        have l1 := tm_lk el l1 rfl (by decide)
        have l2 := tm_lk el l2 rfl (by decide)
        have l3 := tm_lk el l3 rfl (by decide)
        have l4 := tm_lk el l4 rfl (by decide)
        have l5 := tm_lk el l5 rfl (by decide)
        have l6 : lv.lookup 6 = some (.int 0) := tm_lks el
        clear el
        refine g_ild (pc' := 82) cd_Ho_answerSession rfl (Or.inl ⟨rfl, rfl⟩) l5 rfl ?_
        refine g_if1 (t := 93) (pc' := 85) cd_Ho_answerSession rfl rfl rfl (fun c82 => ?_) (fun c82 => ?_)
        · exact absurd (show (1 : Int32) = 0 from c82) (by decide)
        · have c82 : ¬ (1 : Int32) = 0 := c82
          refine g_ild (pc' := 87) cd_Ho_answerSession rfl (Or.inl ⟨rfl, rfl⟩) l6 rfl ?_
          refine g_if1 (t := 104) (pc' := 90) cd_Ho_answerSession rfl rfl rfl (fun c87 => ?_) (fun c87 => ?_)
          · exact absurd (show ¬ (0 : Int32) = 0 from c87) (by decide)
          · have c87 : (0 : Int32) = 0 := Classical.not_not.mp c87
            refine g_pure (pc' := 102) (st' := []) cd_Ho_answerSession rfl rfl (fun _ _ => rfl) ?_
            refine g_pure (pc' := 103) (st' := [.null]) cd_Ho_answerSession rfl rfl (fun _ _ => rfl) ?_
            exact g_retr (x := none) cd_Ho_answerSession rfl ⟨none, rfl, (kk0 (by unfold as_spec; dsimp only; rw [hpf]; dsimp only; rw [cif_f e3]; rw [on_find_no q5]))⟩
      · skip
        have hT1 := TI_fr hC.1 hz1.1 (by omega) (by omega) (by omega)
        have hzT : fz (dxs 1 ca 3 4 (rb (π 6))) B B1 := fz_mono (fun y q => Or.inr (by omega)) hz1
        have hH1 := RH_work hC hH hzT (List.prefix_refl T) hD1
        have hC1 := CK_work hC hH hT1 hzT (List.prefix_refl T)
        have hw6 : (fset w 6 (w 6)) = w := fset_eta w 6
        rw [hw6] at hH1
        have hke : kd e.1 = 1 := hk e (List.mem_of_getElem? q5)
        show bm_G _ _ _ 78 _ [.int r5] B1 _
        refine g_ist (pc' := 80) cd_Ho_answerSession rfl (Or.inl ⟨rfl, rfl⟩) (by decide) rfl (fun lv el => ?_)
        have l0 := tm_lk el l0 rfl (by decide)
        have l1 := tm_lk el l1 rfl (by decide)
        have l2 := tm_lk el l2 rfl (by decide)
        have l3 := tm_lk el l3 rfl (by decide)
        have l4 := tm_lk el l4 rfl (by decide)
        have l5 := tm_lk el l5 rfl (by decide)
        have l6 : lv.lookup 6 = some (.int r5) := tm_lks el
        clear el
        refine g_ild (pc' := 82) cd_Ho_answerSession rfl (Or.inl ⟨rfl, rfl⟩) l5 rfl ?_
        refine g_if1 (t := 93) (pc' := 85) cd_Ho_answerSession rfl rfl rfl (fun c82 => ?_) (fun c82 => ?_)
        · exact absurd (show (1 : Int32) = 0 from c82) (by decide)
        · have c82 : ¬ (1 : Int32) = 0 := c82
          refine g_ild (pc' := 87) cd_Ho_answerSession rfl (Or.inl ⟨rfl, rfl⟩) l6 rfl ?_
          refine g_if1 (t := 104) (pc' := 90) cd_Ho_answerSession rfl rfl rfl (fun c87 => ?_) (fun c87 => ?_)
          · have c87 : ¬ r5 = 0 := c87
            have hge : (on.getD i (tz, 0)).1 = e.1 := by rw [List.getD_eq_getElem?_getD, q5]; rfl
            exact l_ans1 (b := b) hC1 hH1 hp (fset_same _ _ _) kI kJ kB kA ht55 ht5 hke hM (fun B' T' w' q1 q2 q3 q4 q9 => kk B' T' w' _ (by unfold as_spec; dsimp only; rw [hpf]; dsimp only; rw [cif_f e3]; rw [on_find_at q5 q6 q7]) q1 q2 q3 (by rw [fset_fset] at q4; rw [hge]; exact q4) (fz_trans hzT q9)) lv l0 l1 l3 l4 l5 l6
          · have c87 : r5 = 0 := Classical.not_not.mp c87
            exact absurd ((TI_0 hC1.1 ht5).mp c87) (fun q => by rw [q] at hke; exact absurd hke (by decide))
