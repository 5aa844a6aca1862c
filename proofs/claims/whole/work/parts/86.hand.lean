/-! handOut -/
abbrev HS : Type := (Nat → List SS) × (Nat → MM) × (Nat → Tm) × Nat × List Tm
/-- a session with p, opened if there is none -/
noncomputable def ho_way (id : Tm) (ids : Nat → Tm) (s p : Nat) (se : Nat → List SS) (dir : Nat → Tm) (dr : Nat) : Option ((Nat → List SS) × (Nat → Tm) × Nat) := match se p with
  | _ :: _ => some (se, dir, dr)
  | [] => cif (an_pre dir ids p = tz) none (some (fset se p [op_ses id (Tsec (nI dr) (nI s) 0) (Tsec (nI (dr + 1)) (nI s) 2) (ids p) (an_pre dir ids p) (an_once dir p 4 (p * 5 + 1)).1], (an_once dir p 4 (p * 5 + 1)).2, dr + 2))
/-- a body goes out by the first session with p -/
noncomputable def ho_put (s p : Nat) (body : Tm) (se : Nat → List SS) (dr : Nat) : (Nat → List SS) × Nat × Tm := match se p with
  | [] => (se, dr, tz)
  | S0 :: l => (fset se p (ss_sent (ss_turn S0 (Tsec (nI dr) (nI s) 2)) :: l), dr_turn S0 dr, ss_wire (ss_turn S0 (Tsec (nI dr) (nI s) 2)) (nI s) (nI p) body)
def mm_gave (M : MM) (b : Int32) : MM := match M with
  | (ve, ma, go, ge, ch, si, ix, ga, sl, gv) => (ve, ma, go, ge, ch, si, ix, ga ||| b, sl, gv)
noncomputable def ho1 (id : Tm) (ids : Nat → Tm) (s g : Nat) (gift : Tm) (p : Nat) (H : HS) : HS := if p = s ∨ hbit (H.2.1 g).2.1 (nI p) = false ∨ hbit (H.2.1 g).2.2.2.2.2.2.2.1 (nI p) = true then H else match ho_way id ids s p H.1 H.2.2.1 H.2.2.2.1 with
  | none => H
  | some (se1, dir1, dr1) => ((ho_put s p gift se1 dr1).1, fset H.2.1 g (mm_gave (H.2.1 g) (1 <<< (nI p &&& 31))), dir1, (ho_put s p gift se1 dr1).2.1, H.2.2.2.2 ++ [(ho_put s p gift se1 dr1).2.2])
noncomputable def ho (id : Tm) (ids : Nat → Tm) (s g : Nat) (gift : Tm) : Nat → Nat → HS → HS
  | 0, _, H => H
  | n + 1, p, H => ho id ids s g gift n (p + 1) (ho1 id ids s g gift p H)
def okS (S : SS) : Prop := kd S.2.2.2.1 = 1 ∧ kd (pt S.1.1 0) = 1
def okSe (se : Nat → List SS) : Prop := ∀ (p k : Nat) (S : SS), (se p)[k]? = some S → okS S
theorem okS_sent {S : SS} {n : Tm} (h : okS S) (hn : kd n = 1) : okS (ss_sent (ss_turn S n)) := by
  obtain ⟨I, ba, ro, mi, se, n', b, br, bp, bo, on⟩ := S
  by_cases c : se = tz
  · rw [ss_turn_t c]; exact ⟨hn, h.2⟩
  · rw [ss_turn_f c]; exact h
theorem okSe_set {se : Nat → List SS} {p : Nat} {S : SS} {l : List SS} (h : okSe se) (hS : okS S) (hl : ∀ (k : Nat) (S' : SS), l[k]? = some S' → okS S') : okSe (fset se p (S :: l)) := by
  intro q k S' hk
  by_cases c : q = p
  · subst c
    rw [fset_same] at hk
    rcases k with _ | k
    · cases hk; exact hS
    · exact hl k S' hk
  · rw [fset_ne c] at hk
    exact h q k S' hk
set_option maxRecDepth 100000 in
theorem l_hand1 {sc : tm_X} {d : Nat} {B : bm_H} {F : Nat → Prop} {N S M ln : Nat} {T : List Tm} {dr : Nat} {K : Tm → Prop} {ca rm kc kl rk : Nat} {ws : List (Tm × Int32)} {wt : List Tm} {G : LG} {ids dir reg : Nat → Tm} {seen : List Tm} {π : Nat → Nat} {w : Nat → SW} {dev : Nat → DV} {sto : Nat → ST} {id : Tm} {K0 K1 : PK} {on : List (Tm × Int32)} {lnu : Int32} {se : Nat → List SS} {me : Nat → MM} {s g p : Nat} {S0 : SS} {l : List SS} {x4 : Int32} {Y : Tm} {Q : Option Value → bm_H → Prop} (hC : CK B F N S M ln T dr K ca rm kc kl rk) (hH : RH B T ws wt G ids dir reg seen π w dev sto) (hs : s < 6) (hp : p < 6) (hg : g < 4) (eD : dev 6 = (id, K0, K1, on, lnu, se, me)) (hse : se p = S0 :: l) (t4 : tv T x4 Y) (hM : T.length + 9 < M) (hdr : dr ≤ 2990) (hwl : ws.length + wt.length < 700) (hok : okS S0) (kk : ∀ B' T' w' (lv2 : tm_L), T <+: T' → T'.length ≤ T.length + 9 → CK B' F N S M ln T' (dr_turn S0 dr) K ca rm kc kl rk → RH B' T' ws (wt ++ [ss_wire (ss_turn S0 (Tsec (nI dr) (nI s) 2)) (nI s) (nI p) Y]) G ids dir reg seen π (fset w 6 w') (fset dev 6 (id, K0, K1, on, lnu, fset se p (ss_sent (ss_turn S0 (Tsec (nI dr) (nI s) 2)) :: l), (fset me g (mm_gave (me g) (1 <<< (nI p &&& 31)))))) sto → fr (fun y => ¬ F y) B B' → lv2.lookup 0 = some (.ref 0) → lv2.lookup 1 = some (.int (nI s)) → lv2.lookup 2 = some (.int (nI g)) → lv2.lookup 3 = some (.ref (rb (π 6) + 47 + 39 * g)) → lv2.lookup 4 = some (.int x4) → lv2.lookup 5 = some (.int (nI p)) → bm_G sc (d + 5) 99 128 lv2 [] B' Q) : ∀ lv : tm_L, lv.lookup 0 = some (.ref 0) → lv.lookup 1 = some (.int (nI s)) → lv.lookup 2 = some (.int (nI g)) → lv.lookup 3 = some (.ref (rb (π 6) + 47 + 39 * g)) → lv.lookup 4 = some (.int x4) → lv.lookup 5 = some (.int (nI p)) → lv.lookup 6 = some (.ref (sA (rb (π 6)) (w 6).2.1 p 0)) → bm_G sc (d + 5) 99 84 lv [] B Q := by
  intro lv l0 l1 l2 l3 l4 l5 l6
  have hk : (se p)[0]? = some S0 := by rw [hse]; rfl
  obtain ⟨h1, hnt, hlo, hhi, r6a, r6b⟩ := ses_at hC hH hp eD hk
  refine g_ald (pc' := 86) cd_Ho_handOut rfl (Or.inl ⟨rfl, rfl⟩) l6 rfl rfl ?_
  refine g_ald (pc' := 87) cd_Ho_handOut rfl (Or.inr ⟨_, rfl, rfl, rfl⟩) l0 rfl rfl ?_
  refine g_fR (c := 11) (k := 0) (x := 1) (pc' := 90) cd_Ho_handOut rfl rfl rfl rfl rfl (by decide) hH.1.1.1 hH.1.1.2 hH.1.2.1.1 ?_
  refine g_ild (pc' := 91) cd_Ho_handOut rfl (Or.inr ⟨_, rfl, rfl, rfl⟩) l1 rfl ?_
  refine g_callv (pc' := 94) cd_Ho_handOut rfl rfl rfl rfl rfl (tm_invV rfl rfl cd_Se_turnToSend rfl (Nat.le_of_ble_eq_true rfl) (by decide) (RSe_S h1).1.1 (RSe_S h1).1.2) (t_turnH hC hH hp eD hk (by omega) (by omega) hok.2 (fun B1 T1 hp1 hl1 hC1 hH1 hz1 => ?_))
  have eD1 : fset dev 6 (id, K0, K1, on, lnu, fset se p ((se p).set 0 (ss_turn S0 (Tsec (nI dr) (nI s) 2))), me) 6 = (id, K0, K1, on, lnu, fset se p ((se p).set 0 (ss_turn S0 (Tsec (nI dr) (nI s) 2))), me) := fset_same _ _ _
  have hk1a : (fset se p ((se p).set 0 (ss_turn S0 (Tsec (nI dr) (nI s) 2))) p)[0]? = some (ss_turn S0 (Tsec (nI dr) (nI s) 2)) := by rw [fset_same]; exact List.getElem?_set_self (List.getElem?_eq_some_iff.mp hk).1
  obtain ⟨hr1, -⟩ := ses_at hC1 hH1 hp eD1 hk1a
  show bm_G _ _ _ 94 _ [] B1 _
  refine g_ald (pc' := 95) cd_Ho_handOut rfl (Or.inr ⟨_, rfl, rfl, rfl⟩) l0 rfl rfl ?_
  refine g_fR (c := 11) (k := 2) (x := 8) (pc' := 98) cd_Ho_handOut rfl rfl rfl rfl rfl (by decide) hH1.1.1.1 hH1.1.1.2 hH1.1.2.1.2.2.1 ?_
  refine g_ald (pc' := 100) cd_Ho_handOut rfl (Or.inl ⟨rfl, rfl⟩) l6 rfl rfl ?_
  refine g_ald (pc' := 101) cd_Ho_handOut rfl (Or.inr ⟨_, rfl, rfl, rfl⟩) l0 rfl rfl ?_
  refine g_fR (c := 11) (k := 0) (x := 1) (pc' := 104) cd_Ho_handOut rfl rfl rfl rfl rfl (by decide) hH1.1.1.1 hH1.1.1.2 hH1.1.2.1.1 ?_
  refine g_ild (pc' := 105) cd_Ho_handOut rfl (Or.inr ⟨_, rfl, rfl, rfl⟩) l1 rfl ?_
  refine g_ild (pc' := 107) cd_Ho_handOut rfl (Or.inl ⟨rfl, rfl⟩) l5 rfl ?_
  refine g_ild (pc' := 109) cd_Ho_handOut rfl (Or.inl ⟨rfl, rfl⟩) l4 rfl ?_
  refine g_calli (pc' := 112) cd_Ho_handOut rfl rfl rfl rfl rfl (tm_invV rfl rfl cd_Se_nextWire rfl (Nat.le_of_ble_eq_true rfl) (by decide) (RSe_S hr1).1.1 (RSe_S hr1).1.2) (t_wireH hC1 hH1 hp eD1 hk1a (by omega) (tv_mono hp1 t4) (ss_turn_mi hok.1 rfl) (fun B4 T4 r4 hp4 hl4 hC4 hH4 ht4 hz4 => ?_))
  have e4 : fset (fset dev 6 (id, K0, K1, on, lnu, fset se p ((se p).set 0 (ss_turn S0 (Tsec (nI dr) (nI s) 2))), me)) 6 (id, K0, K1, on, lnu, fset (fset se p ((se p).set 0 (ss_turn S0 (Tsec (nI dr) (nI s) 2)))) p ((fset se p ((se p).set 0 (ss_turn S0 (Tsec (nI dr) (nI s) 2))) p).set 0 (ss_sent (ss_turn S0 (Tsec (nI dr) (nI s) 2)))), me) = fset dev 6 (id, K0, K1, on, lnu, fset se p (ss_sent (ss_turn S0 (Tsec (nI dr) (nI s) 2)) :: l), me) := by rw [fset_fset, fset_fset, fset_same, List.set_set, hse]; rfl
  rw [e4] at hH4
  show bm_G _ _ _ 112 _ [.int r4, .ref 8] B4 _
  refine g_callv (pc' := 115) cd_Ho_handOut rfl rfl rfl rfl rfl (tm_invV rfl rfl cd_Wi_add rfl (Nat.le_of_ble_eq_true rfl) (by decide) hH4.2.1.1.1.1 hH4.2.1.1.1.2) (t_Wadd hH4.2.1 hwl ht4 (fun B5 hW5 hz5 => ?_))
  have hH5 := RH_wi hH4 hz5.1 (fun y q => by omega) (List.prefix_refl T4) hW5
  have hC5 := CK_cls hC4 hz5 (fun y q => by omega)
  have eD5 : fset dev 6 (id, K0, K1, on, lnu, fset se p (ss_sent (ss_turn S0 (Tsec (nI dr) (nI s) 2)) :: l), me) 6 = (id, K0, K1, on, lnu, fset se p (ss_sent (ss_turn S0 (Tsec (nI dr) (nI s) 2)) :: l), me) := fset_same _ _ _
  obtain ⟨hM5, hAR5, hnt5, -, -⟩ := mem_at hC5 hH5 hg eD5
  have hf5 : fr (fun y => ¬ F y) B B5 := fr_trans (fr_trans (fr_mono (fun y q => q.elim (nF_tcs hC) (fun q => nF_lo hC (by omega))) hz1.1) (fr_mono (fun y q => q.elim (nF_tcs hC1) (fun q => nF_lo hC (by omega))) hz4.1)) (fr_mono (fun y q => nF_lo hC (by omega)) hz5.1)
  obtain ⟨ve, ma, go, ge, ch, si, ix, ga, sl, gv, eM⟩ : ∃ a1 a2 a3 a4 a5 a6 a7 a8 a9 a10, me g = (a1, a2, a3, a4, a5, a6, a7, a8, a9, a10) := ⟨_, _, _, _, _, _, _, _, _, _, rfl⟩
  have hM5a := hM5
  rw [eM] at hM5a
  show bm_G _ _ _ 115 _ [] B5 _
  refine g_ald (pc' := 116) cd_Ho_handOut rfl (Or.inr ⟨_, rfl, rfl, rfl⟩) l3 rfl rfl ?_
  refine g_pure (pc' := 117) (st' := [.ref ((rb (π 6) + 47 + 39 * g)), .ref ((rb (π 6) + 47 + 39 * g))]) cd_Ho_handOut rfl rfl (fun _ _ => rfl) ?_
  refine g_fI (c := 5) (k := 9) (x := ga) (pc' := 120) cd_Ho_handOut rfl rfl rfl rfl rfl (by decide) hM5.1.1.1 hM5.1.1.2 hM5a.2.1.2.2.2.1 ?_
  refine g_k1 (v := 1) (pc' := 121) cd_Ho_handOut rfl (by decide) rfl ?_
  refine g_ild (pc' := 123) cd_Ho_handOut rfl (Or.inl ⟨rfl, rfl⟩) l5 rfl ?_
  refine g_pure (pc' := 124) (st' := [.int (1 <<< ((nI p) &&& 31)), .int ga, .ref ((rb (π 6) + 47 + 39 * g))]) cd_Ho_handOut rfl rfl (fun _ _ => rfl) ?_
  refine g_pure (pc' := 125) (st' := [.int (ga ||| (1 <<< ((nI p) &&& 31))), .ref ((rb (π 6) + 47 + 39 * g))]) cd_Ho_handOut rfl rfl (fun _ _ => rfl) ?_
  refine g_putI (c := 5) (k := 9) (pc' := 128) cd_Ho_handOut rfl rfl rfl rfl (by simp [tm_okV, narrow, fits]) (Or.inl rfl) rfl (by decide) hM5.1.1.1 hM5.1.1.2 ?_
  have P1 : bm_FI (bm_putI B5 5 9 (rb (π 6) + 47 + 39 * g) (ga ||| (1 <<< ((nI p) &&& 31)))) 5 9 (rb (π 6) + 47 + 39 * g) = ga ||| (1 <<< ((nI p) &&& 31)) := if_pos ⟨rfl, rfl, rfl⟩
  have Z2 : fz (fun y => y = (rb (π 6) + 47 + 39 * g)) B5 (bm_putI B5 5 9 (rb (π 6) + 47 + 39 * g) (ga ||| (1 <<< ((nI p) &&& 31)))) := fz_trans (fz_rfl _ B5) ⟨fr_mono (fun _ q => q) (fr_putI _ 5 9 (rb (π 6) + 47 + 39 * g) _), rfl, rfl⟩
  have hz6 := Z2
  have hM6 : RMe (bm_putI B5 5 9 (rb (π 6) + 47 + 39 * g) (ga ||| (1 <<< ((nI p) &&& 31)))) T4 (rb (π 6) + 47 + 39 * g) ((w 6).2.2 g) (mm_gave (me g) (1 <<< (nI p &&& 31))) := by rw [eM]; exact ⟨MeS_fr hM5a.1 hz6.1, ⟨hM5a.2.1.1, hM5a.2.1.2.1, hM5a.2.1.2.2.1, P1, hM5a.2.1.2.2.2.2⟩, fun q hq => RGs_fr hM5a.1 hq (hM5a.2.2 q hq) hz6.1 (by omega) (by omega) (fun k y hk a b => by have := gA_in (rb (π 6) + 47 + 39 * g) ((w 6).2.2 g) hq hk; omega) (List.prefix_refl T4)⟩
  obtain ⟨hC6, hH6, hy6⟩ := RH_mem hC5 hH5 hg eD5 (TI_fr hC5.1 hz6.1 (by omega) (by have := hC5.2.2.2.2.2.1; omega) (by omega)) hz6 (fun y q => Or.inr (by omega)) (List.prefix_refl T4) hM6
  rw [fset_fset] at hH6
  exact kk _ T4 _ lv (hp1.trans hp4) (by omega) hC6 hH6 (fr_trans hf5 (fr_mono (fun y q => nF_lo hC (by omega)) hz6.1)) l0 l1 l2 l3 l4 l5
theorem okS_open {id e r idd P O : Tm} (hr : kd r = 1) (hP : kd (pt P 0) = 1) : okS (op_ses id e r idd P O) := ⟨hr, hP⟩
theorem ho1_skip {id : Tm} {ids : Nat → Tm} {s g : Nat} {gift : Tm} {p : Nat} {H : HS} (h : p = s ∨ hbit (H.2.1 g).2.1 (nI p) = false ∨ hbit (H.2.1 g).2.2.2.2.2.2.2.1 (nI p) = true) : ho1 id ids s g gift p H = H := if_pos h
theorem ho1_none {id : Tm} {ids : Nat → Tm} {s g : Nat} {gift : Tm} {p : Nat} {H : HS} (h : ¬ (p = s ∨ hbit (H.2.1 g).2.1 (nI p) = false ∨ hbit (H.2.1 g).2.2.2.2.2.2.2.1 (nI p) = true)) (h1 : H.1 p = []) (h2 : an_pre H.2.2.1 ids p = tz) : ho1 id ids s g gift p H = H := by
  unfold ho1 ho_way
  rw [if_neg h, h1]
  dsimp only
  rw [cif_t h2]
theorem ho1_have {id : Tm} {ids : Nat → Tm} {s g : Nat} {gift : Tm} {p : Nat} {se : Nat → List SS} {me : Nat → MM} {dir : Nat → Tm} {dr : Nat} {wt : List Tm} {S0 : SS} {l : List SS} (h : ¬ (p = s ∨ hbit (me g).2.1 (nI p) = false ∨ hbit (me g).2.2.2.2.2.2.2.1 (nI p) = true)) (h1 : se p = S0 :: l) : ho1 id ids s g gift p (se, me, dir, dr, wt) = (fset se p (ss_sent (ss_turn S0 (Tsec (nI dr) (nI s) 2)) :: l), fset me g (mm_gave (me g) (1 <<< (nI p &&& 31))), dir, dr_turn S0 dr, wt ++ [ss_wire (ss_turn S0 (Tsec (nI dr) (nI s) 2)) (nI s) (nI p) gift]) := by
  unfold ho1 ho_way ho_put
  rw [if_neg h]
  dsimp only
  rw [h1]
  dsimp only
  rw [h1]
theorem ho1_open {id : Tm} {ids : Nat → Tm} {s g : Nat} {gift : Tm} {p : Nat} {se : Nat → List SS} {me : Nat → MM} {dir : Nat → Tm} {dr : Nat} {wt : List Tm} {S0 : SS} (h : ¬ (p = s ∨ hbit (me g).2.1 (nI p) = false ∨ hbit (me g).2.2.2.2.2.2.2.1 (nI p) = true)) (h1 : se p = []) (h2 : an_pre dir ids p ≠ tz) (hS : S0 = op_ses id (Tsec (nI dr) (nI s) 0) (Tsec (nI (dr + 1)) (nI s) 2) (ids p) (an_pre dir ids p) (an_once dir p 4 (p * 5 + 1)).1) : ho1 id ids s g gift p (se, me, dir, dr, wt) = (fset se p [ss_sent (ss_turn S0 (Tsec (nI (dr + 2)) (nI s) 2))], fset me g (mm_gave (me g) (1 <<< (nI p &&& 31))), (an_once dir p 4 (p * 5 + 1)).2, dr_turn S0 (dr + 2), wt ++ [ss_wire (ss_turn S0 (Tsec (nI (dr + 2)) (nI s) 2)) (nI s) (nI p) gift]) := by
  unfold ho1 ho_way ho_put
  rw [if_neg h]
  dsimp only
  rw [h1]
  dsimp only
  rw [cif_f h2]
  dsimp only
  rw [fset_same]
  dsimp only
  rw [fset_fset, ← hS]
set_option maxRecDepth 100000 in
theorem l_hand {sc : tm_X} {d : Nat} {F : Nat → Prop} {N S M ln : Nat} {K : Tm → Prop} {ca rm kc kl rk : Nat} {ws : List (Tm × Int32)} {G : LG} {ids reg : Nat → Tm} {seen : List Tm} {π : Nat → Nat} {dev : Nat → DV} {sto : Nat → ST} {id : Tm} {K0 K1 : PK} {on : List (Tm × Int32)} {lnu : Int32} {s g : Nat} {x4 : Int32} {Y : Tm} {Q : bm_H → Prop} (hs : s < 6) (hg : g < 4) (kI : kd id = 1) (kJ : ∀ p, p < 6 → kd (ids p) = 1) (hws : ws.length ≤ 692) : ∀ (n p : Nat) (B : bm_H) (T : List Tm) (dr : Nat) (dir : Nat → Tm) (wt : List Tm) (w : Nat → SW) (se : Nat → List SS) (me : Nat → MM), p + n = 6 → CK B F N S M ln T dr K ca rm kc kl rk → RH B T ws wt G ids dir reg seen π w (fset dev 6 (id, K0, K1, on, lnu, se, me)) sto → okSe se → tv T x4 Y → T.length + 24 * n < M → dr + 3 * n ≤ 2990 → wt.length ≤ p → (∀ B' T' w', T <+: T' → T'.length ≤ T.length + 24 * n → (ho id ids s g Y n p (se, me, dir, dr, wt)).2.2.2.1 ≤ dr + 3 * n → (ho id ids s g Y n p (se, me, dir, dr, wt)).2.2.2.2.length ≤ 6 → okSe (ho id ids s g Y n p (se, me, dir, dr, wt)).1 → CK B' F N S M ln T' (ho id ids s g Y n p (se, me, dir, dr, wt)).2.2.2.1 K ca rm kc kl rk → RH B' T' ws (ho id ids s g Y n p (se, me, dir, dr, wt)).2.2.2.2 G ids (ho id ids s g Y n p (se, me, dir, dr, wt)).2.2.1 reg seen π w' (fset dev 6 (id, K0, K1, on, lnu, (ho id ids s g Y n p (se, me, dir, dr, wt)).1, (ho id ids s g Y n p (se, me, dir, dr, wt)).2.1)) sto → fr (fun y => ¬ F y) B B' → Q B') → ∀ lv : tm_L, lv.lookup 0 = some (.ref 0) → lv.lookup 1 = some (.int (nI s)) → lv.lookup 2 = some (.int (nI g)) → lv.lookup 3 = some (.ref (rb (π 6) + 47 + 39 * g)) → lv.lookup 4 = some (.int x4) → lv.lookup 5 = some (.int (nI p)) → bm_G sc (d + 5) 99 14 lv [] B (fun r B' => r = none ∧ Q B') := by
  intro n
  induction n with
  | zero =>
    intro p B T dr dir wt w se me hm hC hH hok t4 hM hdr hwl kk lv l0 l1 l2 l3 l4 l5
    refine g_ild (pc' := 16) cd_Ho_handOut rfl (Or.inl ⟨rfl, rfl⟩) l5 rfl ?_
    refine g_k2 (v := 6) (pc' := 18) cd_Ho_handOut rfl (by decide) rfl ?_
    refine g_if2 (t := 134) (pc' := 21) cd_Ho_handOut rfl rfl rfl (fun c18 => ?_) (fun c18 => ?_)
    · have c18 : (6 : Int32) ≤ (nI p) := c18
      exact g_retv cd_Ho_handOut rfl ⟨rfl, (kk B T w (List.prefix_refl T) (by omega) (Nat.le_add_right _ _) (by show wt.length ≤ 6; omega) hok hC hH (fr_rfl _ B))⟩
    · have c18 : ¬ (6 : Int32) ≤ (nI p) := c18
      exact absurd (nI_le (a := 6) (b := p) (by omega) (by omega)) c18
  | succ n ih =>
    intro p B T dr dir wt w se me hm hC hH hok t4 hM hdr hwl kk lv l0 l1 l2 l3 l4 l5
    have eD : fset dev 6 (id, K0, K1, on, lnu, se, me) 6 = (id, K0, K1, on, lnu, se, me) := fset_same _ _ _
    obtain ⟨hM5, hAR5, hnt5, r6a, r6b⟩ := mem_at hC hH hg eD
    obtain ⟨ve, ma, go, ge, ch, si, ix, ga, sl, gv, eM⟩ : ∃ a1 a2 a3 a4 a5 a6 a7 a8 a9 a10, me g = (a1, a2, a3, a4, a5, a6, a7, a8, a9, a10) := ⟨_, _, _, _, _, _, _, _, _, _, rfl⟩
    rw [eM] at hM5
    have hW := hH.2.2.2.2.1.2.2.2.2 6 (by decide)
    rw [eD] at hW
    have hp : p < 6 := by omega
    refine g_ild (pc' := 16) cd_Ho_handOut rfl (Or.inl ⟨rfl, rfl⟩) l5 rfl ?_
    refine g_k2 (v := 6) (pc' := 18) cd_Ho_handOut rfl (by decide) rfl ?_
    refine g_if2 (t := 134) (pc' := 21) cd_Ho_handOut rfl rfl rfl (fun c18 => ?_) (fun c18 => ?_)
    · have c18 : (6 : Int32) ≤ (nI p) := c18
      exact absurd c18 (nI_ge (a := p) (b := 6) (by omega) (by decide))
    · have c18 : ¬ (6 : Int32) ≤ (nI p) := c18
      refine g_ild (pc' := 23) cd_Ho_handOut rfl (Or.inl ⟨rfl, rfl⟩) l5 rfl ?_
      refine g_ild (pc' := 24) cd_Ho_handOut rfl (Or.inr ⟨_, rfl, rfl, rfl⟩) l1 rfl ?_
      refine g_if2 (t := 128) (pc' := 27) cd_Ho_handOut rfl rfl rfl (fun c24 => ?_) (fun c24 => ?_)
      · have c24 : (nI p) = (nI s) := c24
        refine g_inc (y := nI (p + 1)) (pc' := 131) cd_Ho_handOut rfl l5 (by decide) (nI_add p 1) rfl (fun lv el => ?_)
        have l0 := tm_lk el l0 rfl (by decide)
        have l1 := tm_lk el l1 rfl (by decide)
        have l2 := tm_lk el l2 rfl (by decide)
        have l3 := tm_lk el l3 rfl (by decide)
        have l4 := tm_lk el l4 rfl (by decide)
        have l5 : lv.lookup 5 = some (.int (nI (p + 1))) := tm_lks el
        clear el
        refine g_pure (pc' := 14) (st' := []) cd_Ho_handOut rfl rfl (fun _ _ => rfl) ?_
        have hE : ho1 id ids s g Y p (se, me, dir, dr, wt) = (se, me, dir, dr, wt) := ho1_skip (H := (se, me, dir, dr, wt)) (Or.inl ((nI_eq (by omega) (by omega)).mp c24))
        exact ih (p + 1) B T _ _ _ _ _ _ (by omega) hC hH hok t4 (by omega) (by omega) (by omega) (fun B' T' w' q1 q2 q3 q4 q5 q6 q7 q8 => kk B' T' w' q1 (by omega) (by unfold ho; rw [hE]; omega) (by unfold ho; rw [hE]; exact q4) (by unfold ho; rw [hE]; exact q5) (by unfold ho; rw [hE]; exact q6) (by unfold ho; rw [hE]; exact q7) q8) lv l0 l1 l2 l3 l4 l5
      · have c24 : ¬ (nI p) = (nI s) := c24
        refine g_ald (pc' := 28) cd_Ho_handOut rfl (Or.inr ⟨_, rfl, rfl, rfl⟩) l3 rfl rfl ?_
        refine g_fI (c := 5) (k := 3) (x := ma) (pc' := 31) cd_Ho_handOut rfl rfl rfl rfl rfl (by decide) hM5.1.1.1 hM5.1.1.2 hM5.2.1.1.2.1 ?_
        refine g_ild (pc' := 33) cd_Ho_handOut rfl (Or.inl ⟨rfl, rfl⟩) l5 rfl ?_
        refine g_calli (pc' := 36) cd_Ho_handOut rfl rfl rfl rfl rfl (tm_invS rfl rfl cd_Ho_hasBit rfl (Nat.le_of_ble_eq_true rfl)) (t_hasBit ?_)
        show bm_G _ _ _ 36 _ [.int (bz (hbit ma (nI p)))] B _
        refine g_if1 (t := 128) (pc' := 39) cd_Ho_handOut rfl rfl rfl (fun c36 => ?_) (fun c36 => ?_)
        · have c36 : (hbit ma (nI p)) = false := bz_f c36
          refine g_inc (y := nI (p + 1)) (pc' := 131) cd_Ho_handOut rfl l5 (by decide) (nI_add p 1) rfl (fun lv el => ?_)
          have l0 := tm_lk el l0 rfl (by decide)
          have l1 := tm_lk el l1 rfl (by decide)
          have l2 := tm_lk el l2 rfl (by decide)
          have l3 := tm_lk el l3 rfl (by decide)
          have l4 := tm_lk el l4 rfl (by decide)
          have l5 : lv.lookup 5 = some (.int (nI (p + 1))) := tm_lks el
          clear el
          refine g_pure (pc' := 14) (st' := []) cd_Ho_handOut rfl rfl (fun _ _ => rfl) ?_
          have hE : ho1 id ids s g Y p (se, me, dir, dr, wt) = (se, me, dir, dr, wt) := ho1_skip (H := (se, me, dir, dr, wt)) (Or.inr (Or.inl (by show hbit (me g).2.1 (nI p) = false; rw [eM]; exact c36)))
          exact ih (p + 1) B T _ _ _ _ _ _ (by omega) hC hH hok t4 (by omega) (by omega) (by omega) (fun B' T' w' q1 q2 q3 q4 q5 q6 q7 q8 => kk B' T' w' q1 (by omega) (by unfold ho; rw [hE]; omega) (by unfold ho; rw [hE]; exact q4) (by unfold ho; rw [hE]; exact q5) (by unfold ho; rw [hE]; exact q6) (by unfold ho; rw [hE]; exact q7) q8) lv l0 l1 l2 l3 l4 l5
        · have c36 : (hbit ma (nI p)) = true := bz_t c36
          refine g_ald (pc' := 40) cd_Ho_handOut rfl (Or.inr ⟨_, rfl, rfl, rfl⟩) l3 rfl rfl ?_
          refine g_fI (c := 5) (k := 9) (x := ga) (pc' := 43) cd_Ho_handOut rfl rfl rfl rfl rfl (by decide) hM5.1.1.1 hM5.1.1.2 hM5.2.1.2.2.2.1 ?_
          refine g_ild (pc' := 45) cd_Ho_handOut rfl (Or.inl ⟨rfl, rfl⟩) l5 rfl ?_
          refine g_calli (pc' := 48) cd_Ho_handOut rfl rfl rfl rfl rfl (tm_invS rfl rfl cd_Ho_hasBit rfl (Nat.le_of_ble_eq_true rfl)) (t_hasBit ?_)
          show bm_G _ _ _ 48 _ [.int (bz (hbit ga (nI p)))] B _
          refine g_if1 (t := 54) (pc' := 51) cd_Ho_handOut rfl rfl rfl (fun c48 => ?_) (fun c48 => ?_)
          · have c48 : (hbit ga (nI p)) = false := bz_f c48
            refine g_ald (pc' := 55) cd_Ho_handOut rfl (Or.inr ⟨_, rfl, rfl, rfl⟩) l0 rfl rfl ?_
            refine g_fR (c := 11) (k := 11) (x := (rb (π 6))) (pc' := 58) cd_Ho_handOut rfl rfl rfl rfl rfl (by decide) hH.1.1.1 hH.1.1.2 hH.2.2.2.2.1.2.1 ?_
            refine g_ild (pc' := 60) cd_Ho_handOut rfl (Or.inl ⟨rfl, rfl⟩) l5 rfl ?_
            have hdue : ¬ (p = s ∨ hbit (me g).2.1 (nI p) = false ∨ hbit (me g).2.2.2.2.2.2.2.1 (nI p) = true) := by rw [eM]; rintro (q | q | q); (exact c24 (by rw [q])); (exact absurd (q.symm.trans c36) (by decide)); exact absurd (q.symm.trans c48) (by decide)
            refine g_callr (pc' := 63) cd_Ho_handOut rfl rfl rfl rfl rfl (tm_invV rfl rfl cd_De_firstSession rfl (Nat.le_of_ble_eq_true rfl) (by decide) (RDe_K (hH.2.2.2.2.1.2.2.2.2 6 (by decide))).1 (RDe_K (hH.2.2.2.2.1.2.2.2.2 6 (by decide))).2) (t_firstSession hW hp (fun hse => ?_) (fun S0 l hse => ?_))
            · skip
              show bm_G _ _ _ 63 _ [.null] B _
              refine g_ast (pc' := 65) cd_Ho_handOut rfl (Or.inl ⟨rfl, rfl⟩) rfl (by decide) rfl (fun lv el => ?_)
              have l0 := tm_lk el l0 rfl (by decide)
              have l1 := tm_lk el l1 rfl (by decide)
              have l2 := tm_lk el l2 rfl (by decide)
              have l3 := tm_lk el l3 rfl (by decide)
              have l4 := tm_lk el l4 rfl (by decide)
              have l5 := tm_lk el l5 rfl (by decide)
              have l6 : lv.lookup 6 = some (.null) := tm_lks el
              clear el
              refine g_ald (pc' := 67) cd_Ho_handOut rfl (Or.inl ⟨rfl, rfl⟩) l6 rfl rfl ?_
              refine g_nnF (t := 79) (pc' := 70) cd_Ho_handOut rfl rfl rfl ?_
              refine g_ald (pc' := 71) cd_Ho_handOut rfl (Or.inr ⟨_, rfl, rfl, rfl⟩) l0 rfl rfl ?_
              refine g_ild (pc' := 72) cd_Ho_handOut rfl (Or.inr ⟨_, rfl, rfl, rfl⟩) l1 rfl ?_
              refine g_ild (pc' := 74) cd_Ho_handOut rfl (Or.inl ⟨rfl, rfl⟩) l5 rfl ?_
              refine g_callr (pc' := 77) cd_Ho_handOut rfl rfl rfl rfl rfl (tm_invV rfl rfl cd_Ho_openSession rfl (Nat.le_of_ble_eq_true rfl) (by decide) hH.1.1.1 hH.1.1.2) (t_open hC hH hp eD kI (kJ p hp) (by omega) (by omega) (fun hno => ?_) (fun B3 T3 w3 hne hp3 hl3 hC3 hH3 hz3 => ?_))
              · skip
                show bm_G _ _ _ 77 _ [.null] B _
                refine g_ast (pc' := 79) cd_Ho_handOut rfl (Or.inl ⟨rfl, rfl⟩) rfl (by decide) rfl (fun lv el => ?_)
                have l0 := tm_lk el l0 rfl (by decide)
                have l1 := tm_lk el l1 rfl (by decide)
                have l2 := tm_lk el l2 rfl (by decide)
                have l3 := tm_lk el l3 rfl (by decide)
                have l4 := tm_lk el l4 rfl (by decide)
                have l5 := tm_lk el l5 rfl (by decide)
                have l6 : lv.lookup 6 = some (.null) := tm_lks el
                clear el
                refine g_ald (pc' := 81) cd_Ho_handOut rfl (Or.inl ⟨rfl, rfl⟩) l6 rfl rfl ?_
                refine g_nlT (t := 128) cd_Ho_handOut rfl rfl ?_
                refine g_inc (y := nI (p + 1)) (pc' := 131) cd_Ho_handOut rfl l5 (by decide) (nI_add p 1) rfl (fun lv el => ?_)
                have l0 := tm_lk el l0 rfl (by decide)
                have l1 := tm_lk el l1 rfl (by decide)
                have l2 := tm_lk el l2 rfl (by decide)
                have l3 := tm_lk el l3 rfl (by decide)
                have l4 := tm_lk el l4 rfl (by decide)
                have l6 := tm_lk el l6 rfl (by decide)
                have l5 : lv.lookup 5 = some (.int (nI (p + 1))) := tm_lks el
                clear el
                refine g_pure (pc' := 14) (st' := []) cd_Ho_handOut rfl rfl (fun _ _ => rfl) ?_
                have hE : ho1 id ids s g Y p (se, me, dir, dr, wt) = (se, me, dir, dr, wt) := ho1_none (H := (se, me, dir, dr, wt)) hdue hse hno
                exact ih (p + 1) B T _ _ _ _ _ _ (by omega) hC hH hok t4 (by omega) (by omega) (by omega) (fun B' T' w' q1 q2 q3 q4 q5 q6 q7 q8 => kk B' T' w' q1 (by omega) (by unfold ho; rw [hE]; omega) (by unfold ho; rw [hE]; exact q4) (by unfold ho; rw [hE]; exact q5) (by unfold ho; rw [hE]; exact q6) (by unfold ho; rw [hE]; exact q7) q8) lv l0 l1 l2 l3 l4 l5
              · skip
                have hf3 : fr (fun y => ¬ F y) B B3 := fr_mono (fun y q => q.elim (fun q => q.elim (nF_tcs hC) (fun q => nF_lo hC (by omega))) (fun q => nF_lo hC (by omega))) hz3.1
                show bm_G _ _ _ 77 _ [.ref ((sA (rb (π 6)) w3.2.1 p 0))] B3 _
                refine g_ast (pc' := 79) cd_Ho_handOut rfl (Or.inl ⟨rfl, rfl⟩) rfl (by decide) rfl (fun lv el => ?_)
                have l0 := tm_lk el l0 rfl (by decide)
                have l1 := tm_lk el l1 rfl (by decide)
                have l2 := tm_lk el l2 rfl (by decide)
                have l3 := tm_lk el l3 rfl (by decide)
                have l4 := tm_lk el l4 rfl (by decide)
                have l5 := tm_lk el l5 rfl (by decide)
                have l6 : lv.lookup 6 = some (.ref ((sA (rb (π 6)) w3.2.1 p 0))) := tm_lks el
                clear el
                refine g_ald (pc' := 81) cd_Ho_handOut rfl (Or.inl ⟨rfl, rfl⟩) l6 rfl rfl ?_
                refine g_nlF (t := 128) (pc' := 84) cd_Ho_handOut rfl rfl rfl ?_
                obtain ⟨S0, hS0⟩ : ∃ S0, S0 = (op_ses id (Tsec (nI dr) (nI s) 0) (Tsec (nI (dr + 1)) (nI s) 2) (ids p) (an_pre dir ids p) (an_once dir p 4 (p * 5 + 1)).1) := ⟨_, rfl⟩
                have hE := ho1_open (gift := Y) (wt := wt) hdue hse hne hS0
                have hdt := dr_turn_le S0 (dr + 2)
                have hPk := pub_p0 (by obtain ⟨x, hx⟩ := an_pre_tv hC hH hp; exact TI_sp hC.1 hx) (an_pre_kd hne)
                have hokS : okS S0 := by rw [hS0]; exact okS_open rfl hPk
                have e0 : dv_ses (id, K0, K1, on, lnu, se, me) p (op_ses id (Tsec (nI dr) (nI s) 0) (Tsec (nI (dr + 1)) (nI s) 2) (ids p) (an_pre dir ids p) (an_once dir p 4 (p * 5 + 1)).1) = (id, K0, K1, on, lnu, fset se p [S0], me) := by rw [← hS0]; unfold dv_ses; dsimp only; rw [hse]; rfl
                rw [e0, fset_fset] at hH3
                have eD3 : fset dev 6 (id, K0, K1, on, lnu, fset se p [S0], me) 6 = (id, K0, K1, on, lnu, fset se p [S0], me) := fset_same _ _ _
                refine l_hand1 (S0 := S0) (l := []) hC3 hH3 hs hp hg eD3 (fset_same _ _ _) (tv_mono hp3 t4) (by omega) (by omega) (by omega) hokS (fun B4 T4 w4 lv hp4 hl4 hC4 hH4 hf4 l0 l1 l2 l3 l4 l5 => ?_) lv l0 l1 l2 l3 l4 l5 (by rw [show fset w 6 w3 6 = w3 from fset_same _ _ _]; exact l6)
                simp only [fset_fset] at hH4
                refine g_inc (y := nI (p + 1)) (pc' := 131) cd_Ho_handOut rfl l5 (by decide) (nI_add p 1) rfl (fun lv el => ?_)
                have l0 := tm_lk el l0 rfl (by decide)
                have l1 := tm_lk el l1 rfl (by decide)
                have l2 := tm_lk el l2 rfl (by decide)
                have l3 := tm_lk el l3 rfl (by decide)
                have l4 := tm_lk el l4 rfl (by decide)
                have l5 : lv.lookup 5 = some (.int (nI (p + 1))) := tm_lks el
                clear el
                refine g_pure (pc' := 14) (st' := []) cd_Ho_handOut rfl rfl (fun _ _ => rfl) ?_
                exact ih (p + 1) B4 T4 _ _ _ _ _ _ (by omega) hC4 hH4 (okSe_set hok (okS_sent hokS rfl) (fun k S' hk => by simp at hk)) (tv_mono (hp3.trans hp4) t4) (by omega) (by omega) (by simp; omega) (fun B' T' w' q1 q2 q3 q4 q5 q6 q7 q8 => kk B' T' w' ((hp3.trans hp4).trans q1) (by omega) (by unfold ho; rw [hE]; omega) (by unfold ho; rw [hE]; exact q4) (by unfold ho; rw [hE]; exact q5) (by unfold ho; rw [hE]; exact q6) (by unfold ho; rw [hE]; exact q7) (fr_trans (fr_trans hf3 hf4) q8)) lv l0 l1 l2 l3 l4 l5
            · skip
              show bm_G _ _ _ 63 _ [.ref ((sA (rb (π 6)) (w 6).2.1 p 0))] B _
              refine g_ast (pc' := 65) cd_Ho_handOut rfl (Or.inl ⟨rfl, rfl⟩) rfl (by decide) rfl (fun lv el => ?_)
              have l0 := tm_lk el l0 rfl (by decide)
              have l1 := tm_lk el l1 rfl (by decide)
              have l2 := tm_lk el l2 rfl (by decide)
              have l3 := tm_lk el l3 rfl (by decide)
              have l4 := tm_lk el l4 rfl (by decide)
              have l5 := tm_lk el l5 rfl (by decide)
              have l6 : lv.lookup 6 = some (.ref ((sA (rb (π 6)) (w 6).2.1 p 0))) := tm_lks el
              clear el
              refine g_ald (pc' := 67) cd_Ho_handOut rfl (Or.inl ⟨rfl, rfl⟩) l6 rfl rfl ?_
              refine g_nnT (t := 79) cd_Ho_handOut rfl rfl ?_
              refine g_ald (pc' := 81) cd_Ho_handOut rfl (Or.inl ⟨rfl, rfl⟩) l6 rfl rfl ?_
              refine g_nlF (t := 128) (pc' := 84) cd_Ho_handOut rfl rfl rfl ?_
              have hE := ho1_have (id := id) (ids := ids) (gift := Y) (dir := dir) (dr := dr) (wt := wt) hdue hse
              have hdt := dr_turn_le S0 dr
              refine l_hand1 hC hH hs hp hg eD hse t4 (by omega) (by omega) (by omega) (hok p 0 S0 (by rw [hse]; rfl)) (fun B4 T4 w4 lv hp4 hl4 hC4 hH4 hf4 l0 l1 l2 l3 l4 l5 => ?_) lv l0 l1 l2 l3 l4 l5 l6
              rw [fset_fset] at hH4
              refine g_inc (y := nI (p + 1)) (pc' := 131) cd_Ho_handOut rfl l5 (by decide) (nI_add p 1) rfl (fun lv el => ?_)
              have l0 := tm_lk el l0 rfl (by decide)
              have l1 := tm_lk el l1 rfl (by decide)
              have l2 := tm_lk el l2 rfl (by decide)
              have l3 := tm_lk el l3 rfl (by decide)
              have l4 := tm_lk el l4 rfl (by decide)
              have l5 : lv.lookup 5 = some (.int (nI (p + 1))) := tm_lks el
              clear el
              refine g_pure (pc' := 14) (st' := []) cd_Ho_handOut rfl rfl (fun _ _ => rfl) ?_
              exact ih (p + 1) B4 T4 _ _ _ _ _ _ (by omega) hC4 hH4 (okSe_set hok (okS_sent (hok p 0 S0 (by rw [hse]; rfl)) rfl) (fun k S' hk => hok p (k + 1) S' (by rw [hse]; exact hk))) (tv_mono hp4 t4) (by omega) (by omega) (by simp; omega) (fun B' T' w' q1 q2 q3 q4 q5 q6 q7 q8 => kk B' T' w' (hp4.trans q1) (by omega) (by unfold ho; rw [hE]; omega) (by unfold ho; rw [hE]; exact q4) (by unfold ho; rw [hE]; exact q5) (by unfold ho; rw [hE]; exact q6) (by unfold ho; rw [hE]; exact q7) (fr_trans hf4 q8)) lv l0 l1 l2 l3 l4 l5
          · have c48 : (hbit ga (nI p)) = true := bz_t c48
            refine g_pure (pc' := 128) (st' := []) cd_Ho_handOut rfl rfl (fun _ _ => rfl) ?_
            refine g_inc (y := nI (p + 1)) (pc' := 131) cd_Ho_handOut rfl l5 (by decide) (nI_add p 1) rfl (fun lv el => ?_)
            have l0 := tm_lk el l0 rfl (by decide)
            have l1 := tm_lk el l1 rfl (by decide)
            have l2 := tm_lk el l2 rfl (by decide)
            have l3 := tm_lk el l3 rfl (by decide)
            have l4 := tm_lk el l4 rfl (by decide)
            have l5 : lv.lookup 5 = some (.int (nI (p + 1))) := tm_lks el
            clear el
            refine g_pure (pc' := 14) (st' := []) cd_Ho_handOut rfl rfl (fun _ _ => rfl) ?_
            have hE : ho1 id ids s g Y p (se, me, dir, dr, wt) = (se, me, dir, dr, wt) := ho1_skip (H := (se, me, dir, dr, wt)) (Or.inr (Or.inr (by show hbit (me g).2.2.2.2.2.2.2.1 (nI p) = true; rw [eM]; exact c48)))
            exact ih (p + 1) B T _ _ _ _ _ _ (by omega) hC hH hok t4 (by omega) (by omega) (by omega) (fun B' T' w' q1 q2 q3 q4 q5 q6 q7 q8 => kk B' T' w' q1 (by omega) (by unfold ho; rw [hE]; omega) (by unfold ho; rw [hE]; exact q4) (by unfold ho; rw [hE]; exact q5) (by unfold ho; rw [hE]; exact q6) (by unfold ho; rw [hE]; exact q7) q8) lv l0 l1 l2 l3 l4 l5
