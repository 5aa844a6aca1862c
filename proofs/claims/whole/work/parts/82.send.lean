/-! send, from the session on -/
theorem ss_turn_mi {S : SS} {n : Tm} (h1 : kd S.2.2.2.1 = 1) (h2 : kd n = 1) : kd (ss_turn S n).2.2.2.1 = 1 := by
  obtain ⟨I, ba, ro, mi, se, n', b, br, bp, bo, on⟩ := S
  by_cases c : se = tz
  · rw [ss_turn_t c]; exact h2
  · rw [ss_turn_f c]; exact h1
theorem dr_turn_le (S : SS) (dr : Nat) : dr_turn S dr ≤ dr + 1 := by unfold dr_turn; split <;> omega
/-- a session of device p behind a finish -/
theorem ses_sw {B : bm_H} {F : Nat → Prop} {N S M ln : Nat} {T : List Tm} {dr : Nat} {K : Tm → Prop} {ca rm kc kl rk : Nat} {ws : List (Tm × Int32)} {wt : List Tm} {G : LG} {ids dir reg : Nat → Tm} {seen : List Tm} {π : Nat → Nat} {w : Nat → SW} {dev : Nat → DV} {sto : Nat → ST} {id : Tm} {K0 K1 : PK} {on : List (Tm × Int32)} {lnu : Int32} {se : Nat → List SS} {me : Nat → MM} {s p k : Nat} {S0 : SS} (hC : CK B F N S M ln T dr K ca rm kc kl rk) (hH : RH B T ws wt G ids dir reg seen (sw6 π s) (sw6 w s) (sw6 (fset dev 6 (id, K0, K1, on, lnu, se, me)) s) sto) (hs : s < 6) (hp : p < 6) (hk : (se p)[k]? = some S0) : RSe B T (sA (rb (π 6)) (w 6).2.1 p k) S0 ∧ 25 ≤ sA (rb (π 6)) (w 6).2.1 p k ∧ sA (rb (π 6)) (w 6).2.1 p k + 2 < 1482 := by
  have hV := hH.2.2.2.2.1
  have e1 : sw6 π s s = π 6 := by unfold sw6; rw [fset_ne (by omega), fset_same]
  have e2 : sw6 w s s = w 6 := by unfold sw6; rw [fset_ne (by omega), fset_same]
  have e3 : sw6 (fset dev 6 (id, K0, K1, on, lnu, se, me)) s s = (id, K0, K1, on, lnu, se, me) := by unfold sw6; rw [fset_ne (by omega), fset_same, fset_same]
  have hW := hV.2.2.2.2 s (by omega)
  have r := hV.2.2.1 s (by omega)
  rw [e1, e2, e3] at hW
  rw [e1] at r
  have r6 := rb_in r
  have hg := RSs_get (hW.2.2.2.2.1 p hp) hk
  have i := sA_in (rb (π 6)) (w 6).2.1 hp hg.1
  exact ⟨hg.2.1, by omega, by omega⟩
set_option maxRecDepth 100000 in
theorem l_send {sc : tm_X} {d : Nat} {B : bm_H} {F : Nat → Prop} {N S M ln : Nat} {T : List Tm} {dr : Nat} {K : Tm → Prop} {ca rm kc kl rk : Nat} {ws : List (Tm × Int32)} {wt : List Tm} {L : List LT} {bd ll tc tl tf tg : Nat → Int32} {cf cg : Int32} {ct : Tm} {co : Bool} {li fo db : Int32} {ids dir reg : Nat → Tm} {seen : List Tm} {π : Nat → Nat} {w : Nat → SW} {dev : Nat → DV} {sto : Nat → ST} {id : Tm} {K0 K1 : PK} {on : List (Tm × Int32)} {lnu : Int32} {se : Nat → List SS} {me : Nat → MM} {s p : Nat} {S0 : SS} {p0 : Bool} {P : EN2} {c : Option Nat} {Q : Int32 → bm_H → Prop} (hC : CK B F N S M ln T dr K ca rm kc kl rk) (hH : RH B T ws wt (L, bd, ll, tc, tl, tf, tg, cf, cg, ct, co, li, fo, db) ids dir reg seen π w dev sto) (hs : s < 6) (hp : p < 6) (eD : dev 6 = (id, K0, K1, on, lnu, se, me)) (hk : (se p)[0]? = some S0) (hM : T.length + 13 < M) (hdr : dr ≤ 2990) (hws : ws.length ≤ 692) (hwt : wt = []) (hL : L.length < 700) (hk1 : kd S0.2.2.2.1 = 1) (hk2 : kd (pt S0.1.1 0) = 1) (hst : sto s = (p0, P, [], c, false)) (hen : (dv_en (id, K0, K1, on, lnu, fset se p ((se p).set 0 (ss_sent (ss_turn S0 (Tsec (nI dr) (nI s) 2)))), me)).length ≤ 536) (k0 : ∀ B' T' kc' kl' rk' w', T <+: T' → T'.length ≤ T.length + 12 → (st_commit p0 P c (dv_en (id, K0, K1, on, lnu, fset se p ((se p).set 0 (ss_sent (ss_turn S0 (Tsec (nI dr) (nI s) 2)))), me))).1 = 0 → CK B' F N S M ln T' ((dr_turn S0 dr) + 1) K ca rm kc' kl' rk' → RH B' T' ws [(ss_wire (ss_turn S0 (Tsec (nI dr) (nI s) 2)) (nI s) (nI p) (Trw 4 0 0 0 0 (Tsec (nI (dr_turn S0 dr)) (nI s) 0) tz tz tz))] (L, bd, ll, tc, tl, tf, tg, cf, cg, ct, co, li, fo, db) ids dir reg seen π w' (fset dev 6 (id, K0, K1, on, lnu, fset se p ((se p).set 0 (ss_sent (ss_turn S0 (Tsec (nI dr) (nI s) 2)))), me)) (fset sto s (st_commit p0 P c (dv_en (id, K0, K1, on, lnu, fset se p ((se p).set 0 (ss_sent (ss_turn S0 (Tsec (nI dr) (nI s) 2)))), me))).2) → fr (fun y => ¬ F y) B B' → Q (-4) B') (k1 : ∀ B' T' kc' kl' rk' w', T <+: T' → T'.length ≤ T.length + 12 → (st_commit p0 P c (dv_en (id, K0, K1, on, lnu, fset se p ((se p).set 0 (ss_sent (ss_turn S0 (Tsec (nI dr) (nI s) 2)))), me))).1 = 1 → CK B' F N S M ln T' ((dr_turn S0 dr) + 1) K ca rm kc' kl' rk' → RH B' T' ws [(ss_wire (ss_turn S0 (Tsec (nI dr) (nI s) 2)) (nI s) (nI p) (Trw 4 0 0 0 0 (Tsec (nI (dr_turn S0 dr)) (nI s) 0) tz tz tz))] (L, bd, ll, tc, tl, tf, tg, cf, cg, ct, co, li, fo, db) ids dir reg seen (sw6 π s) w' (sw6 (fset dev 6 (id, K0, K1, on, lnu, fset se p ((se p).set 0 (ss_sent (ss_turn S0 (Tsec (nI dr) (nI s) 2)))), me)) s) (fset sto s (st_commit p0 P c (dv_en (id, K0, K1, on, lnu, fset se p ((se p).set 0 (ss_sent (ss_turn S0 (Tsec (nI dr) (nI s) 2)))), me))).2) → fr (fun y => ¬ F y) B B' → Q (-4) B') (k2 : ∀ B' T' kc' kl' rk' w', T <+: T' → T'.length ≤ T.length + 12 → (st_commit p0 P c (dv_en (id, K0, K1, on, lnu, fset se p ((se p).set 0 (ss_sent (ss_turn S0 (Tsec (nI dr) (nI s) 2)))), me))).1 = 2 → CK B' F N S M T'.length T' ((dr_turn S0 dr) + 1) (fun y => K y ∨ y = (ss_wire (ss_turn S0 (Tsec (nI dr) (nI s) 2)) (nI s) (nI p) (Trw 4 0 0 0 0 (Tsec (nI (dr_turn S0 dr)) (nI s) 0) tz tz tz))) ca rm kc' kl' rk' → RH B' T' (ws ++ [((ss_wire (ss_turn S0 (Tsec (nI dr) (nI s) 2)) (nI s) (nI p) (Trw 4 0 0 0 0 (Tsec (nI (dr_turn S0 dr)) (nI s) 0) tz tz tz)), nI L.length)]) [] (L ++ [lt_sent (Tsec (nI (dr_turn S0 dr)) (nI s) 0) (nI s) (nI p) (ss_sent (ss_turn S0 (Tsec (nI dr) (nI s) 2)))], upd bd (dr_turn S0 dr) (nI L.length), ll, tc, tl, tf, tg, cf, cg, ct, co, li, fo, db) ids dir reg seen (sw6 π s) w' (sw6 (fset dev 6 (id, K0, K1, on, lnu, fset se p ((se p).set 0 (ss_sent (ss_turn S0 (Tsec (nI dr) (nI s) 2)))), me)) s) (fset sto s (st_commit p0 P c (dv_en (id, K0, K1, on, lnu, fset se p ((se p).set 0 (ss_sent (ss_turn S0 (Tsec (nI dr) (nI s) 2)))), me))).2) → fr (fun y => ¬ F y) B B' → Q (nI ws.length) B') : ∀ lv : tm_L, lv.lookup 0 = some (.ref 0) → lv.lookup 1 = some (.int (nI s)) → lv.lookup 2 = some (.int (nI p)) → lv.lookup 4 = some (.ref (sA (rb (π 6)) (w 6).2.1 p 0)) → bm_G sc (d + 6) 84 53 lv [] B (fun r B' => ∃ x, r = some (.int x) ∧ Q x B') := by
  intro lv l0 l1 l2 l4
  have hd1 := dr_turn_le S0 dr
  have hrm := hC.2.2.2.2.1.2
  subst hwt
  obtain ⟨h1, hnt, hlo, hhi, r6a, r6b⟩ := ses_at hC hH hp eD hk
  refine g_ald (pc' := 55) cd_Ho_send rfl (Or.inl ⟨rfl, rfl⟩) l4 rfl rfl ?_
  refine g_ald (pc' := 56) cd_Ho_send rfl (Or.inr ⟨_, rfl, rfl, rfl⟩) l0 rfl rfl ?_
  refine g_fR (c := 11) (k := 0) (x := 1) (pc' := 59) cd_Ho_send rfl rfl rfl rfl rfl (by decide) hH.1.1.1 hH.1.1.2 hH.1.2.1.1 ?_
  refine g_ild (pc' := 60) cd_Ho_send rfl (Or.inr ⟨_, rfl, rfl, rfl⟩) l1 rfl ?_
  refine g_callv (pc' := 63) cd_Ho_send rfl rfl rfl rfl rfl (tm_invV rfl rfl cd_Se_turnToSend rfl (Nat.le_of_ble_eq_true rfl) (by decide) (RSe_S h1).1.1 (RSe_S h1).1.2) (t_turnH hC hH hp eD hk (by omega) (by omega) hk2 (fun B1 T1 hp1 hl1 hC1 hH1 hz1 => ?_))
  have eD1 : fset dev 6 (id, K0, K1, on, lnu, fset se p ((se p).set 0 (ss_turn S0 (Tsec (nI dr) (nI s) 2))), me) 6 = (id, K0, K1, on, lnu, fset se p ((se p).set 0 (ss_turn S0 (Tsec (nI dr) (nI s) 2))), me) := fset_same _ _ _
  have hk1a : (fset se p ((se p).set 0 (ss_turn S0 (Tsec (nI dr) (nI s) 2))) p)[0]? = some (ss_turn S0 (Tsec (nI dr) (nI s) 2)) := by rw [fset_same]; exact List.getElem?_set_self (List.getElem?_eq_some_iff.mp hk).1
  obtain ⟨hr1, -⟩ := ses_at hC1 hH1 hp eD1 hk1a
  show bm_G _ _ _ 63 _ [] B1 _
  refine g_ald (pc' := 64) cd_Ho_send rfl (Or.inr ⟨_, rfl, rfl, rfl⟩) l0 rfl rfl ?_
  refine g_fR (c := 11) (k := 0) (x := 1) (pc' := 67) cd_Ho_send rfl rfl rfl rfl rfl (by decide) hH1.1.1.1 hH1.1.1.2 hH1.1.2.1.1 ?_
  refine g_ild (pc' := 68) cd_Ho_send rfl (Or.inr ⟨_, rfl, rfl, rfl⟩) l1 rfl ?_
  refine g_k1 (v := 0) (pc' := 69) cd_Ho_send rfl (by decide) rfl ?_
  refine g_calli (pc' := 72) cd_Ho_send rfl rfl rfl rfl rfl (tm_invV rfl rfl cd_Te_secret rfl (Nat.le_of_ble_eq_true rfl) (by decide) hC1.1.1.1.1 hC1.1.1.1.2) (t_secret (xd := nI s) (xp := 0) hC1.1 (by omega) (by omega) (fun B2 r2 hx2 ht2 => ?_))
  have hC2 := CK_made hC1 hx2.2.2.1 hx2.1 (fz_te hx2.2.2.2) (fun y q => Or.inl q)
  have hH2 := RH_te hC1 hH1 (fz_te hx2.2.2.2) hx2.1
  obtain ⟨hr2, -⟩ := ses_at hC2 hH2 hp eD1 hk1a
  have hl2 : (T1 ++ [(Tsec (nI (dr_turn S0 dr)) (nI s) 0), Tpub (Tsec (nI (dr_turn S0 dr)) (nI s) 0)]).length = T1.length + 2 := by simp
  show bm_G _ _ _ 72 _ [.int r2] B2 _
  refine g_ist (pc' := 74) cd_Ho_send rfl (Or.inl ⟨rfl, rfl⟩) (by decide) rfl (fun lv el => ?_)
  have l0 := tm_lk el l0 rfl (by decide)
  have l1 := tm_lk el l1 rfl (by decide)
  have l2 := tm_lk el l2 rfl (by decide)
  have l4 := tm_lk el l4 rfl (by decide)
  have l5 : lv.lookup 5 = some (.int r2) := tm_lks el
  clear el
  refine g_ald (pc' := 75) cd_Ho_send rfl (Or.inr ⟨_, rfl, rfl, rfl⟩) l0 rfl rfl ?_
  refine g_fR (c := 11) (k := 2) (x := 8) (pc' := 78) cd_Ho_send rfl rfl rfl rfl rfl (by decide) hH2.1.1.1 hH2.1.1.2 hH2.1.2.1.2.2.1 ?_
  refine g_ald (pc' := 80) cd_Ho_send rfl (Or.inl ⟨rfl, rfl⟩) l4 rfl rfl ?_
  refine g_ald (pc' := 81) cd_Ho_send rfl (Or.inr ⟨_, rfl, rfl, rfl⟩) l0 rfl rfl ?_
  refine g_fR (c := 11) (k := 0) (x := 1) (pc' := 84) cd_Ho_send rfl rfl rfl rfl rfl (by decide) hH2.1.1.1 hH2.1.1.2 hH2.1.2.1.1 ?_
  refine g_ild (pc' := 85) cd_Ho_send rfl (Or.inr ⟨_, rfl, rfl, rfl⟩) l1 rfl ?_
  refine g_ild (pc' := 86) cd_Ho_send rfl (Or.inr ⟨_, rfl, rfl, rfl⟩) l2 rfl ?_
  refine g_ald (pc' := 87) cd_Ho_send rfl (Or.inr ⟨_, rfl, rfl, rfl⟩) l0 rfl rfl ?_
  refine g_ild (pc' := 89) cd_Ho_send rfl (Or.inl ⟨rfl, rfl⟩) l5 rfl ?_
  refine g_calli (pc' := 92) cd_Ho_send rfl rfl rfl rfl rfl (tm_invV rfl rfl cd_Ho_letterRow rfl (Nat.le_of_ble_eq_true rfl) (by decide) hH2.1.1.1 hH2.1.1.2) (t_letterRow hC2 hH2 ht2 (by omega) (fun B3 T3 r3 hp3 hl3 hC3 hH3 ht3 hz3 => ?_))
  obtain ⟨hr3, -⟩ := ses_at hC3 hH3 hp eD1 hk1a
  show bm_G _ _ _ 92 _ [.int r3, .int (nI p), .int (nI s), .ref 1, .ref ((sA (rb (π 6)) (w 6).2.1 p 0)), .ref 8] B3 _
  refine g_calli (pc' := 95) cd_Ho_send rfl rfl rfl rfl rfl (tm_invV rfl rfl cd_Se_nextWire rfl (Nat.le_of_ble_eq_true rfl) (by decide) (RSe_S hr3).1.1 (RSe_S hr3).1.2) (t_wireH hC3 hH3 hp eD1 hk1a (by omega) ht3 (ss_turn_mi hk1 rfl) (fun B4 T4 r4 hp4 hl4 hC4 hH4 ht4 hz4 => ?_))
  have e4 : fset (fset dev 6 (id, K0, K1, on, lnu, fset se p ((se p).set 0 (ss_turn S0 (Tsec (nI dr) (nI s) 2))), me)) 6 (id, K0, K1, on, lnu, fset (fset se p ((se p).set 0 (ss_turn S0 (Tsec (nI dr) (nI s) 2)))) p ((fset se p ((se p).set 0 (ss_turn S0 (Tsec (nI dr) (nI s) 2))) p).set 0 (ss_sent (ss_turn S0 (Tsec (nI dr) (nI s) 2)))), me) = fset dev 6 (id, K0, K1, on, lnu, fset se p ((se p).set 0 (ss_sent (ss_turn S0 (Tsec (nI dr) (nI s) 2)))), me) := by rw [fset_fset, fset_fset, fset_same, List.set_set]
  rw [e4] at hH4
  show bm_G _ _ _ 95 _ [.int r4, .ref 8] B4 _
  refine g_callv (pc' := 98) cd_Ho_send rfl rfl rfl rfl rfl (tm_invV rfl rfl cd_Wi_add rfl (Nat.le_of_ble_eq_true rfl) (by decide) hH4.2.1.1.1.1 hH4.2.1.1.1.2) (t_Wadd hH4.2.1 (by simp; omega) ht4 (fun B5 hW5 hz5 => ?_))
  have hH5 := RH_wi hH4 hz5.1 (fun y q => by omega) (List.prefix_refl T4) hW5
  have hC5 := CK_cls hC4 hz5 (fun y q => by omega)
  rw [List.nil_append] at hH5
  have hf5 : fr (fun y => ¬ F y) B B5 := fr_trans (fr_trans (fr_trans (fr_trans (fr_mono (fun y q => q.elim (nF_tcs hC) (fun q => nF_lo hC (by omega))) hz1.1) (fr_mono (fun y q => nF_tcs hC1 q) (fz_te hx2.2.2.2).1)) (fr_mono (fun y q => nF_tcs hC2 q) hz3.1)) (fr_mono (fun y q => q.elim (nF_tcs hC3) (fun q => nF_lo hC (by omega))) hz4.1)) (fr_mono (fun y q => nF_lo hC (by omega)) hz5.1)
  have hpT : T <+: T4 := ((hp1.trans hx2.1).trans hp3).trans hp4
  show bm_G _ _ _ 98 _ [] B5 _
  refine g_ald (pc' := 99) cd_Ho_send rfl (Or.inr ⟨_, rfl, rfl, rfl⟩) l0 rfl rfl ?_
  refine g_ild (pc' := 100) cd_Ho_send rfl (Or.inr ⟨_, rfl, rfl, rfl⟩) l1 rfl ?_
  refine g_calli (pc' := 103) cd_Ho_send rfl rfl rfl rfl rfl (tm_invV rfl rfl cd_Ho_finish rfl (Nat.le_of_ble_eq_true rfl) (by decide) hH5.1.1.1 hH5.1.1.2) (t_finish hC5 hH5 hs hst (by rw [fset_same]; exact hen) (fun B6 ho hC6 hH6 hz6 => ?_) (fun B6 ho hC6 hH6 hz6 => ?_))
  · skip
    rw [fset_same] at ho hH6
    show bm_G _ _ _ 103 _ [.int 0] B6 _
    refine g_if1 (t := 109) (pc' := 106) cd_Ho_send rfl rfl rfl (fun c103 => ?_) (fun c103 => ?_)
    · exact absurd (show ¬ (0 : Int32) = 0 from c103) (by decide)
    · have c103 : (0 : Int32) = 0 := Classical.not_not.mp c103
      refine g_k2 (v := (-4)) (pc' := 108) cd_Ho_send rfl (by decide) rfl ?_
      exact g_reti cd_Ho_send rfl ⟨_, rfl, (k0 B6 T4 kc kl rk _ hpT (by omega) ho hC6 hH6 (fr_trans hf5 (fr_mono (fun y q => nF_lo hC (by omega)) hz6.1)))⟩
  · skip
    rw [fset_same] at ho hH6
    rw [fset_same]
    obtain ⟨hr6, hlo6, hhi6⟩ := ses_sw (k := 0) hC6 hH6 hs hp (S0 := (ss_sent (ss_turn S0 (Tsec (nI dr) (nI s) 2)))) (by rw [fset_same]; exact List.getElem?_set_self (List.getElem?_eq_some_iff.mp hk).1)
    show bm_G _ _ _ 103 _ [.int (bz (decide ((st_commit p0 P c (dv_en (id, K0, K1, on, lnu, fset se p ((se p).set 0 (ss_sent (ss_turn S0 (Tsec (nI dr) (nI s) 2)))), me))).1 = 2)))] B6 _
    refine g_if1 (t := 109) (pc' := 106) cd_Ho_send rfl rfl rfl (fun c103 => ?_) (fun c103 => ?_)
    · have c103 : (decide ((st_commit p0 P c (dv_en (id, K0, K1, on, lnu, fset se p ((se p).set 0 (ss_sent (ss_turn S0 (Tsec (nI dr) (nI s) 2)))), me))).1 = 2)) = true := bz_t c103
      refine g_ald (pc' := 110) cd_Ho_send rfl (Or.inr ⟨_, rfl, rfl, rfl⟩) l0 rfl rfl ?_
      refine g_fR (c := 11) (k := 2) (x := 8) (pc' := 113) cd_Ho_send rfl rfl rfl rfl rfl (by decide) hH6.1.1.1 hH6.1.1.2 hH6.1.2.1.2.2.1 ?_
      refine g_ald (pc' := 114) cd_Ho_send rfl (Or.inr ⟨_, rfl, rfl, rfl⟩) l0 rfl rfl ?_
      refine g_fR (c := 11) (k := 1) (x := 5) (pc' := 117) cd_Ho_send rfl rfl rfl rfl rfl (by decide) hH6.1.1.1 hH6.1.1.2 hH6.1.2.1.2.1 ?_
      refine g_ald (pc' := 118) cd_Ho_send rfl (Or.inr ⟨_, rfl, rfl, rfl⟩) l0 rfl rfl ?_
      refine g_fR (c := 11) (k := 3) (x := 11) (pc' := 121) cd_Ho_send rfl rfl rfl rfl rfl (by decide) hH6.1.1.1 hH6.1.1.2 hH6.1.2.1.2.2.2.1 ?_
      refine g_ald (pc' := 122) cd_Ho_send rfl (Or.inr ⟨_, rfl, rfl, rfl⟩) l0 rfl rfl ?_
      refine g_fR (c := 11) (k := 0) (x := 1) (pc' := 125) cd_Ho_send rfl rfl rfl rfl rfl (by decide) hH6.1.1.1 hH6.1.1.2 hH6.1.2.1.1 ?_
      refine g_ild (pc' := 127) cd_Ho_send rfl (Or.inl ⟨rfl, rfl⟩) l5 rfl ?_
      refine g_ild (pc' := 128) cd_Ho_send rfl (Or.inr ⟨_, rfl, rfl, rfl⟩) l1 rfl ?_
      refine g_ild (pc' := 129) cd_Ho_send rfl (Or.inr ⟨_, rfl, rfl, rfl⟩) l2 rfl ?_
      refine g_ald (pc' := 131) cd_Ho_send rfl (Or.inl ⟨rfl, rfl⟩) l4 rfl rfl ?_
      have ht6 : tv T4 r2 (Tsec (nI (dr_turn S0 dr)) (nI s) 0) := tv_mono (hp3.trans hp4) ht2
      refine g_calli (pc' := 134) cd_Ho_send rfl rfl rfl rfl rfl (tm_invV rfl rfl cd_Le_addSent rfl (Nat.le_of_ble_eq_true rfl) (by decide) hH6.2.2.1.1.1.1 hH6.2.2.1.1.1.2) (t_addSent hC6.1 hC6.2.2.2.2.2.1 hH6.2.2.1 hL ht6 rfl (by omega) hr6 (by omega) (by omega) (fun B7 hL7 hz7 => ?_))
      have hH7 := RH_le hH6 hz7.1 (fun y q => by unfold lex; omega) (List.prefix_refl T4) hL7
      have hC7 := CK_cls hC6 hz7 (fun y q => by unfold lex at q; omega)
      show bm_G _ _ _ 134 _ [.int (nI L.length), .ref 5, .ref 8] B7 _
      refine g_calli (pc' := 137) cd_Ho_send rfl rfl rfl rfl rfl (tm_invV rfl rfl cd_Wi_tell rfl (Nat.le_of_ble_eq_true rfl) (by decide) hH7.2.1.1.1.1 hH7.2.1.1.1.2) (t_Wtell (wt := []) hC7 hH7.2.1 (fun B8 kc8 kl8 rk8 hC8 hW8 hf8 => ?_))
      have hH8 := RH_wi (ws' := ws ++ [((ss_wire (ss_turn S0 (Tsec (nI dr) (nI s) 2)) (nI s) (nI p) (Trw 4 0 0 0 0 (Tsec (nI (dr_turn S0 dr)) (nI s) 0) tz tz tz)), nI L.length)]) (wt' := []) hH7 hf8 (fun y q r => by unfold xw xc at r; omega) (List.prefix_refl T4) (by simpa using hW8)
      show bm_G _ _ _ 137 _ [.int (nI (ws.length + ([] : List Tm).length))] B8 _
      exact g_reti cd_Ho_send rfl ⟨_, rfl, (k2 B8 T4 kc8 kl8 rk8 _ hpT (by omega) (of_decide_eq_true c103) (CK_eqK hC8 (fun y => by simp)) hH8 (fr_trans (fr_trans (fr_trans hf5 (fr_mono (fun y q => nF_lo hC (by omega)) hz6.1)) (fr_mono (fun y q => nF_lo hC (by unfold lex at q; omega)) hz7.1)) (fr_mono (fun y q => q.elim (nF_xc hC) (fun q => nF_lo hC (by omega))) hf8)))⟩
    · have c103 : (decide ((st_commit p0 P c (dv_en (id, K0, K1, on, lnu, fset se p ((se p).set 0 (ss_sent (ss_turn S0 (Tsec (nI dr) (nI s) 2)))), me))).1 = 2)) = false := bz_f (Classical.not_not.mp c103)
      refine g_k2 (v := (-4)) (pc' := 108) cd_Ho_send rfl (by decide) rfl ?_
      have ho1 : (st_commit p0 P c (dv_en (id, K0, K1, on, lnu, fset se p ((se p).set 0 (ss_sent (ss_turn S0 (Tsec (nI dr) (nI s) 2)))), me))).1 = 1 := by have := st_commit_le (p := p0) (P := P) (c := c) (W := dv_en (id, K0, K1, on, lnu, fset se p ((se p).set 0 (ss_sent (ss_turn S0 (Tsec (nI dr) (nI s) 2)))), me)); have q2 := of_decide_eq_false c103; omega
      exact g_reti cd_Ho_send rfl ⟨_, rfl, (k1 B6 T4 kc kl rk _ hpT (by omega) ho1 hC6 hH6 (fr_trans hf5 (fr_mono (fun y q => nF_lo hC (by omega)) hz6.1)))⟩
