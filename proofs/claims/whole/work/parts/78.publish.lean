/-! publish -/
theorem nF_lo {B : bm_H} {F : Nat → Prop} {N S M ln : Nat} {T : List Tm} {dr : Nat} {K : Tm → Prop} {ca rm kc kl rk : Nat} (h : CK B F N S M ln T dr K ca rm kc kl rk) {y : Nat} (hy : y < 1482) : ¬ F y := fun q => by have := (h.2.2.2.2.2.2.2.2.2.2 y q).1; omega
theorem nF_xc {B : bm_H} {F : Nat → Prop} {N S M ln : Nat} {T : List Tm} {dr : Nat} {K : Tm → Prop} {ca rm kc kl rk : Nat} (h : CK B F N S M ln T dr K ca rm kc kl rk) {y : Nat} (hy : xc F y) : ¬ F y := hy.elim (fun q => nF_lo h (by omega)) (fun q => q.2)
theorem nF_tcs {B : bm_H} {F : Nat → Prop} {N S M ln : Nat} {T : List Tm} {dr : Nat} {K : Tm → Prop} {ca rm kc kl rk : Nat} (h : CK B F N S M ln T dr K ca rm kc kl rk) {y : Nat} (hy : tcs 1 ca 3 4 y) : ¬ F y := nF_xc h (CK_xc h y hy)
theorem on_fill_kd {v : Int32} : ∀ {n dr : Nat} {ln : Int32} {on : List (Tm × Int32)}, (∀ e, e ∈ on → kd e.1 = 1) → ∀ e, e ∈ (on_fill v n dr ln on).1 → kd e.1 = 1
  | 0, _, _, _, h => h
  | n + 1, dr, ln, on, h => on_fill_kd (n := n) (dr := dr + 1) (ln := ln + 1) (fun e he => by
    rcases List.mem_append.mp he with q | q
    · exact h e q
    · simp at q; subst q; rfl)
/-- a device's work, with terms made meanwhile -/
theorem RH_work {B : bm_H} {F : Nat → Prop} {N S M ln : Nat} {T : List Tm} {dr : Nat} {K : Tm → Prop} {ca rm kc kl rk : Nat} {ws : List (Tm × Int32)} {wt : List Tm} {G : LG} {ids dir reg : Nat → Tm} {seen : List Tm} {π : Nat → Nat} {w : Nat → SW} {dev : Nat → DV} {sto : Nat → ST} (hC : CK B F N S M ln T dr K ca rm kc kl rk) (hH : RH B T ws wt G ids dir reg seen π w dev sto) {B' : bm_H} {T' : List Tm} {w' : SW} {D : DV} (hf : fz (dxs 1 ca 3 4 (rb (π 6))) B B') (hT : T <+: T') (hn : RDe B' T' (rb (π 6)) w' D) : RH B' T' ws wt G ids dir reg seen π (fset w 6 w') (fset dev 6 D) sto := by
  have h6 := hC.2.2.2.2.2.1
  exact RH_dv (k := 6) hH hf.1 (fun y q r => by unfold dxs tcs at r; omega) hT (by decide) hn
theorem CK_work {B : bm_H} {F : Nat → Prop} {N S M ln : Nat} {T : List Tm} {dr : Nat} {K : Tm → Prop} {ca rm kc kl rk : Nat} {ws : List (Tm × Int32)} {wt : List Tm} {G : LG} {ids dir reg : Nat → Tm} {seen : List Tm} {π : Nat → Nat} {w : Nat → SW} {dev : Nat → DV} {sto : Nat → ST} (hC : CK B F N S M ln T dr K ca rm kc kl rk) (hH : RH B T ws wt G ids dir reg seen π w dev sto) {B' : bm_H} {T' : List Tm} {dr' : Nat} (hT' : TI B' 1 ca 3 4 rm dr' T') (hf : fz (dxs 1 ca 3 4 (rb (π 6))) B B') (hT : T <+: T') : CK B' F N S M ln T' dr' K ca rm kc kl rk := by
  have r6 := rb_in (hH.2.2.2.2.1.2.2.1 6 (by decide))
  exact CK_made hC hT' hT hf (fun y q => q.elim Or.inl (fun q => Or.inr (by omega)))
def dv_renew (D : DV) (dr p : Nat) : DV := match D with
  | (id, K0, _, on, lnu, se, me) => (id, (Tsec (nI dr) (nI p) 1, lnu + 1, []), K0, (on_fill (nI p) (4 - on.length) (dr + 1) (lnu + 1) on).1, (on_fill (nI p) (4 - on.length) (dr + 1) (lnu + 1) on).2, se, me)
set_option maxRecDepth 100000 in
theorem t_publish {sc : tm_X} {d : Nat} {B : bm_H} {F : Nat → Prop} {N S M ln : Nat} {T : List Tm} {dr : Nat} {K : Tm → Prop} {ca rm kc kl rk : Nat} {ws : List (Tm × Int32)} {wt : List Tm} {G : LG} {ids dir reg : Nat → Tm} {seen : List Tm} {π : Nat → Nat} {w : Nat → SW} {dev : Nat → DV} {sto : Nat → ST} {id : Tm} {K0 K1 : PK} {on : List (Tm × Int32)} {lnu : Int32} {se : Nat → List SS} {me : Nat → MM} {p : Nat} {p0 : Bool} {P : EN2} {c : Option Nat} {Q : Int32 → bm_H → Prop} (hC : CK B F N S M ln T dr K ca rm kc kl rk) (hH : RH B T ws wt G ids dir reg seen π w dev sto) (hdr : dr ≤ 2960) (hws : ws.length ≤ 692) (hTl : T.length ≤ 30000) (hp : p < 6) (eD : dev p = (id, K0, K1, on, lnu, se, me)) (hk : ∀ e, e ∈ on → kd e.1 = 1) (hst : sto p = (p0, P, [], c, false)) (hen : (dv_en (dv_renew (id, K0, K1, on, lnu, se, me) dr p)).length ≤ 536) (k0 : ∀ B' T' M' ca' rm' kc' kl' rk' w', T <+: T' → T'.length ≤ T.length + 16 → (st_commit p0 P c (dv_en (dv_renew (id, K0, K1, on, lnu, se, me) dr p))).1 = 0 → CK B' F N S M' ln T' (dr + 1 + (4 - on.length)) K ca' rm' kc' kl' rk' → RH B' T' ws [] G ids dir reg seen π w' (fset dev 6 (dv_renew (id, K0, K1, on, lnu, se, me) dr p)) (fset sto p (st_commit p0 P c (dv_en (dv_renew (id, K0, K1, on, lnu, se, me) dr p))).2) → fr (fun y => ¬ F y) B B' → Q (-4) B') (k1 : ∀ B' T' M' ca' rm' kc' kl' rk' w', T <+: T' → T'.length ≤ T.length + 16 → (st_commit p0 P c (dv_en (dv_renew (id, K0, K1, on, lnu, se, me) dr p))).1 = 1 → CK B' F N S M' ln T' (dr + 1 + (4 - on.length)) K ca' rm' kc' kl' rk' → RH B' T' ws [] G ids dir reg seen (sw6 π p) w' (sw6 (fset dev 6 (dv_renew (id, K0, K1, on, lnu, se, me) dr p)) p) (fset sto p (st_commit p0 P c (dv_en (dv_renew (id, K0, K1, on, lnu, se, me) dr p))).2) → fr (fun y => ¬ F y) B B' → Q (-4) B') (k2 : ∀ B' T' M' ca' rm' kc' kl' rk' w', T <+: T' → T'.length ≤ T.length + 16 → (st_commit p0 P c (dv_en (dv_renew (id, K0, K1, on, lnu, se, me) dr p))).1 = 2 → CK B' F N S M' T'.length T' (dr + 1 + (4 - on.length)) (fun y => (K y ∨ y = (Tsg id (Trw 1 (nI p) (lnu + 1) 0 0 (Tpub (Tsec (nI dr) (nI p) 1)) tz tz tz))) ∨ y ∈ (on_fill (nI p) (4 - on.length) (dr + 1) (lnu + 1) on).1.map (kr (nI p))) ca' rm' kc' kl' rk' → RH B' T' ws [] G ids (an_dir p (nI p) (on_fill (nI p) (4 - on.length) (dr + 1) (lnu + 1) on).1 0 (fset dir (p * 5 + 0) (Tsg id (Trw 1 (nI p) (lnu + 1) 0 0 (Tpub (Tsec (nI dr) (nI p) 1)) tz tz tz)))) reg seen (sw6 π p) w' (sw6 (fset dev 6 (dv_renew (id, K0, K1, on, lnu, se, me) dr p)) p) (fset sto p (st_commit p0 P c (dv_en (dv_renew (id, K0, K1, on, lnu, se, me) dr p))).2) → fr (fun y => ¬ F y) B B' → Q (lnu + 1) B') : bm_Gi sc (d + 6) 30 [.ref 0, .int (nI p)] B Q := by
  show bm_G sc (d + 6) 30 0 [(0, .ref 0), (1, .int (nI p))] [] B _
  generalize elv : ([(0, .ref 0), (1, .int (nI p))] : tm_L) = lv
  have l0 : lv.lookup 0 = some (.ref 0) := by rw [← elv]; rfl
  have l1 : lv.lookup 1 = some (.int (nI p)) := by rw [← elv]; rfl
  clear elv
  refine g_ald (pc' := 1) cd_Ho_publish rfl (Or.inr ⟨_, rfl, rfl, rfl⟩) l0 rfl rfl ?_
  refine g_ild (pc' := 2) cd_Ho_publish rfl (Or.inr ⟨_, rfl, rfl, rfl⟩) l1 rfl ?_
  refine g_calli (pc' := 5) cd_Ho_publish rfl rfl rfl rfl rfl (tm_invS rfl rfl cd_Ho_isDevice rfl (Nat.le_of_ble_eq_true rfl)) (t_isDevice ?_)
  rw [show inR (nI p) 6 = true from inR_nI hp (by decide)]
  show bm_G _ _ _ _ _ (.int 1 :: _) _ _
  show bm_G _ _ _ 5 _ [.int 1, .ref 0] B _
  refine g_ild (pc' := 6) cd_Ho_publish rfl (Or.inr ⟨_, rfl, rfl, rfl⟩) l1 rfl ?_
  refine g_calli (pc' := 9) cd_Ho_publish rfl rfl rfl rfl rfl (tm_invV rfl rfl cd_Ho_refusal rfl (Nat.le_of_ble_eq_true rfl) (by decide) hH.1.1.1 hH.1.1.2) (t_refusal hC hH hdr hws hTl hp (fun _ _ _ hdn _ _ _ => by rw [hst] at hdn; cases hdn) (fun B1 ca1 rm1 hdn hC1 hH1 hf1 => ?_))
  show bm_G _ _ _ 9 _ [.int 0] B1 _
  refine g_ist (pc' := 10) cd_Ho_publish rfl (Or.inr ⟨_, rfl, rfl, rfl⟩) (by decide) rfl (fun lv el => ?_)
  have l0 := tm_lk el l0 rfl (by decide)
  have l1 := tm_lk el l1 rfl (by decide)
  have l2 : lv.lookup 2 = some (.int 0) := tm_lks el
  clear el
  refine g_ild (pc' := 11) cd_Ho_publish rfl (Or.inr ⟨_, rfl, rfl, rfl⟩) l2 rfl ?_
  refine g_if1 (t := 16) (pc' := 14) cd_Ho_publish rfl rfl rfl (fun c11 => ?_) (fun c11 => ?_)
  · have c11 : (0 : Int32) = 0 := c11
    refine g_ald (pc' := 17) cd_Ho_publish rfl (Or.inr ⟨_, rfl, rfl, rfl⟩) l0 rfl rfl ?_
    refine g_ild (pc' := 18) cd_Ho_publish rfl (Or.inr ⟨_, rfl, rfl, rfl⟩) l1 rfl ?_
    refine g_callv (pc' := 21) cd_Ho_publish rfl rfl rfl rfl rfl (tm_invV rfl rfl cd_Ho_startWork rfl (Nat.le_of_ble_eq_true rfl) (by decide) hH1.1.1.1 hH1.1.1.2) (t_startWork hC1 hH1 hp (fun B2 hC2 hH2 hz2 => ?_))
    have hV2 := hH2.2.2.2.2.1
    have r6 := rb_in (hV2.2.2.1 6 (by decide))
    have hW2 := hV2.2.2.2.2 6 (by decide)
    rw [fset_same, eD] at hW2
    have hrm2 := hC2.2.2.2.2.1.2
    show bm_G _ _ _ 21 _ [] B2 _
    refine g_ald (pc' := 22) cd_Ho_publish rfl (Or.inr ⟨_, rfl, rfl, rfl⟩) l0 rfl rfl ?_
    refine g_fR (c := 11) (k := 11) (x := (rb (π 6))) (pc' := 25) cd_Ho_publish rfl rfl rfl rfl rfl (by decide) hH2.1.1.1 hH2.1.1.2 hH2.2.2.2.2.1.2.1 ?_
    refine g_ald (pc' := 26) cd_Ho_publish rfl (Or.inr ⟨_, rfl, rfl, rfl⟩) l0 rfl rfl ?_
    refine g_fR (c := 11) (k := 0) (x := 1) (pc' := 29) cd_Ho_publish rfl rfl rfl rfl rfl (by decide) hH2.1.1.1 hH2.1.1.2 hH2.1.2.1.1 ?_
    refine g_ild (pc' := 30) cd_Ho_publish rfl (Or.inr ⟨_, rfl, rfl, rfl⟩) l1 rfl ?_
    refine g_callv (pc' := 33) cd_Ho_publish rfl rfl rfl rfl rfl (tm_invV rfl rfl cd_De_renewKeys rfl (Nat.le_of_ble_eq_true rfl) (by decide) (RDe_K (hH2.2.2.2.2.1.2.2.2.2 6 (by decide))).1 (RDe_K (hH2.2.2.2.2.1.2.2.2.2 6 (by decide))).2) (t_renewKeys (fun y a b => CK_tcs hC2 (by omega) (by omega)) hC2.1 hW2 (by omega) (by omega) (fun B3 T3 w3 hp3 hl3 hT3 hR3 hz3 => ?_))
    have hC3 := CK_work hC2 hH2 hT3 hz3 hp3
    have hH3 := RH_work hC2 hH2 hz3 hp3 hR3
    have e6 : fset (fset dev 6 (dev p)) 6 (dv_renew (id, K0, K1, on, lnu, se, me) dr p) = fset dev 6 (dv_renew (id, K0, K1, on, lnu, se, me) dr p) := by funext j; unfold fset; split <;> rfl
    have hH3 : RH B3 T3 ws [] G ids dir reg seen π (fset w 6 w3) (fset dev 6 (dv_renew (id, K0, K1, on, lnu, se, me) dr p)) sto := e6 ▸ hH3
    have hf3 : fr (fun y => ¬ F y) B B3 := fr_trans (fr_trans (fr_mono (fun y q => nF_lo hC (by omega)) hf1) (fr_mono (fun y q => nF_lo hC (by omega)) hz2.1)) (fr_mono (fun y q => q.elim (nF_tcs hC2) (fun q => nF_lo hC (by omega))) hz3.1)
    show bm_G _ _ _ 33 _ [] B3 _
    refine g_ald (pc' := 34) cd_Ho_publish rfl (Or.inr ⟨_, rfl, rfl, rfl⟩) l0 rfl rfl ?_
    refine g_ild (pc' := 35) cd_Ho_publish rfl (Or.inr ⟨_, rfl, rfl, rfl⟩) l1 rfl ?_
    refine g_calli (pc' := 38) cd_Ho_publish rfl rfl rfl rfl rfl (tm_invV rfl rfl cd_Ho_finish rfl (Nat.le_of_ble_eq_true rfl) (by decide) hH3.1.1.1 hH3.1.1.2) (t_finish hC3 hH3 hp hst (by rw [fset_same]; exact hen) (fun B4 ho hC4 hH4 hz4 => ?_) (fun B4 ho hC4 hH4 hz4 => ?_))
    · skip
      rw [fset_same] at ho hH4
      show bm_G _ _ _ 38 _ [.int 0] B4 _
      refine g_if1 (t := 44) (pc' := 41) cd_Ho_publish rfl rfl rfl (fun c38 => ?_) (fun c38 => ?_)
      · exact absurd (show ¬ (0 : Int32) = 0 from c38) (by decide)
      · have c38 : (0 : Int32) = 0 := Classical.not_not.mp c38
        refine g_k2 (v := (-4)) (pc' := 43) cd_Ho_publish rfl (by decide) rfl ?_
        exact g_reti cd_Ho_publish rfl ⟨_, rfl, (k0 B4 T3 _ ca1 rm1 kc kl rk _ hp3 (by omega) ho hC4 hH4 (fr_trans hf3 (fr_mono (fun y q => nF_lo hC (by omega)) hz4.1)))⟩
    · skip
      rw [fset_same] at ho hH4
      rw [fset_same]
      have hV4 := hH4.2.2.2.2.1
      have eD4 : sw6 (fset dev 6 (dv_renew (id, K0, K1, on, lnu, se, me) dr p)) p p = (dv_renew (id, K0, K1, on, lnu, se, me) dr p) := by unfold sw6; rw [fset_ne (by omega), fset_same, fset_same]
      show bm_G _ _ _ 38 _ [.int (bz (decide ((st_commit p0 P c (dv_en (dv_renew (id, K0, K1, on, lnu, se, me) dr p))).1 = 2)))] B4 _
      refine g_if1 (t := 44) (pc' := 41) cd_Ho_publish rfl rfl rfl (fun c38 => ?_) (fun c38 => ?_)
      · have c38 : (decide ((st_commit p0 P c (dv_en (dv_renew (id, K0, K1, on, lnu, se, me) dr p))).1 = 2)) = true := bz_t c38
        refine g_ald (pc' := 45) cd_Ho_publish rfl (Or.inr ⟨_, rfl, rfl, rfl⟩) l0 rfl rfl ?_
        refine g_ild (pc' := 46) cd_Ho_publish rfl (Or.inr ⟨_, rfl, rfl, rfl⟩) l1 rfl ?_
        refine g_callv (pc' := 49) cd_Ho_publish rfl rfl rfl rfl rfl (tm_invV rfl rfl cd_Ho_announceKeys rfl (Nat.le_of_ble_eq_true rfl) (by decide) hH4.1.1.1 hH4.1.1.2) (t_announceKeys hC4 hH4 hp eD4 rfl (on_fill_kd hk) (by omega) (fun B5 T5 kc5 kl5 rk5 hp5 hl5 hC5 hH5 hf5 => ?_))
        have hV5 := hH5.2.2.2.2.1
        have hD5 := hV5.2.2.2.2 p (by omega)
        rw [eD4] at hD5
        show bm_G _ _ _ 49 _ [] B5 _
        refine g_ald (pc' := 50) cd_Ho_publish rfl (Or.inr ⟨_, rfl, rfl, rfl⟩) l0 rfl rfl ?_
        refine g_fR (c := 11) (k := 4) (x := 19) (pc' := 53) cd_Ho_publish rfl rfl rfl rfl rfl (by decide) hH5.1.1.1 hH5.1.1.2 hH5.1.2.1.2.2.2.2.1 ?_
        refine g_ild (pc' := 54) cd_Ho_publish rfl (Or.inr ⟨_, rfl, rfl, rfl⟩) l1 rfl ?_
        refine g_aR (t := 2) (x := (rb (sw6 π p p))) (pc' := 55) cd_Ho_publish rfl rfl hH5.1.2.2.1.1 hH5.1.2.2.1.2.1 (by decide) rfl rfl (by rw [show bm_AL B5 19 = 6 from hH5.1.2.2.1.2.2]; exact vp_in_nI (by omega) (by decide)) (by rw [nI_clamp (by omega)]; exact hV5.1 p hp) ?_
        refine g_fR (c := 0) (k := 0) (x := (rb (sw6 π p p) + 1)) (pc' := 58) cd_Ho_publish rfl rfl rfl rfl rfl (by decide) hD5.1.1.1 hD5.1.1.2 hD5.1.2.1.1 ?_
        refine g_k1 (v := 0) (pc' := 59) cd_Ho_publish rfl (by decide) rfl ?_
        refine g_aR (t := 4) (x := (pA (rb (sw6 π p p)) (sw6 (fset w 6 w3) p p).1 0)) (pc' := 60) cd_Ho_publish rfl rfl hD5.1.2.2.1.1 hD5.1.2.2.1.2.1 (by decide) rfl rfl (by rw [show bm_AL B5 (rb (sw6 π p p) + 1) = 2 from hD5.1.2.2.1.2.2]; exact vp_in_nI (n := 0) (by decide) (by decide)) hD5.2.2.1.1.1 ?_
        refine g_fI (c := 6) (k := 3) (x := lnu + 1) (pc' := 63) cd_Ho_publish rfl rfl rfl rfl rfl (by decide) hD5.2.2.1.2.1.1.1.1 hD5.2.2.1.2.1.1.1.2 hD5.2.2.1.2.1.2.1.2.1 ?_
        exact g_reti cd_Ho_publish rfl ⟨_, rfl, (k2 B5 T5 _ ca1 rm1 kc5 kl5 rk5 _ (hp3.trans hp5) (by omega) (of_decide_eq_true c38) hC5 hH5 (fr_trans (fr_trans hf3 (fr_mono (fun y q => nF_lo hC (by omega)) hz4.1)) (fr_mono (fun y q => q.elim (nF_xc hC) (fun q => nF_lo hC (by omega))) hf5)))⟩
      · have c38 : (decide ((st_commit p0 P c (dv_en (dv_renew (id, K0, K1, on, lnu, se, me) dr p))).1 = 2)) = false := bz_f (Classical.not_not.mp c38)
        refine g_k2 (v := (-4)) (pc' := 43) cd_Ho_publish rfl (by decide) rfl ?_
        have ho1 : (st_commit p0 P c (dv_en (dv_renew (id, K0, K1, on, lnu, se, me) dr p))).1 = 1 := by have := st_commit_le (p := p0) (P := P) (c := c) (W := dv_en (dv_renew (id, K0, K1, on, lnu, se, me) dr p)); have q2 := of_decide_eq_false c38; omega
        exact g_reti cd_Ho_publish rfl ⟨_, rfl, (k1 B4 T3 _ ca1 rm1 kc kl rk _ hp3 (by omega) ho1 hC4 hH4 (fr_trans hf3 (fr_mono (fun y q => nF_lo hC (by omega)) hz4.1)))⟩
  · exact absurd (show ¬ (0 : Int32) = 0 from c11) (by decide)
