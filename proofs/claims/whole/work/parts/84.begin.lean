/-! begin, list -/
set_option maxRecDepth 100000 in
theorem t_begin {sc : tm_X} {d : Nat} {B : bm_H} {F : Nat → Prop} {N S M ln : Nat} {T : List Tm} {dr : Nat} {K : Tm → Prop} {ca rm kc kl rk : Nat} {ws : List (Tm × Int32)} {wt : List Tm} {G : LG} {ids dir reg : Nat → Tm} {seen : List Tm} {π : Nat → Nat} {w : Nat → SW} {dev : Nat → DV} {sto : Nat → ST} {id : Tm} {K0 K1 : PK} {on : List (Tm × Int32)} {lnu : Int32} {se : Nat → List SS} {me : Nat → MM} {s p : Nat} {p0 : Bool} {P : EN2} {c : Option Nat} {Q : Int32 → bm_H → Prop} (hC : CK B F N S M ln T dr K ca rm kc kl rk) (hH : RH B T ws wt G ids dir reg seen π w dev sto) (hdr : dr ≤ 2960) (hws : ws.length ≤ 692) (hTl : T.length ≤ 30000) (hs : s < 6) (hp : p < 6) (hsp : s ≠ p) (eD : dev s = (id, K0, K1, on, lnu, se, me)) (hst : sto s = (p0, P, [], c, false)) (kI : kd id = 1) (kJ : kd (ids p) = 1) (hen : an_pre dir ids p ≠ tz → (dv_en (id, K0, K1, on, lnu, fset se p ((op_ses id (Tsec (nI dr) (nI s) 0) (Tsec (nI (dr + 1)) (nI s) 2) (ids p) (an_pre dir ids p) (an_once dir p 4 (p * 5 + 1)).1) :: (se p).take 1), me)).length ≤ 536) (kN : ∀ B' M' ca' rm', an_pre dir ids p = tz → CK B' F N S M' ln T dr K ca' rm' kc kl rk → RH B' T ws [] G ids dir reg seen π w (fset dev 6 (dev s)) sto → fr (fun y => ¬ F y) B B' → Q (-5) B') (k0 : ∀ B' T' M' ca' rm' w', T <+: T' → T'.length ≤ T.length + 14 → an_pre dir ids p ≠ tz → (st_commit p0 P c (dv_en (id, K0, K1, on, lnu, fset se p ((op_ses id (Tsec (nI dr) (nI s) 0) (Tsec (nI (dr + 1)) (nI s) 2) (ids p) (an_pre dir ids p) (an_once dir p 4 (p * 5 + 1)).1) :: (se p).take 1), me))).1 = 0 → CK B' F N S M' ln T' (dr + 2) K ca' rm' kc kl rk → RH B' T' ws [] G ids (an_once dir p 4 (p * 5 + 1)).2 reg seen π w' (fset (fset dev 6 (dev s)) 6 (id, K0, K1, on, lnu, fset se p ((op_ses id (Tsec (nI dr) (nI s) 0) (Tsec (nI (dr + 1)) (nI s) 2) (ids p) (an_pre dir ids p) (an_once dir p 4 (p * 5 + 1)).1) :: (se p).take 1), me)) (fset sto s (st_commit p0 P c (dv_en (id, K0, K1, on, lnu, fset se p ((op_ses id (Tsec (nI dr) (nI s) 0) (Tsec (nI (dr + 1)) (nI s) 2) (ids p) (an_pre dir ids p) (an_once dir p 4 (p * 5 + 1)).1) :: (se p).take 1), me))).2) → fr (fun y => ¬ F y) B B' → Q (-4) B') (k1 : ∀ B' T' M' ca' rm' w', T <+: T' → T'.length ≤ T.length + 14 → an_pre dir ids p ≠ tz → (st_commit p0 P c (dv_en (id, K0, K1, on, lnu, fset se p ((op_ses id (Tsec (nI dr) (nI s) 0) (Tsec (nI (dr + 1)) (nI s) 2) (ids p) (an_pre dir ids p) (an_once dir p 4 (p * 5 + 1)).1) :: (se p).take 1), me))).1 = 1 → CK B' F N S M' ln T' (dr + 2) K ca' rm' kc kl rk → RH B' T' ws [] G ids (an_once dir p 4 (p * 5 + 1)).2 reg seen (sw6 π s) w' (sw6 (fset (fset dev 6 (dev s)) 6 (id, K0, K1, on, lnu, fset se p ((op_ses id (Tsec (nI dr) (nI s) 0) (Tsec (nI (dr + 1)) (nI s) 2) (ids p) (an_pre dir ids p) (an_once dir p 4 (p * 5 + 1)).1) :: (se p).take 1), me)) s) (fset sto s (st_commit p0 P c (dv_en (id, K0, K1, on, lnu, fset se p ((op_ses id (Tsec (nI dr) (nI s) 0) (Tsec (nI (dr + 1)) (nI s) 2) (ids p) (an_pre dir ids p) (an_once dir p 4 (p * 5 + 1)).1) :: (se p).take 1), me))).2) → fr (fun y => ¬ F y) B B' → Q (-4) B') (k2 : ∀ B' T' M' ca' rm' w', T <+: T' → T'.length ≤ T.length + 14 → an_pre dir ids p ≠ tz → (st_commit p0 P c (dv_en (id, K0, K1, on, lnu, fset se p ((op_ses id (Tsec (nI dr) (nI s) 0) (Tsec (nI (dr + 1)) (nI s) 2) (ids p) (an_pre dir ids p) (an_once dir p 4 (p * 5 + 1)).1) :: (se p).take 1), me))).1 = 2 → CK B' F N S M' ln T' (dr + 2) K ca' rm' kc kl rk → RH B' T' ws [] G ids (an_once dir p 4 (p * 5 + 1)).2 reg seen (sw6 π s) w' (sw6 (fset (fset dev 6 (dev s)) 6 (id, K0, K1, on, lnu, fset se p ((op_ses id (Tsec (nI dr) (nI s) 0) (Tsec (nI (dr + 1)) (nI s) 2) (ids p) (an_pre dir ids p) (an_once dir p 4 (p * 5 + 1)).1) :: (se p).take 1), me)) s) (fset sto s (st_commit p0 P c (dv_en (id, K0, K1, on, lnu, fset se p ((op_ses id (Tsec (nI dr) (nI s) 0) (Tsec (nI (dr + 1)) (nI s) 2) (ids p) (an_pre dir ids p) (an_once dir p 4 (p * 5 + 1)).1) :: (se p).take 1), me))).2) → fr (fun y => ¬ F y) B B' → Q (nI ((op_ses id (Tsec (nI dr) (nI s) 0) (Tsec (nI (dr + 1)) (nI s) 2) (ids p) (an_pre dir ids p) (an_once dir p 4 (p * 5 + 1)).1) :: (se p).take 1).length) B') : bm_Gi sc (d + 6) 64 [.ref 0, .int (nI s), .int (nI p)] B Q := by
  show bm_G sc (d + 6) 64 0 [(0, .ref 0), (1, .int (nI s)), (2, .int (nI p))] [] B _
  generalize elv : ([(0, .ref 0), (1, .int (nI s)), (2, .int (nI p))] : tm_L) = lv
  have l0 : lv.lookup 0 = some (.ref 0) := by rw [← elv]; rfl
  have l1 : lv.lookup 1 = some (.int (nI s)) := by rw [← elv]; rfl
  have l2 : lv.lookup 2 = some (.int (nI p)) := by rw [← elv]; rfl
  clear elv
  refine g_ald (pc' := 1) cd_Ho_begin rfl (Or.inr ⟨_, rfl, rfl, rfl⟩) l0 rfl rfl ?_
  refine g_ild (pc' := 2) cd_Ho_begin rfl (Or.inr ⟨_, rfl, rfl, rfl⟩) l1 rfl ?_
  refine g_ild (pc' := 3) cd_Ho_begin rfl (Or.inr ⟨_, rfl, rfl, rfl⟩) l2 rfl ?_
  refine g_calli (pc' := 6) cd_Ho_begin rfl rfl rfl rfl rfl (tm_invS rfl rfl cd_Ho_areTwo rfl (Nat.le_of_ble_eq_true rfl)) (t_areTwo ?_)
  rw [show inR (nI s) 6 = true from inR_nI hs (by decide), show inR (nI p) 6 = true from inR_nI hp (by decide), decide_eq_false (fun q => hsp ((nI_eq (by omega) (by omega)).mp q))]
  show bm_G _ _ _ _ _ (.int 1 :: _) _ _
  show bm_G _ _ _ 6 _ [.int 1, .ref 0] B _
  refine g_ild (pc' := 7) cd_Ho_begin rfl (Or.inr ⟨_, rfl, rfl, rfl⟩) l1 rfl ?_
  refine g_calli (pc' := 10) cd_Ho_begin rfl rfl rfl rfl rfl (tm_invV rfl rfl cd_Ho_refusal rfl (Nat.le_of_ble_eq_true rfl) (by decide) hH.1.1.1 hH.1.1.2) (t_refusal hC hH hdr hws hTl hs (fun _ _ _ hdn _ _ _ => by rw [hst] at hdn; cases hdn) (fun B1 ca1 rm1 hdn hC1 hH1 hf1 => ?_))
  show bm_G _ _ _ 10 _ [.int 0] B1 _
  refine g_ist (pc' := 11) cd_Ho_begin rfl (Or.inr ⟨_, rfl, rfl, rfl⟩) (by decide) rfl (fun lv el => ?_)
  have l0 := tm_lk el l0 rfl (by decide)
  have l1 := tm_lk el l1 rfl (by decide)
  have l2 := tm_lk el l2 rfl (by decide)
  have l3 : lv.lookup 3 = some (.int 0) := tm_lks el
  clear el
  refine g_ild (pc' := 12) cd_Ho_begin rfl (Or.inr ⟨_, rfl, rfl, rfl⟩) l3 rfl ?_
  refine g_if1 (t := 17) (pc' := 15) cd_Ho_begin rfl rfl rfl (fun c12 => ?_) (fun c12 => ?_)
  · have c12 : (0 : Int32) = 0 := c12
    refine g_ald (pc' := 18) cd_Ho_begin rfl (Or.inr ⟨_, rfl, rfl, rfl⟩) l0 rfl rfl ?_
    refine g_ild (pc' := 19) cd_Ho_begin rfl (Or.inr ⟨_, rfl, rfl, rfl⟩) l1 rfl ?_
    refine g_callv (pc' := 22) cd_Ho_begin rfl rfl rfl rfl rfl (tm_invV rfl rfl cd_Ho_startWork rfl (Nat.le_of_ble_eq_true rfl) (by decide) hH1.1.1.1 hH1.1.1.2) (t_startWork hC1 hH1 hs (fun B2 hC2 hH2 hz2 => ?_))
    have eD2 : fset dev 6 (dev s) 6 = (id, K0, K1, on, lnu, se, me) := (fset_same _ _ _).trans eD
    have hrm2 := hC2.2.2.2.2.1.2
    have hf2 : fr (fun y => ¬ F y) B B2 := fr_trans (fr_mono (fun y q => nF_lo hC (by omega)) hf1) (fr_mono (fun y q => nF_lo hC (by omega)) hz2.1)
    show bm_G _ _ _ 22 _ [] B2 _
    refine g_ald (pc' := 23) cd_Ho_begin rfl (Or.inr ⟨_, rfl, rfl, rfl⟩) l0 rfl rfl ?_
    refine g_ild (pc' := 24) cd_Ho_begin rfl (Or.inr ⟨_, rfl, rfl, rfl⟩) l1 rfl ?_
    refine g_ild (pc' := 25) cd_Ho_begin rfl (Or.inr ⟨_, rfl, rfl, rfl⟩) l2 rfl ?_
    refine g_callr (pc' := 28) cd_Ho_begin rfl rfl rfl rfl rfl (tm_invV rfl rfl cd_Ho_openSession rfl (Nat.le_of_ble_eq_true rfl) (by decide) hH2.1.1.1 hH2.1.1.2) (t_open hC2 hH2 hp eD2 kI kJ (by omega) (by omega) (fun q => ?_) (fun B3 T3 w3 hne hp3 hl3 hC3 hH3 hz3 => ?_))
    · skip
      show bm_G _ _ _ 28 _ [.null] B2 _
      refine g_nnF (t := 34) (pc' := 31) cd_Ho_begin rfl rfl rfl ?_
      refine g_k2 (v := (-5)) (pc' := 33) cd_Ho_begin rfl (by decide) rfl ?_
      exact g_reti cd_Ho_begin rfl ⟨_, rfl, (kN B2 _ ca1 rm1 q hC2 hH2 hf2)⟩
    · skip
      have hH3 : RH B3 T3 ws [] G ids (an_once dir p 4 (p * 5 + 1)).2 reg seen π (fset w 6 w3) (fset (fset dev 6 (dev s)) 6 (id, K0, K1, on, lnu, fset se p ((op_ses id (Tsec (nI dr) (nI s) 0) (Tsec (nI (dr + 1)) (nI s) 2) (ids p) (an_pre dir ids p) (an_once dir p 4 (p * 5 + 1)).1) :: (se p).take 1), me)) sto := hH3
      have hf3 : fr (fun y => ¬ F y) B B3 := fr_trans hf2 (fr_mono (fun y q => q.elim (fun q => q.elim (nF_tcs hC2) (fun q => nF_lo hC (by have := rb_in (hH2.2.2.2.2.1.2.2.1 6 (by decide)); omega))) (fun q => nF_lo hC (by omega))) hz3.1)
      show bm_G _ _ _ 28 _ [.ref ((sA (rb (π 6)) w3.2.1 p 0))] B3 _
      refine g_nnT (t := 34) cd_Ho_begin rfl rfl ?_
      refine g_ald (pc' := 35) cd_Ho_begin rfl (Or.inr ⟨_, rfl, rfl, rfl⟩) l0 rfl rfl ?_
      refine g_ild (pc' := 36) cd_Ho_begin rfl (Or.inr ⟨_, rfl, rfl, rfl⟩) l1 rfl ?_
      refine g_calli (pc' := 39) cd_Ho_begin rfl rfl rfl rfl rfl (tm_invV rfl rfl cd_Ho_finish rfl (Nat.le_of_ble_eq_true rfl) (by decide) hH3.1.1.1 hH3.1.1.2) (t_finish hC3 hH3 hs hst (by rw [fset_same]; exact hen hne) (fun B4 ho hC4 hH4 hz4 => ?_) (fun B4 ho hC4 hH4 hz4 => ?_))
      · skip
        rw [fset_same] at ho hH4
        show bm_G _ _ _ 39 _ [.int 0] B4 _
        refine g_if1 (t := 56) (pc' := 42) cd_Ho_begin rfl rfl rfl (fun c39 => ?_) (fun c39 => ?_)
        · have c39 : (0 : Int32) = 0 := c39
          refine g_k2 (v := (-4)) (pc' := 58) cd_Ho_begin rfl (by decide) rfl ?_
          exact g_reti cd_Ho_begin rfl ⟨_, rfl, (k0 B4 T3 _ ca1 rm1 _ hp3 (by omega) hne ho hC4 hH4 (fr_trans hf3 (fr_mono (fun y q => nF_lo hC (by omega)) hz4.1)))⟩
        · exact absurd (show ¬ (0 : Int32) = 0 from c39) (by decide)
      · skip
        rw [fset_same] at ho hH4
        rw [fset_same]
        have eD4 : sw6 (fset (fset dev 6 (dev s)) 6 (id, K0, K1, on, lnu, fset se p ((op_ses id (Tsec (nI dr) (nI s) 0) (Tsec (nI (dr + 1)) (nI s) 2) (ids p) (an_pre dir ids p) (an_once dir p 4 (p * 5 + 1)).1) :: (se p).take 1), me)) s s = (id, K0, K1, on, lnu, fset se p ((op_ses id (Tsec (nI dr) (nI s) 0) (Tsec (nI (dr + 1)) (nI s) 2) (ids p) (an_pre dir ids p) (an_once dir p 4 (p * 5 + 1)).1) :: (se p).take 1), me) := by unfold sw6; rw [fset_ne (by omega), fset_same, fset_same]
        have hV4 := hH4.2.2.2.2.1
        have hD4 := hV4.2.2.2.2 s (by omega)
        rw [eD4] at hD4
        show bm_G _ _ _ 39 _ [.int (bz (decide ((st_commit p0 P c (dv_en (id, K0, K1, on, lnu, fset se p ((op_ses id (Tsec (nI dr) (nI s) 0) (Tsec (nI (dr + 1)) (nI s) 2) (ids p) (an_pre dir ids p) (an_once dir p 4 (p * 5 + 1)).1) :: (se p).take 1), me))).1 = 2)))] B4 _
        refine g_if1 (t := 56) (pc' := 42) cd_Ho_begin rfl rfl rfl (fun c39 => ?_) (fun c39 => ?_)
        · have c39 : (decide ((st_commit p0 P c (dv_en (id, K0, K1, on, lnu, fset se p ((op_ses id (Tsec (nI dr) (nI s) 0) (Tsec (nI (dr + 1)) (nI s) 2) (ids p) (an_pre dir ids p) (an_once dir p 4 (p * 5 + 1)).1) :: (se p).take 1), me))).1 = 2)) = false := bz_f c39
          refine g_k2 (v := (-4)) (pc' := 58) cd_Ho_begin rfl (by decide) rfl ?_
          have ho1 : (st_commit p0 P c (dv_en (id, K0, K1, on, lnu, fset se p ((op_ses id (Tsec (nI dr) (nI s) 0) (Tsec (nI (dr + 1)) (nI s) 2) (ids p) (an_pre dir ids p) (an_once dir p 4 (p * 5 + 1)).1) :: (se p).take 1), me))).1 = 1 := by have := st_commit_le (p := p0) (P := P) (c := c) (W := dv_en (id, K0, K1, on, lnu, fset se p ((op_ses id (Tsec (nI dr) (nI s) 0) (Tsec (nI (dr + 1)) (nI s) 2) (ids p) (an_pre dir ids p) (an_once dir p 4 (p * 5 + 1)).1) :: (se p).take 1), me)); have q2 := of_decide_eq_false c39; omega
          exact g_reti cd_Ho_begin rfl ⟨_, rfl, (k1 B4 T3 _ ca1 rm1 _ hp3 (by omega) hne ho1 hC4 hH4 (fr_trans hf3 (fr_mono (fun y q => nF_lo hC (by omega)) hz4.1)))⟩
        · have c39 : (decide ((st_commit p0 P c (dv_en (id, K0, K1, on, lnu, fset se p ((op_ses id (Tsec (nI dr) (nI s) 0) (Tsec (nI (dr + 1)) (nI s) 2) (ids p) (an_pre dir ids p) (an_once dir p 4 (p * 5 + 1)).1) :: (se p).take 1), me))).1 = 2)) = true := bz_t c39
          refine g_ald (pc' := 43) cd_Ho_begin rfl (Or.inr ⟨_, rfl, rfl, rfl⟩) l0 rfl rfl ?_
          refine g_fR (c := 11) (k := 4) (x := 19) (pc' := 46) cd_Ho_begin rfl rfl rfl rfl rfl (by decide) hH4.1.1.1 hH4.1.1.2 hH4.1.2.1.2.2.2.2.1 ?_
          refine g_ild (pc' := 47) cd_Ho_begin rfl (Or.inr ⟨_, rfl, rfl, rfl⟩) l1 rfl ?_
          refine g_aR (t := 2) (x := (rb (sw6 π s s))) (pc' := 48) cd_Ho_begin rfl rfl hH4.1.2.2.1.1 hH4.1.2.2.1.2.1 (by decide) rfl rfl (by rw [show bm_AL B4 19 = 6 from hH4.1.2.2.1.2.2]; exact vp_in_nI (by omega) (by decide)) (by rw [nI_clamp (by omega)]; exact hV4.1 s hs) ?_
          refine g_fR (c := 0) (k := 3) (x := (rb (sw6 π s s) + 8)) (pc' := 51) cd_Ho_begin rfl rfl rfl rfl rfl (by decide) hD4.1.1.1 hD4.1.1.2 hD4.1.2.1.2.2.2.1 ?_
          refine g_ild (pc' := 52) cd_Ho_begin rfl (Or.inr ⟨_, rfl, rfl, rfl⟩) l2 rfl ?_
          refine g_aI (x := nI ((op_ses id (Tsec (nI dr) (nI s) 0) (Tsec (nI (dr + 1)) (nI s) 2) (ids p) (an_pre dir ids p) (an_once dir p 4 (p * 5 + 1)).1) :: (se p).take 1).length) (pc' := 53) cd_Ho_begin rfl rfl hD4.1.2.2.2.2.2.1.1 hD4.1.2.2.2.2.2.1.2.1 (by rw [show bm_AL B4 (rb (sw6 π s s) + 8) = 6 from hD4.1.2.2.2.2.2.1.2.2]; exact vp_in_nI (by omega) (by decide)) (by rw [nI_clamp (by omega)]; have := (hD4.2.2.2.2.1 p hp).1.1; rw [fset_same] at this; exact this) ?_
          refine g_pure (pc' := 58) (st' := [.int (nI ((op_ses id (Tsec (nI dr) (nI s) 0) (Tsec (nI (dr + 1)) (nI s) 2) (ids p) (an_pre dir ids p) (an_once dir p 4 (p * 5 + 1)).1) :: (se p).take 1).length)]) cd_Ho_begin rfl rfl (fun _ _ => rfl) ?_
          exact g_reti cd_Ho_begin rfl ⟨_, rfl, (k2 B4 T3 _ ca1 rm1 _ hp3 (by omega) hne (of_decide_eq_true c39) hC4 hH4 (fr_trans hf3 (fr_mono (fun y q => nF_lo hC (by omega)) hz4.1)))⟩
  · exact absurd (show ¬ (0 : Int32) = 0 from c12) (by decide)
theorem mem_at {B : bm_H} {F : Nat → Prop} {N S M ln : Nat} {T : List Tm} {dr : Nat} {K : Tm → Prop} {ca rm kc kl rk : Nat} {ws : List (Tm × Int32)} {wt : List Tm} {G : LG} {ids dir reg : Nat → Tm} {seen : List Tm} {π : Nat → Nat} {w : Nat → SW} {dev : Nat → DV} {sto : Nat → ST} {id : Tm} {K0 K1 : PK} {on : List (Tm × Int32)} {lnu : Int32} {se : Nat → List SS} {me : Nat → MM} {g : Nat} (hC : CK B F N S M ln T dr K ca rm kc kl rk) (hH : RH B T ws wt G ids dir reg seen π w dev sto) (hg : g < 4) (eD : dev 6 = (id, K0, K1, on, lnu, se, me)) : RMe B T (rb (π 6) + 47 + 39 * g) ((w 6).2.2 g) (me g) ∧ bm_AR B (rb (π 6) + 10) g = some (rb (π 6) + 47 + 39 * g) ∧ (∀ y, rb (π 6) + 47 + 39 * g ≤ y → y < rb (π 6) + 47 + 39 * g + 39 → ¬ tcs 1 ca 3 4 y) ∧ 25 ≤ rb (π 6) ∧ rb (π 6) + 203 ≤ 1482 := by
  have hV := hH.2.2.2.2.1
  have r6 := rb_in (hV.2.2.1 6 (by decide))
  have hW := hV.2.2.2.2 6 (by decide)
  rw [eD] at hW
  exact ⟨hW.2.2.2.2.2.2 g hg, hW.2.2.2.2.2.1 g hg, fun y a b => CK_tcs hC (by omega) (by omega), r6⟩
theorem RH_mem {B : bm_H} {F : Nat → Prop} {N S M ln : Nat} {T : List Tm} {dr : Nat} {K : Tm → Prop} {ca rm kc kl rk : Nat} {ws : List (Tm × Int32)} {wt : List Tm} {G : LG} {ids dir reg : Nat → Tm} {seen : List Tm} {π : Nat → Nat} {w : Nat → SW} {dev : Nat → DV} {sto : Nat → ST} {id : Tm} {K0 K1 : PK} {on : List (Tm × Int32)} {lnu : Int32} {se : Nat → List SS} {me : Nat → MM} {g : Nat} {M' : MM} {wg : Nat → Bool} (hC : CK B F N S M ln T dr K ca rm kc kl rk) (hH : RH B T ws wt G ids dir reg seen π w dev sto) (hg : g < 4) (eD : dev 6 = (id, K0, K1, on, lnu, se, me)) {B' : bm_H} {T' : List Tm} {dr' : Nat} {X : Nat → Prop} (hT' : TI B' 1 ca 3 4 rm dr' T') (hf : fz X B B') (hX : ∀ y, X y → tcs 1 ca 3 4 y ∨ (rb (π 6) + 47 + 39 * g ≤ y ∧ y < rb (π 6) + 47 + 39 * g + 39)) (hT : T <+: T') (hn : RMe B' T' (rb (π 6) + 47 + 39 * g) wg M') : CK B' F N S M ln T' dr' K ca rm kc kl rk ∧ RH B' T' ws wt G ids dir reg seen π (fset w 6 ((w 6).1, (w 6).2.1, fset (w 6).2.2 g wg)) (fset dev 6 (id, K0, K1, on, lnu, se, fset me g M')) sto ∧ fz (dxs 1 ca 3 4 (rb (π 6))) B B' := by
  obtain ⟨h1, h2, h3, h4, h5⟩ := mem_at hC hH hg eD
  have hW := hH.2.2.2.2.1.2.2.2.2 6 (by decide)
  rw [eD] at hW
  have hz : fz (dxs 1 ca 3 4 (rb (π 6))) B B' := fz_mono (fun y q => (hX y q).elim Or.inl (fun q => Or.inr (by omega))) hf
  have hD := RDe_mem hW hg hf.1 (fun y a b c q => by
    rcases hX y q with q | q
    · exact CK_tcs hC (by omega) (by omega) q
    · omega) hT hn
  exact ⟨CK_work hC hH hT' hz hT, RH_work hC hH hz hT hD, hz⟩
