/-! send, begin -/
set_option maxRecDepth 100000 in
theorem t_sendA {sc : tm_X} {d : Nat} {B : bm_H} {F : Nat → Prop} {N S M ln : Nat} {T : List Tm} {dr : Nat} {K : Tm → Prop} {ca rm kc kl rk : Nat} {ws : List (Tm × Int32)} {wt : List Tm} {L : List LT} {bd ll tc tl tf tg : Nat → Int32} {cf cg : Int32} {ct : Tm} {co : Bool} {li fo db : Int32} {ids dir reg : Nat → Tm} {seen : List Tm} {π : Nat → Nat} {w : Nat → SW} {dev : Nat → DV} {sto : Nat → ST} {id : Tm} {K0 K1 : PK} {on : List (Tm × Int32)} {lnu : Int32} {se : Nat → List SS} {me : Nat → MM} {s p : Nat} {p0 : Bool} {P : EN2} {c : Option Nat} {Q : Int32 → bm_H → Prop} (hC : CK B F N S M ln T dr K ca rm kc kl rk) (hH : RH B T ws wt (L, bd, ll, tc, tl, tf, tg, cf, cg, ct, co, li, fo, db) ids dir reg seen π w dev sto) (hdr : dr ≤ 2960) (hws : ws.length ≤ 692) (hTl : T.length ≤ 30000) (hs : s < 6) (hp : p < 6) (hsp : s ≠ p) (eD : dev s = (id, K0, K1, on, lnu, se, me)) (hL : L.length < 700) (hst : sto s = (p0, P, [], c, false)) {S0 : SS} {l : List SS} (hse : se p = S0 :: l) (hk1 : kd S0.2.2.2.1 = 1) (hk2 : kd (pt S0.1.1 0) = 1) (hen : (dv_en (id, K0, K1, on, lnu, fset se p ((se p).set 0 (ss_sent (ss_turn S0 (Tsec (nI dr) (nI s) 2)))), me)).length ≤ 536) (k0 : ∀ B' T' M' ca' rm' kc' kl' rk' w', T <+: T' → T'.length ≤ T.length + 26 → (st_commit p0 P c (dv_en (id, K0, K1, on, lnu, fset se p ((se p).set 0 (ss_sent (ss_turn S0 (Tsec (nI dr) (nI s) 2)))), me))).1 = 0 → CK B' F N S M' ln T' ((dr_turn S0 dr) + 1) K ca' rm' kc' kl' rk' → RH B' T' ws [(ss_wire (ss_turn S0 (Tsec (nI dr) (nI s) 2)) (nI s) (nI p) (Trw 4 0 0 0 0 (Tsec (nI (dr_turn S0 dr)) (nI s) 0) tz tz tz))] (L, bd, ll, tc, tl, tf, tg, cf, cg, ct, co, li, fo, db) ids dir reg seen π w' (fset (fset dev 6 (dev s)) 6 (id, K0, K1, on, lnu, fset se p ((se p).set 0 (ss_sent (ss_turn S0 (Tsec (nI dr) (nI s) 2)))), me)) (fset sto s (st_commit p0 P c (dv_en (id, K0, K1, on, lnu, fset se p ((se p).set 0 (ss_sent (ss_turn S0 (Tsec (nI dr) (nI s) 2)))), me))).2) → fr (fun y => ¬ F y) B B' → Q (-4) B') (k1 : ∀ B' T' M' ca' rm' kc' kl' rk' w', T <+: T' → T'.length ≤ T.length + 26 → (st_commit p0 P c (dv_en (id, K0, K1, on, lnu, fset se p ((se p).set 0 (ss_sent (ss_turn S0 (Tsec (nI dr) (nI s) 2)))), me))).1 = 1 → CK B' F N S M' ln T' ((dr_turn S0 dr) + 1) K ca' rm' kc' kl' rk' → RH B' T' ws [(ss_wire (ss_turn S0 (Tsec (nI dr) (nI s) 2)) (nI s) (nI p) (Trw 4 0 0 0 0 (Tsec (nI (dr_turn S0 dr)) (nI s) 0) tz tz tz))] (L, bd, ll, tc, tl, tf, tg, cf, cg, ct, co, li, fo, db) ids dir reg seen (sw6 π s) w' (sw6 (fset (fset dev 6 (dev s)) 6 (id, K0, K1, on, lnu, fset se p ((se p).set 0 (ss_sent (ss_turn S0 (Tsec (nI dr) (nI s) 2)))), me)) s) (fset sto s (st_commit p0 P c (dv_en (id, K0, K1, on, lnu, fset se p ((se p).set 0 (ss_sent (ss_turn S0 (Tsec (nI dr) (nI s) 2)))), me))).2) → fr (fun y => ¬ F y) B B' → Q (-4) B') (k2 : ∀ B' T' M' ca' rm' kc' kl' rk' w', T <+: T' → T'.length ≤ T.length + 26 → (st_commit p0 P c (dv_en (id, K0, K1, on, lnu, fset se p ((se p).set 0 (ss_sent (ss_turn S0 (Tsec (nI dr) (nI s) 2)))), me))).1 = 2 → CK B' F N S M' T'.length T' ((dr_turn S0 dr) + 1) (fun y => K y ∨ y = (ss_wire (ss_turn S0 (Tsec (nI dr) (nI s) 2)) (nI s) (nI p) (Trw 4 0 0 0 0 (Tsec (nI (dr_turn S0 dr)) (nI s) 0) tz tz tz))) ca' rm' kc' kl' rk' → RH B' T' (ws ++ [((ss_wire (ss_turn S0 (Tsec (nI dr) (nI s) 2)) (nI s) (nI p) (Trw 4 0 0 0 0 (Tsec (nI (dr_turn S0 dr)) (nI s) 0) tz tz tz)), nI L.length)]) [] (L ++ [lt_sent (Tsec (nI (dr_turn S0 dr)) (nI s) 0) (nI s) (nI p) (ss_sent (ss_turn S0 (Tsec (nI dr) (nI s) 2)))], upd bd (dr_turn S0 dr) (nI L.length), ll, tc, tl, tf, tg, cf, cg, ct, co, li, fo, db) ids dir reg seen (sw6 π s) w' (sw6 (fset (fset dev 6 (dev s)) 6 (id, K0, K1, on, lnu, fset se p ((se p).set 0 (ss_sent (ss_turn S0 (Tsec (nI dr) (nI s) 2)))), me)) s) (fset sto s (st_commit p0 P c (dv_en (id, K0, K1, on, lnu, fset se p ((se p).set 0 (ss_sent (ss_turn S0 (Tsec (nI dr) (nI s) 2)))), me))).2) → fr (fun y => ¬ F y) B B' → Q (nI ws.length) B') : bm_Gi sc (d + 6) 84 [.ref 0, .int (nI s), .int (nI p)] B Q := by
  show bm_G sc (d + 6) 84 0 [(0, .ref 0), (1, .int (nI s)), (2, .int (nI p))] [] B _
  generalize elv : ([(0, .ref 0), (1, .int (nI s)), (2, .int (nI p))] : tm_L) = lv
  have l0 : lv.lookup 0 = some (.ref 0) := by rw [← elv]; rfl
  have l1 : lv.lookup 1 = some (.int (nI s)) := by rw [← elv]; rfl
  have l2 : lv.lookup 2 = some (.int (nI p)) := by rw [← elv]; rfl
  clear elv
  refine g_ald (pc' := 1) cd_Ho_send rfl (Or.inr ⟨_, rfl, rfl, rfl⟩) l0 rfl rfl ?_
  refine g_ild (pc' := 2) cd_Ho_send rfl (Or.inr ⟨_, rfl, rfl, rfl⟩) l1 rfl ?_
  refine g_ild (pc' := 3) cd_Ho_send rfl (Or.inr ⟨_, rfl, rfl, rfl⟩) l2 rfl ?_
  refine g_calli (pc' := 6) cd_Ho_send rfl rfl rfl rfl rfl (tm_invS rfl rfl cd_Ho_areTwo rfl (Nat.le_of_ble_eq_true rfl)) (t_areTwo ?_)
  rw [show inR (nI s) 6 = true from inR_nI hs (by decide), show inR (nI p) 6 = true from inR_nI hp (by decide), decide_eq_false (fun q => hsp ((nI_eq (by omega) (by omega)).mp q))]
  show bm_G _ _ _ _ _ (.int 1 :: _) _ _
  show bm_G _ _ _ 6 _ [.int 1, .ref 0] B _
  refine g_ild (pc' := 7) cd_Ho_send rfl (Or.inr ⟨_, rfl, rfl, rfl⟩) l1 rfl ?_
  refine g_calli (pc' := 10) cd_Ho_send rfl rfl rfl rfl rfl (tm_invV rfl rfl cd_Ho_refusal rfl (Nat.le_of_ble_eq_true rfl) (by decide) hH.1.1.1 hH.1.1.2) (t_refusal hC hH hdr hws hTl hs (fun _ _ _ hdn _ _ _ => by rw [hst] at hdn; cases hdn) (fun B1 ca1 rm1 hdn hC1 hH1 hf1 => ?_))
  show bm_G _ _ _ 10 _ [.int 0] B1 _
  refine g_ist (pc' := 11) cd_Ho_send rfl (Or.inr ⟨_, rfl, rfl, rfl⟩) (by decide) rfl (fun lv el => ?_)
  have l0 := tm_lk el l0 rfl (by decide)
  have l1 := tm_lk el l1 rfl (by decide)
  have l2 := tm_lk el l2 rfl (by decide)
  have l3 : lv.lookup 3 = some (.int 0) := tm_lks el
  clear el
  refine g_ild (pc' := 12) cd_Ho_send rfl (Or.inr ⟨_, rfl, rfl, rfl⟩) l3 rfl ?_
  refine g_if1 (t := 17) (pc' := 15) cd_Ho_send rfl rfl rfl (fun c12 => ?_) (fun c12 => ?_)
  · have c12 : (0 : Int32) = 0 := c12
    refine g_ald (pc' := 18) cd_Ho_send rfl (Or.inr ⟨_, rfl, rfl, rfl⟩) l0 rfl rfl ?_
    refine g_ild (pc' := 19) cd_Ho_send rfl (Or.inr ⟨_, rfl, rfl, rfl⟩) l1 rfl ?_
    refine g_callv (pc' := 22) cd_Ho_send rfl rfl rfl rfl rfl (tm_invV rfl rfl cd_Ho_startWork rfl (Nat.le_of_ble_eq_true rfl) (by decide) hH1.1.1.1 hH1.1.1.2) (t_startWork hC1 hH1 hs (fun B2 hC2 hH2 hz2 => ?_))
    have eD2 : fset dev 6 (dev s) 6 = (id, K0, K1, on, lnu, se, me) := (fset_same _ _ _).trans eD
    have hW2 := hH2.2.2.2.2.1.2.2.2.2 6 (by decide)
    rw [eD2] at hW2
    have hrm2 := hC2.2.2.2.2.1.2
    have hf2 : fr (fun y => ¬ F y) B B2 := fr_trans (fr_mono (fun y q => nF_lo hC (by omega)) hf1) (fr_mono (fun y q => nF_lo hC (by omega)) hz2.1)
    show bm_G _ _ _ 22 _ [] B2 _
    refine g_ald (pc' := 23) cd_Ho_send rfl (Or.inr ⟨_, rfl, rfl, rfl⟩) l0 rfl rfl ?_
    refine g_fR (c := 11) (k := 11) (x := (rb (π 6))) (pc' := 26) cd_Ho_send rfl rfl rfl rfl rfl (by decide) hH2.1.1.1 hH2.1.1.2 hH2.2.2.2.2.1.2.1 ?_
    refine g_ild (pc' := 27) cd_Ho_send rfl (Or.inr ⟨_, rfl, rfl, rfl⟩) l2 rfl ?_
    refine g_callr (pc' := 30) cd_Ho_send rfl rfl rfl rfl rfl (tm_invV rfl rfl cd_De_firstSession rfl (Nat.le_of_ble_eq_true rfl) (by decide) (RDe_K (hH2.2.2.2.2.1.2.2.2.2 6 (by decide))).1 (RDe_K (hH2.2.2.2.2.1.2.2.2.2 6 (by decide))).2) (t_firstSession hW2 hp (fun q => by rw [hse] at q; cases q) (fun _ _ _ => ?_))
    show bm_G _ _ _ 30 _ [.ref ((sA (rb (π 6)) (w 6).2.1 p 0))] B2 _
    refine g_ast (pc' := 32) cd_Ho_send rfl (Or.inl ⟨rfl, rfl⟩) rfl (by decide) rfl (fun lv el => ?_)
    have l0 := tm_lk el l0 rfl (by decide)
    have l1 := tm_lk el l1 rfl (by decide)
    have l2 := tm_lk el l2 rfl (by decide)
    have l3 := tm_lk el l3 rfl (by decide)
    have l4 : lv.lookup 4 = some (.ref ((sA (rb (π 6)) (w 6).2.1 p 0))) := tm_lks el
    clear el
    refine g_ald (pc' := 34) cd_Ho_send rfl (Or.inl ⟨rfl, rfl⟩) l4 rfl rfl ?_
    refine g_nnT (t := 45) cd_Ho_send rfl rfl ?_
    refine g_ald (pc' := 47) cd_Ho_send rfl (Or.inl ⟨rfl, rfl⟩) l4 rfl rfl ?_
    refine g_nnT (t := 53) cd_Ho_send rfl rfl ?_
    exact l_send hC2 hH2 hs hp eD2 (by rw [hse]; rfl) (by omega) (by omega) hws rfl hL hk1 hk2 hst hen (fun B' T' kc' kl' rk' w' q1 q2 q3 q4 q5 q6 => k0 B' T' _ ca1 rm1 kc' kl' rk' w' q1 (by omega) q3 q4 q5 (fr_trans hf2 q6)) (fun B' T' kc' kl' rk' w' q1 q2 q3 q4 q5 q6 => k1 B' T' _ ca1 rm1 kc' kl' rk' w' q1 (by omega) q3 q4 q5 (fr_trans hf2 q6)) (fun B' T' kc' kl' rk' w' q1 q2 q3 q4 q5 q6 => k2 B' T' _ ca1 rm1 kc' kl' rk' w' q1 (by omega) q3 q4 q5 (fr_trans hf2 q6)) lv l0 l1 l2 l4
  · exact absurd (show ¬ (0 : Int32) = 0 from c12) (by decide)
theorem an_pre_tv {B : bm_H} {F : Nat → Prop} {N S M ln : Nat} {T : List Tm} {dr : Nat} {K : Tm → Prop} {ca rm kc kl rk : Nat} {ws : List (Tm × Int32)} {wt : List Tm} {G : LG} {ids dir reg : Nat → Tm} {seen : List Tm} {π : Nat → Nat} {w : Nat → SW} {dev : Nat → DV} {sto : Nat → ST} {p : Nat} (hC : CK B F N S M ln T dr K ca rm kc kl rk) (hH : RH B T ws wt G ids dir reg seen π w dev sto) (hp : p < 6) : ∃ x, tv T x (an_pre dir ids p) := by
  by_cases c : kd (dir (p * 5)) = 6 ∧ pt (dir (p * 5)) 0 = ids p ∧ Tgood 1 (pt (dir (p * 5)) 1) = true ∧ nu (pt (dir (p * 5)) 1) 0 = nI p
  · unfold an_pre
    rw [cif_t c]
    have t0 := hH.2.2.2.1.2.1 (p * 5) (by omega)
    have t1 := TI_pt hC.1 t0 (i := 1) (by decide)
    exact ⟨_, TI_pt hC.1 t1 (i := 0) (by decide)⟩
  · unfold an_pre
    rw [cif_f c]
    exact ⟨0, TI_z hC.1⟩
set_option maxRecDepth 100000 in
theorem t_sendB {sc : tm_X} {d : Nat} {B : bm_H} {F : Nat → Prop} {N S M ln : Nat} {T : List Tm} {dr : Nat} {K : Tm → Prop} {ca rm kc kl rk : Nat} {ws : List (Tm × Int32)} {wt : List Tm} {L : List LT} {bd ll tc tl tf tg : Nat → Int32} {cf cg : Int32} {ct : Tm} {co : Bool} {li fo db : Int32} {ids dir reg : Nat → Tm} {seen : List Tm} {π : Nat → Nat} {w : Nat → SW} {dev : Nat → DV} {sto : Nat → ST} {id : Tm} {K0 K1 : PK} {on : List (Tm × Int32)} {lnu : Int32} {se : Nat → List SS} {me : Nat → MM} {s p : Nat} {p0 : Bool} {P : EN2} {c : Option Nat} {Q : Int32 → bm_H → Prop} (hC : CK B F N S M ln T dr K ca rm kc kl rk) (hH : RH B T ws wt (L, bd, ll, tc, tl, tf, tg, cf, cg, ct, co, li, fo, db) ids dir reg seen π w dev sto) (hdr : dr ≤ 2960) (hws : ws.length ≤ 692) (hTl : T.length ≤ 30000) (hs : s < 6) (hp : p < 6) (hsp : s ≠ p) (eD : dev s = (id, K0, K1, on, lnu, se, me)) (hL : L.length < 700) (hst : sto s = (p0, P, [], c, false)) (hse : se p = []) (kI : kd id = 1) (kJ : kd (ids p) = 1) (kkN : ∀ B' M' ca' rm', an_pre dir ids p = tz → CK B' F N S M' ln T dr K ca' rm' kc kl rk → RH B' T ws [] (L, bd, ll, tc, tl, tf, tg, cf, cg, ct, co, li, fo, db) ids dir reg seen π w (fset dev 6 (dev s)) sto → fr (fun y => ¬ F y) B B' → Q (-5) B') (hen : (dv_en (id, K0, K1, on, lnu, fset (fset se p ((op_ses id (Tsec (nI dr) (nI s) 0) (Tsec (nI (dr + 1)) (nI s) 2) (ids p) (an_pre dir ids p) (an_once dir p 4 (p * 5 + 1)).1) :: (se p).take 1)) p (((fset se p ((op_ses id (Tsec (nI dr) (nI s) 0) (Tsec (nI (dr + 1)) (nI s) 2) (ids p) (an_pre dir ids p) (an_once dir p 4 (p * 5 + 1)).1) :: (se p).take 1)) p).set 0 (ss_sent (ss_turn (op_ses id (Tsec (nI dr) (nI s) 0) (Tsec (nI (dr + 1)) (nI s) 2) (ids p) (an_pre dir ids p) (an_once dir p 4 (p * 5 + 1)).1) (Tsec (nI (dr + 2)) (nI s) 2)))), me)).length ≤ 536) (k0 : ∀ B' T' M' ca' rm' kc' kl' rk' w', T <+: T' → T'.length ≤ T.length + 26 → (st_commit p0 P c (dv_en (id, K0, K1, on, lnu, fset (fset se p ((op_ses id (Tsec (nI dr) (nI s) 0) (Tsec (nI (dr + 1)) (nI s) 2) (ids p) (an_pre dir ids p) (an_once dir p 4 (p * 5 + 1)).1) :: (se p).take 1)) p (((fset se p ((op_ses id (Tsec (nI dr) (nI s) 0) (Tsec (nI (dr + 1)) (nI s) 2) (ids p) (an_pre dir ids p) (an_once dir p 4 (p * 5 + 1)).1) :: (se p).take 1)) p).set 0 (ss_sent (ss_turn (op_ses id (Tsec (nI dr) (nI s) 0) (Tsec (nI (dr + 1)) (nI s) 2) (ids p) (an_pre dir ids p) (an_once dir p 4 (p * 5 + 1)).1) (Tsec (nI (dr + 2)) (nI s) 2)))), me))).1 = 0 → CK B' F N S M' ln T' ((dr_turn (op_ses id (Tsec (nI dr) (nI s) 0) (Tsec (nI (dr + 1)) (nI s) 2) (ids p) (an_pre dir ids p) (an_once dir p 4 (p * 5 + 1)).1) (dr + 2)) + 1) K ca' rm' kc' kl' rk' → RH B' T' ws [(ss_wire (ss_turn (op_ses id (Tsec (nI dr) (nI s) 0) (Tsec (nI (dr + 1)) (nI s) 2) (ids p) (an_pre dir ids p) (an_once dir p 4 (p * 5 + 1)).1) (Tsec (nI (dr + 2)) (nI s) 2)) (nI s) (nI p) (Trw 4 0 0 0 0 (Tsec (nI (dr_turn (op_ses id (Tsec (nI dr) (nI s) 0) (Tsec (nI (dr + 1)) (nI s) 2) (ids p) (an_pre dir ids p) (an_once dir p 4 (p * 5 + 1)).1) (dr + 2))) (nI s) 0) tz tz tz))] (L, bd, ll, tc, tl, tf, tg, cf, cg, ct, co, li, fo, db) ids (an_once dir p 4 (p * 5 + 1)).2 reg seen π w' (fset (fset (fset dev 6 (dev s)) 6 (id, K0, K1, on, lnu, fset se p ((op_ses id (Tsec (nI dr) (nI s) 0) (Tsec (nI (dr + 1)) (nI s) 2) (ids p) (an_pre dir ids p) (an_once dir p 4 (p * 5 + 1)).1) :: (se p).take 1), me)) 6 (id, K0, K1, on, lnu, fset (fset se p ((op_ses id (Tsec (nI dr) (nI s) 0) (Tsec (nI (dr + 1)) (nI s) 2) (ids p) (an_pre dir ids p) (an_once dir p 4 (p * 5 + 1)).1) :: (se p).take 1)) p (((fset se p ((op_ses id (Tsec (nI dr) (nI s) 0) (Tsec (nI (dr + 1)) (nI s) 2) (ids p) (an_pre dir ids p) (an_once dir p 4 (p * 5 + 1)).1) :: (se p).take 1)) p).set 0 (ss_sent (ss_turn (op_ses id (Tsec (nI dr) (nI s) 0) (Tsec (nI (dr + 1)) (nI s) 2) (ids p) (an_pre dir ids p) (an_once dir p 4 (p * 5 + 1)).1) (Tsec (nI (dr + 2)) (nI s) 2)))), me)) (fset sto s (st_commit p0 P c (dv_en (id, K0, K1, on, lnu, fset (fset se p ((op_ses id (Tsec (nI dr) (nI s) 0) (Tsec (nI (dr + 1)) (nI s) 2) (ids p) (an_pre dir ids p) (an_once dir p 4 (p * 5 + 1)).1) :: (se p).take 1)) p (((fset se p ((op_ses id (Tsec (nI dr) (nI s) 0) (Tsec (nI (dr + 1)) (nI s) 2) (ids p) (an_pre dir ids p) (an_once dir p 4 (p * 5 + 1)).1) :: (se p).take 1)) p).set 0 (ss_sent (ss_turn (op_ses id (Tsec (nI dr) (nI s) 0) (Tsec (nI (dr + 1)) (nI s) 2) (ids p) (an_pre dir ids p) (an_once dir p 4 (p * 5 + 1)).1) (Tsec (nI (dr + 2)) (nI s) 2)))), me))).2) → fr (fun y => ¬ F y) B B' → Q (-4) B') (k1 : ∀ B' T' M' ca' rm' kc' kl' rk' w', T <+: T' → T'.length ≤ T.length + 26 → (st_commit p0 P c (dv_en (id, K0, K1, on, lnu, fset (fset se p ((op_ses id (Tsec (nI dr) (nI s) 0) (Tsec (nI (dr + 1)) (nI s) 2) (ids p) (an_pre dir ids p) (an_once dir p 4 (p * 5 + 1)).1) :: (se p).take 1)) p (((fset se p ((op_ses id (Tsec (nI dr) (nI s) 0) (Tsec (nI (dr + 1)) (nI s) 2) (ids p) (an_pre dir ids p) (an_once dir p 4 (p * 5 + 1)).1) :: (se p).take 1)) p).set 0 (ss_sent (ss_turn (op_ses id (Tsec (nI dr) (nI s) 0) (Tsec (nI (dr + 1)) (nI s) 2) (ids p) (an_pre dir ids p) (an_once dir p 4 (p * 5 + 1)).1) (Tsec (nI (dr + 2)) (nI s) 2)))), me))).1 = 1 → CK B' F N S M' ln T' ((dr_turn (op_ses id (Tsec (nI dr) (nI s) 0) (Tsec (nI (dr + 1)) (nI s) 2) (ids p) (an_pre dir ids p) (an_once dir p 4 (p * 5 + 1)).1) (dr + 2)) + 1) K ca' rm' kc' kl' rk' → RH B' T' ws [(ss_wire (ss_turn (op_ses id (Tsec (nI dr) (nI s) 0) (Tsec (nI (dr + 1)) (nI s) 2) (ids p) (an_pre dir ids p) (an_once dir p 4 (p * 5 + 1)).1) (Tsec (nI (dr + 2)) (nI s) 2)) (nI s) (nI p) (Trw 4 0 0 0 0 (Tsec (nI (dr_turn (op_ses id (Tsec (nI dr) (nI s) 0) (Tsec (nI (dr + 1)) (nI s) 2) (ids p) (an_pre dir ids p) (an_once dir p 4 (p * 5 + 1)).1) (dr + 2))) (nI s) 0) tz tz tz))] (L, bd, ll, tc, tl, tf, tg, cf, cg, ct, co, li, fo, db) ids (an_once dir p 4 (p * 5 + 1)).2 reg seen (sw6 π s) w' (sw6 (fset (fset (fset dev 6 (dev s)) 6 (id, K0, K1, on, lnu, fset se p ((op_ses id (Tsec (nI dr) (nI s) 0) (Tsec (nI (dr + 1)) (nI s) 2) (ids p) (an_pre dir ids p) (an_once dir p 4 (p * 5 + 1)).1) :: (se p).take 1), me)) 6 (id, K0, K1, on, lnu, fset (fset se p ((op_ses id (Tsec (nI dr) (nI s) 0) (Tsec (nI (dr + 1)) (nI s) 2) (ids p) (an_pre dir ids p) (an_once dir p 4 (p * 5 + 1)).1) :: (se p).take 1)) p (((fset se p ((op_ses id (Tsec (nI dr) (nI s) 0) (Tsec (nI (dr + 1)) (nI s) 2) (ids p) (an_pre dir ids p) (an_once dir p 4 (p * 5 + 1)).1) :: (se p).take 1)) p).set 0 (ss_sent (ss_turn (op_ses id (Tsec (nI dr) (nI s) 0) (Tsec (nI (dr + 1)) (nI s) 2) (ids p) (an_pre dir ids p) (an_once dir p 4 (p * 5 + 1)).1) (Tsec (nI (dr + 2)) (nI s) 2)))), me)) s) (fset sto s (st_commit p0 P c (dv_en (id, K0, K1, on, lnu, fset (fset se p ((op_ses id (Tsec (nI dr) (nI s) 0) (Tsec (nI (dr + 1)) (nI s) 2) (ids p) (an_pre dir ids p) (an_once dir p 4 (p * 5 + 1)).1) :: (se p).take 1)) p (((fset se p ((op_ses id (Tsec (nI dr) (nI s) 0) (Tsec (nI (dr + 1)) (nI s) 2) (ids p) (an_pre dir ids p) (an_once dir p 4 (p * 5 + 1)).1) :: (se p).take 1)) p).set 0 (ss_sent (ss_turn (op_ses id (Tsec (nI dr) (nI s) 0) (Tsec (nI (dr + 1)) (nI s) 2) (ids p) (an_pre dir ids p) (an_once dir p 4 (p * 5 + 1)).1) (Tsec (nI (dr + 2)) (nI s) 2)))), me))).2) → fr (fun y => ¬ F y) B B' → Q (-4) B') (k2 : ∀ B' T' M' ca' rm' kc' kl' rk' w', T <+: T' → T'.length ≤ T.length + 26 → (st_commit p0 P c (dv_en (id, K0, K1, on, lnu, fset (fset se p ((op_ses id (Tsec (nI dr) (nI s) 0) (Tsec (nI (dr + 1)) (nI s) 2) (ids p) (an_pre dir ids p) (an_once dir p 4 (p * 5 + 1)).1) :: (se p).take 1)) p (((fset se p ((op_ses id (Tsec (nI dr) (nI s) 0) (Tsec (nI (dr + 1)) (nI s) 2) (ids p) (an_pre dir ids p) (an_once dir p 4 (p * 5 + 1)).1) :: (se p).take 1)) p).set 0 (ss_sent (ss_turn (op_ses id (Tsec (nI dr) (nI s) 0) (Tsec (nI (dr + 1)) (nI s) 2) (ids p) (an_pre dir ids p) (an_once dir p 4 (p * 5 + 1)).1) (Tsec (nI (dr + 2)) (nI s) 2)))), me))).1 = 2 → CK B' F N S M' T'.length T' ((dr_turn (op_ses id (Tsec (nI dr) (nI s) 0) (Tsec (nI (dr + 1)) (nI s) 2) (ids p) (an_pre dir ids p) (an_once dir p 4 (p * 5 + 1)).1) (dr + 2)) + 1) (fun y => K y ∨ y = (ss_wire (ss_turn (op_ses id (Tsec (nI dr) (nI s) 0) (Tsec (nI (dr + 1)) (nI s) 2) (ids p) (an_pre dir ids p) (an_once dir p 4 (p * 5 + 1)).1) (Tsec (nI (dr + 2)) (nI s) 2)) (nI s) (nI p) (Trw 4 0 0 0 0 (Tsec (nI (dr_turn (op_ses id (Tsec (nI dr) (nI s) 0) (Tsec (nI (dr + 1)) (nI s) 2) (ids p) (an_pre dir ids p) (an_once dir p 4 (p * 5 + 1)).1) (dr + 2))) (nI s) 0) tz tz tz))) ca' rm' kc' kl' rk' → RH B' T' (ws ++ [((ss_wire (ss_turn (op_ses id (Tsec (nI dr) (nI s) 0) (Tsec (nI (dr + 1)) (nI s) 2) (ids p) (an_pre dir ids p) (an_once dir p 4 (p * 5 + 1)).1) (Tsec (nI (dr + 2)) (nI s) 2)) (nI s) (nI p) (Trw 4 0 0 0 0 (Tsec (nI (dr_turn (op_ses id (Tsec (nI dr) (nI s) 0) (Tsec (nI (dr + 1)) (nI s) 2) (ids p) (an_pre dir ids p) (an_once dir p 4 (p * 5 + 1)).1) (dr + 2))) (nI s) 0) tz tz tz)), nI L.length)]) [] (L ++ [lt_sent (Tsec (nI (dr_turn (op_ses id (Tsec (nI dr) (nI s) 0) (Tsec (nI (dr + 1)) (nI s) 2) (ids p) (an_pre dir ids p) (an_once dir p 4 (p * 5 + 1)).1) (dr + 2))) (nI s) 0) (nI s) (nI p) (ss_sent (ss_turn (op_ses id (Tsec (nI dr) (nI s) 0) (Tsec (nI (dr + 1)) (nI s) 2) (ids p) (an_pre dir ids p) (an_once dir p 4 (p * 5 + 1)).1) (Tsec (nI (dr + 2)) (nI s) 2)))], upd bd (dr_turn (op_ses id (Tsec (nI dr) (nI s) 0) (Tsec (nI (dr + 1)) (nI s) 2) (ids p) (an_pre dir ids p) (an_once dir p 4 (p * 5 + 1)).1) (dr + 2)) (nI L.length), ll, tc, tl, tf, tg, cf, cg, ct, co, li, fo, db) ids (an_once dir p 4 (p * 5 + 1)).2 reg seen (sw6 π s) w' (sw6 (fset (fset (fset dev 6 (dev s)) 6 (id, K0, K1, on, lnu, fset se p ((op_ses id (Tsec (nI dr) (nI s) 0) (Tsec (nI (dr + 1)) (nI s) 2) (ids p) (an_pre dir ids p) (an_once dir p 4 (p * 5 + 1)).1) :: (se p).take 1), me)) 6 (id, K0, K1, on, lnu, fset (fset se p ((op_ses id (Tsec (nI dr) (nI s) 0) (Tsec (nI (dr + 1)) (nI s) 2) (ids p) (an_pre dir ids p) (an_once dir p 4 (p * 5 + 1)).1) :: (se p).take 1)) p (((fset se p ((op_ses id (Tsec (nI dr) (nI s) 0) (Tsec (nI (dr + 1)) (nI s) 2) (ids p) (an_pre dir ids p) (an_once dir p 4 (p * 5 + 1)).1) :: (se p).take 1)) p).set 0 (ss_sent (ss_turn (op_ses id (Tsec (nI dr) (nI s) 0) (Tsec (nI (dr + 1)) (nI s) 2) (ids p) (an_pre dir ids p) (an_once dir p 4 (p * 5 + 1)).1) (Tsec (nI (dr + 2)) (nI s) 2)))), me)) s) (fset sto s (st_commit p0 P c (dv_en (id, K0, K1, on, lnu, fset (fset se p ((op_ses id (Tsec (nI dr) (nI s) 0) (Tsec (nI (dr + 1)) (nI s) 2) (ids p) (an_pre dir ids p) (an_once dir p 4 (p * 5 + 1)).1) :: (se p).take 1)) p (((fset se p ((op_ses id (Tsec (nI dr) (nI s) 0) (Tsec (nI (dr + 1)) (nI s) 2) (ids p) (an_pre dir ids p) (an_once dir p 4 (p * 5 + 1)).1) :: (se p).take 1)) p).set 0 (ss_sent (ss_turn (op_ses id (Tsec (nI dr) (nI s) 0) (Tsec (nI (dr + 1)) (nI s) 2) (ids p) (an_pre dir ids p) (an_once dir p 4 (p * 5 + 1)).1) (Tsec (nI (dr + 2)) (nI s) 2)))), me))).2) → fr (fun y => ¬ F y) B B' → Q (nI ws.length) B') : bm_Gi sc (d + 6) 84 [.ref 0, .int (nI s), .int (nI p)] B Q := by
  have hpt : pt (Tpub (ids p)) 0 = ids p := rfl
  show bm_G sc (d + 6) 84 0 [(0, .ref 0), (1, .int (nI s)), (2, .int (nI p))] [] B _
  generalize elv : ([(0, .ref 0), (1, .int (nI s)), (2, .int (nI p))] : tm_L) = lv
  have l0 : lv.lookup 0 = some (.ref 0) := by rw [← elv]; rfl
  have l1 : lv.lookup 1 = some (.int (nI s)) := by rw [← elv]; rfl
  have l2 : lv.lookup 2 = some (.int (nI p)) := by rw [← elv]; rfl
  clear elv
  refine g_ald (pc' := 1) cd_Ho_send rfl (Or.inr ⟨_, rfl, rfl, rfl⟩) l0 rfl rfl ?_
  refine g_ild (pc' := 2) cd_Ho_send rfl (Or.inr ⟨_, rfl, rfl, rfl⟩) l1 rfl ?_
  refine g_ild (pc' := 3) cd_Ho_send rfl (Or.inr ⟨_, rfl, rfl, rfl⟩) l2 rfl ?_
  refine g_calli (pc' := 6) cd_Ho_send rfl rfl rfl rfl rfl (tm_invS rfl rfl cd_Ho_areTwo rfl (Nat.le_of_ble_eq_true rfl)) (t_areTwo ?_)
  rw [show inR (nI s) 6 = true from inR_nI hs (by decide), show inR (nI p) 6 = true from inR_nI hp (by decide), decide_eq_false (fun q => hsp ((nI_eq (by omega) (by omega)).mp q))]
  show bm_G _ _ _ _ _ (.int 1 :: _) _ _
  show bm_G _ _ _ 6 _ [.int 1, .ref 0] B _
  refine g_ild (pc' := 7) cd_Ho_send rfl (Or.inr ⟨_, rfl, rfl, rfl⟩) l1 rfl ?_
  refine g_calli (pc' := 10) cd_Ho_send rfl rfl rfl rfl rfl (tm_invV rfl rfl cd_Ho_refusal rfl (Nat.le_of_ble_eq_true rfl) (by decide) hH.1.1.1 hH.1.1.2) (t_refusal hC hH hdr hws hTl hs (fun _ _ _ hdn _ _ _ => by rw [hst] at hdn; cases hdn) (fun B1 ca1 rm1 hdn hC1 hH1 hf1 => ?_))
  show bm_G _ _ _ 10 _ [.int 0] B1 _
  refine g_ist (pc' := 11) cd_Ho_send rfl (Or.inr ⟨_, rfl, rfl, rfl⟩) (by decide) rfl (fun lv el => ?_)
  have l0 := tm_lk el l0 rfl (by decide)
  have l1 := tm_lk el l1 rfl (by decide)
  have l2 := tm_lk el l2 rfl (by decide)
  have l3 : lv.lookup 3 = some (.int 0) := tm_lks el
  clear el
  refine g_ild (pc' := 12) cd_Ho_send rfl (Or.inr ⟨_, rfl, rfl, rfl⟩) l3 rfl ?_
  refine g_if1 (t := 17) (pc' := 15) cd_Ho_send rfl rfl rfl (fun c12 => ?_) (fun c12 => ?_)
  · have c12 : (0 : Int32) = 0 := c12
    refine g_ald (pc' := 18) cd_Ho_send rfl (Or.inr ⟨_, rfl, rfl, rfl⟩) l0 rfl rfl ?_
    refine g_ild (pc' := 19) cd_Ho_send rfl (Or.inr ⟨_, rfl, rfl, rfl⟩) l1 rfl ?_
    refine g_callv (pc' := 22) cd_Ho_send rfl rfl rfl rfl rfl (tm_invV rfl rfl cd_Ho_startWork rfl (Nat.le_of_ble_eq_true rfl) (by decide) hH1.1.1.1 hH1.1.1.2) (t_startWork hC1 hH1 hs (fun B2 hC2 hH2 hz2 => ?_))
    have eD2 : fset dev 6 (dev s) 6 = (id, K0, K1, on, lnu, se, me) := (fset_same _ _ _).trans eD
    have hW2 := hH2.2.2.2.2.1.2.2.2.2 6 (by decide)
    rw [eD2] at hW2
    have hrm2 := hC2.2.2.2.2.1.2
    have hf2 : fr (fun y => ¬ F y) B B2 := fr_trans (fr_mono (fun y q => nF_lo hC (by omega)) hf1) (fr_mono (fun y q => nF_lo hC (by omega)) hz2.1)
    show bm_G _ _ _ 22 _ [] B2 _
    refine g_ald (pc' := 23) cd_Ho_send rfl (Or.inr ⟨_, rfl, rfl, rfl⟩) l0 rfl rfl ?_
    refine g_fR (c := 11) (k := 11) (x := (rb (π 6))) (pc' := 26) cd_Ho_send rfl rfl rfl rfl rfl (by decide) hH2.1.1.1 hH2.1.1.2 hH2.2.2.2.2.1.2.1 ?_
    refine g_ild (pc' := 27) cd_Ho_send rfl (Or.inr ⟨_, rfl, rfl, rfl⟩) l2 rfl ?_
    refine g_callr (pc' := 30) cd_Ho_send rfl rfl rfl rfl rfl (tm_invV rfl rfl cd_De_firstSession rfl (Nat.le_of_ble_eq_true rfl) (by decide) (RDe_K (hH2.2.2.2.2.1.2.2.2.2 6 (by decide))).1 (RDe_K (hH2.2.2.2.2.1.2.2.2.2 6 (by decide))).2) (t_firstSession hW2 hp (fun _ => ?_) (fun _ _ q => by rw [hse] at q; cases q))
    show bm_G _ _ _ 30 _ [.null] B2 _
    refine g_ast (pc' := 32) cd_Ho_send rfl (Or.inl ⟨rfl, rfl⟩) rfl (by decide) rfl (fun lv el => ?_)
    have l0 := tm_lk el l0 rfl (by decide)
    have l1 := tm_lk el l1 rfl (by decide)
    have l2 := tm_lk el l2 rfl (by decide)
    have l3 := tm_lk el l3 rfl (by decide)
    have l4 : lv.lookup 4 = some (.null) := tm_lks el
    clear el
    refine g_ald (pc' := 34) cd_Ho_send rfl (Or.inl ⟨rfl, rfl⟩) l4 rfl rfl ?_
    refine g_nnF (t := 45) (pc' := 37) cd_Ho_send rfl rfl rfl ?_
    refine g_ald (pc' := 38) cd_Ho_send rfl (Or.inr ⟨_, rfl, rfl, rfl⟩) l0 rfl rfl ?_
    refine g_ild (pc' := 39) cd_Ho_send rfl (Or.inr ⟨_, rfl, rfl, rfl⟩) l1 rfl ?_
    refine g_ild (pc' := 40) cd_Ho_send rfl (Or.inr ⟨_, rfl, rfl, rfl⟩) l2 rfl ?_
    refine g_callr (pc' := 43) cd_Ho_send rfl rfl rfl rfl rfl (tm_invV rfl rfl cd_Ho_openSession rfl (Nat.le_of_ble_eq_true rfl) (by decide) hH2.1.1.1 hH2.1.1.2) (t_open hC2 hH2 hp eD2 kI kJ (by omega) (by omega) (fun q => ?_) (fun B3 T3 w3 hne hp3 hl3 hC3 hH3 hz3 => ?_))
    · skip
      show bm_G _ _ _ 43 _ [.null] B2 _
      refine g_ast (pc' := 45) cd_Ho_send rfl (Or.inl ⟨rfl, rfl⟩) rfl (by decide) rfl (fun lv el => ?_)
      have l0 := tm_lk el l0 rfl (by decide)
      have l1 := tm_lk el l1 rfl (by decide)
      have l2 := tm_lk el l2 rfl (by decide)
      have l3 := tm_lk el l3 rfl (by decide)
      have l4 : lv.lookup 4 = some (.null) := tm_lks el
      clear el
      refine g_ald (pc' := 47) cd_Ho_send rfl (Or.inl ⟨rfl, rfl⟩) l4 rfl rfl ?_
      refine g_nnF (t := 53) (pc' := 50) cd_Ho_send rfl rfl rfl ?_
      refine g_k2 (v := (-5)) (pc' := 52) cd_Ho_send rfl (by decide) rfl ?_
      exact g_reti cd_Ho_send rfl ⟨_, rfl, (kkN B2 _ ca1 rm1 q hC2 hH2 hf2)⟩
    · skip
      show bm_G _ _ _ 43 _ [.ref ((sA (rb (π 6)) w3.2.1 p 0))] B3 _
      refine g_ast (pc' := 45) cd_Ho_send rfl (Or.inl ⟨rfl, rfl⟩) rfl (by decide) rfl (fun lv el => ?_)
      have l0 := tm_lk el l0 rfl (by decide)
      have l1 := tm_lk el l1 rfl (by decide)
      have l2 := tm_lk el l2 rfl (by decide)
      have l3 := tm_lk el l3 rfl (by decide)
      have l4 : lv.lookup 4 = some (.ref ((sA (rb (π 6)) w3.2.1 p 0))) := tm_lks el
      clear el
      refine g_ald (pc' := 47) cd_Ho_send rfl (Or.inl ⟨rfl, rfl⟩) l4 rfl rfl ?_
      refine g_nnT (t := 53) cd_Ho_send rfl rfl ?_
      have e6 : (fset w 6 w3) 6 = w3 := fset_same _ _ _
      have eD3 : fset (fset dev 6 (dev s)) 6 (id, K0, K1, on, lnu, fset se p ((op_ses id (Tsec (nI dr) (nI s) 0) (Tsec (nI (dr + 1)) (nI s) 2) (ids p) (an_pre dir ids p) (an_once dir p 4 (p * 5 + 1)).1) :: (se p).take 1), me) 6 = (id, K0, K1, on, lnu, fset se p ((op_ses id (Tsec (nI dr) (nI s) 0) (Tsec (nI (dr + 1)) (nI s) 2) (ids p) (an_pre dir ids p) (an_once dir p 4 (p * 5 + 1)).1) :: (se p).take 1), me) := fset_same _ _ _
      have hne2 := pub_p0 (by obtain ⟨x, hx⟩ := an_pre_tv hC2 hH2 hp; exact TI_sp hC2.1 hx) (an_pre_kd hne)
      have hf3 : fr (fun y => ¬ F y) B B3 := fr_trans hf2 (fr_mono (fun y q => q.elim (fun q => q.elim (nF_tcs hC2) (fun q => nF_lo hC (by have := rb_in (hH2.2.2.2.2.1.2.2.1 6 (by decide)); omega))) (fun q => nF_lo hC (by omega))) hz3.1)
      have hH3 : RH B3 T3 ws [] (L, bd, ll, tc, tl, tf, tg, cf, cg, ct, co, li, fo, db) ids (an_once dir p 4 (p * 5 + 1)).2 reg seen π (fset w 6 w3) (fset (fset dev 6 (dev s)) 6 (id, K0, K1, on, lnu, fset se p ((op_ses id (Tsec (nI dr) (nI s) 0) (Tsec (nI (dr + 1)) (nI s) 2) (ids p) (an_pre dir ids p) (an_once dir p 4 (p * 5 + 1)).1) :: (se p).take 1), me)) sto := hH3
      exact l_send hC3 hH3 hs hp eD3 (by rw [fset_same]; rfl) (by omega) (by omega) hws rfl hL rfl hne2 hst hen (fun B' T' kc' kl' rk' w' q1 q2 q3 q4 q5 q6 => k0 B' T' _ ca1 rm1 kc' kl' rk' w' (hp3.trans q1) (by omega) q3 q4 q5 (fr_trans hf3 q6)) (fun B' T' kc' kl' rk' w' q1 q2 q3 q4 q5 q6 => k1 B' T' _ ca1 rm1 kc' kl' rk' w' (hp3.trans q1) (by omega) q3 q4 q5 (fr_trans hf3 q6)) (fun B' T' kc' kl' rk' w' q1 q2 q3 q4 q5 q6 => k2 B' T' _ ca1 rm1 kc' kl' rk' w' (hp3.trans q1) (by omega) q3 q4 q5 (fr_trans hf3 q6)) lv l0 l1 l2 (by rw [e6]; exact l4)
  · exact absurd (show ¬ (0 : Int32) = 0 from c12) (by decide)
