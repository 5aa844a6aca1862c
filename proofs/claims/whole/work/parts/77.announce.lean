/-! publish -/
def kr (v : Int32) (e : Tm × Int32) : Tm := Trw 2 v e.2 0 0 (Tpub e.1) tz tz tz
def an_dir (p : Nat) (v : Int32) : List (Tm × Int32) → Nat → (Nat → Tm) → (Nat → Tm)
  | [], _, dir => dir
  | e :: R, i, dir => an_dir p v R (i + 1) (fset dir (p * 5 + (i + 1)) (kr v e))
theorem CK_eqK {B : bm_H} {F : Nat → Prop} {N S M ln : Nat} {T : List Tm} {dr : Nat} {K : Tm → Prop} {ca rm kc kl rk : Nat} {K' : Tm → Prop} (h : CK B F N S M ln T dr K ca rm kc kl rk) (e : ∀ y, K y ↔ K' y) : CK B F N S M ln T dr K' ca rm kc kl rk := by
  have : K = K' := funext fun y => propext (e y)
  rw [← this]; exact h
set_option maxRecDepth 100000 in
theorem l_announce {sc : tm_X} {d : Nat} {F : Nat → Prop} {N S M : Nat} {dr ca rm : Nat} {ws : List (Tm × Int32)} {wt : List Tm} {G : LG} {ids reg : Nat → Tm} {seen : List Tm} {π : Nat → Nat} {w : Nat → SW} {dev : Nat → DV} {sto : Nat → ST} {id : Tm} {K0 K1 : PK} {on : List (Tm × Int32)} {lnu : Int32} {se : Nat → List SS} {me : Nat → MM} {p : Nat} {Q : bm_H → Prop} (hp : p < 6) (eD : dev p = (id, K0, K1, on, lnu, se, me)) (hk : ∀ e, e ∈ on → kd e.1 = 1) : ∀ (R : List (Tm × Int32)) (i : Nat) (B : bm_H) (T : List Tm) (K : Tm → Prop) (ln kc kl rk : Nat) (dir : Nat → Tm), CK B F N S M ln T dr K ca rm kc kl rk → RH B T ws wt G ids dir reg seen π w dev sto → on.drop i = R → i ≤ 4 → T.length + R.length < M → (∀ B' T' kc' kl' rk' ln', T <+: T' → T'.length ≤ T.length + R.length → CK B' F N S M ln' T' dr (fun y => K y ∨ y ∈ R.map (kr (nI p))) ca rm kc' kl' rk' → RH B' T' ws wt G ids (an_dir p (nI p) R i dir) reg seen π w dev sto → (R ≠ [] → ln' = T'.length) ∧ (R = [] → ln' = ln) → fr (fun y => xc F y ∨ y = 22) B B' → Q B') → ∀ lv : tm_L, lv.lookup 0 = some (.ref 0) → lv.lookup 1 = some (.int (nI p)) → lv.lookup 2 = some (.ref (rb (π p))) → lv.lookup 4 = some (.int (nI i)) → bm_G sc (d + 5) 58 53 lv [] B (fun r B' => r = none ∧ Q B') := by
  intro R
  induction R with
  | nil =>
    intro i B T K ln kc kl rk dir hC hH hdr hi4 hM kk lv l0 l1 l2 l4
    have hl := drop_nil hdr
    have hD : RDe B T (rb (π p)) (w p) (id, K0, K1, on, lnu, se, me) := eD ▸ hH.2.2.2.2.1.2.2.2.2 p (by omega)
    have h4 := hD.2.2.2.1.1.2
    refine g_ild (pc' := 55) cd_Ho_announceKeys rfl (Or.inl ⟨rfl, rfl⟩) l4 rfl ?_
    refine g_ald (pc' := 56) cd_Ho_announceKeys rfl (Or.inr ⟨_, rfl, rfl, rfl⟩) l2 rfl rfl ?_
    refine g_fI (c := 0) (k := 7) (x := nI (on.length)) (pc' := 59) cd_Ho_announceKeys rfl rfl rfl rfl rfl (by decide) hD.1.1.1 hD.1.1.2 hD.2.2.2.1.1.1 ?_
    refine g_if2 (t := 97) (pc' := 62) cd_Ho_announceKeys rfl rfl rfl (fun c59 => ?_) (fun c59 => ?_)
    · have c59 : (nI (on.length)) ≤ (nI i) := c59
      exact g_retv cd_Ho_announceKeys rfl ⟨rfl, (kk B T kc kl rk ln (List.prefix_refl T) (by simp) (CK_eqK hC (fun y => by simp)) hH ⟨fun q => absurd rfl q, fun _ => rfl⟩ (fr_rfl _ B))⟩
    · have c59 : ¬ (nI (on.length)) ≤ (nI i) := c59
      exact absurd (nI_le hl (by omega)) c59
  | cons e R ih =>
    intro i B T K ln kc kl rk dir hC hH hdr hi4 hM kk lv l0 l1 l2 l4
    obtain ⟨he, hdr2⟩ := drop_cons hdr
    have hl := (List.getElem?_eq_some_iff.mp he).1
    have hD : RDe B T (rb (π p)) (w p) (id, K0, K1, on, lnu, se, me) := eD ▸ hH.2.2.2.2.1.2.2.2.2 p (by omega)
    have h4 := hD.2.2.2.1.1.2
    simp at hM
    refine g_ild (pc' := 55) cd_Ho_announceKeys rfl (Or.inl ⟨rfl, rfl⟩) l4 rfl ?_
    refine g_ald (pc' := 56) cd_Ho_announceKeys rfl (Or.inr ⟨_, rfl, rfl, rfl⟩) l2 rfl rfl ?_
    refine g_fI (c := 0) (k := 7) (x := nI (on.length)) (pc' := 59) cd_Ho_announceKeys rfl rfl rfl rfl rfl (by decide) hD.1.1.1 hD.1.1.2 hD.2.2.2.1.1.1 ?_
    refine g_if2 (t := 97) (pc' := 62) cd_Ho_announceKeys rfl rfl rfl (fun c59 => ?_) (fun c59 => ?_)
    · have c59 : (nI (on.length)) ≤ (nI i) := c59
      exact absurd c59 (nI_ge hl (by omega))
    · have c59 : ¬ (nI (on.length)) ≤ (nI i) := c59
      refine g_ald (pc' := 63) cd_Ho_announceKeys rfl (Or.inr ⟨_, rfl, rfl, rfl⟩) l0 rfl rfl ?_
      refine g_ild (pc' := 64) cd_Ho_announceKeys rfl (Or.inr ⟨_, rfl, rfl, rfl⟩) l1 rfl ?_
      refine g_ild (pc' := 66) cd_Ho_announceKeys rfl (Or.inl ⟨rfl, rfl⟩) l4 rfl ?_
      refine g_k1 (v := 1) (pc' := 67) cd_Ho_announceKeys rfl (by decide) rfl ?_
      refine g_pure (pc' := 68) (st' := [.int ((nI i) + 1), .int (nI p), .ref 0]) cd_Ho_announceKeys rfl rfl (fun _ _ => rfl) ?_
      rw [show ((nI i) + 1 : Int32) = nI (i + 1) from nI_add i 1]
      refine g_ald (pc' := 69) cd_Ho_announceKeys rfl (Or.inr ⟨_, rfl, rfl, rfl⟩) l0 rfl rfl ?_
      refine g_k1 (v := 2) (pc' := 70) cd_Ho_announceKeys rfl (by decide) rfl ?_
      refine g_ild (pc' := 71) cd_Ho_announceKeys rfl (Or.inr ⟨_, rfl, rfl, rfl⟩) l1 rfl ?_
      refine g_ald (pc' := 72) cd_Ho_announceKeys rfl (Or.inr ⟨_, rfl, rfl, rfl⟩) l2 rfl rfl ?_
      refine g_fR (c := 0) (k := 2) (x := (rb (π p) + 7)) (pc' := 75) cd_Ho_announceKeys rfl rfl rfl rfl rfl (by decide) hD.1.1.1 hD.1.1.2 hD.1.2.1.2.2.1 ?_
      refine g_ild (pc' := 77) cd_Ho_announceKeys rfl (Or.inl ⟨rfl, rfl⟩) l4 rfl ?_
      refine g_aI (x := e.2) (pc' := 78) cd_Ho_announceKeys rfl rfl hD.1.2.2.2.2.1.1 hD.1.2.2.2.2.1.2.1 (by rw [show bm_AL B (rb (π p) + 7) = 4 from hD.1.2.2.2.2.1.2.2]; exact vp_in_nI (by omega) (by decide)) (by rw [nI_clamp (by omega)]; exact (hD.2.2.2.1.2 i e he).2) ?_
      refine g_ald (pc' := 79) cd_Ho_announceKeys rfl (Or.inr ⟨_, rfl, rfl, rfl⟩) l2 rfl rfl ?_
      refine g_fR (c := 0) (k := 1) (x := (rb (π p) + 6)) (pc' := 82) cd_Ho_announceKeys rfl rfl rfl rfl rfl (by decide) hD.1.1.1 hD.1.1.2 hD.1.2.1.2.1 ?_
      refine g_ild (pc' := 84) cd_Ho_announceKeys rfl (Or.inl ⟨rfl, rfl⟩) l4 rfl ?_
      refine g_aI (x := (bm_AI B (rb (π p) + 6) i)) (pc' := 85) cd_Ho_announceKeys rfl rfl hD.1.2.2.2.1.1 hD.1.2.2.2.1.2.1 (by rw [show bm_AL B (rb (π p) + 6) = 4 from hD.1.2.2.2.1.2.2]; exact vp_in_nI (by omega) (by decide)) (congrArg (bm_AI B (rb (π p) + 6)) (nI_clamp (by omega))) ?_
      refine g_calli (pc' := 88) cd_Ho_announceKeys rfl rfl rfl rfl rfl (tm_invV rfl rfl cd_Ho_keyRow rfl (Nat.le_of_ble_eq_true rfl) (by decide) hH.1.1.1 hH.1.1.2) (t_keyRow hC hH (hD.2.2.2.1.2 i e he).1 (hk e (List.mem_of_getElem? he)) (by omega) (fun B1 T1 r1 hp1 hl1 hC1 hH1 ht1 hz1 => ?_))
      show bm_G _ _ _ 88 _ [.int r1, .int (nI (i + 1)), .int (nI p), .ref 0] B1 _
      refine g_callv (pc' := 91) cd_Ho_announceKeys rfl rfl rfl rfl rfl (tm_invV rfl rfl cd_Ho_announce rfl (Nat.le_of_ble_eq_true rfl) (by decide) hH1.1.1.1 hH1.1.1.2) (t_announce hC1 hH1 ht1 hp (by omega) (fun B2 kc2 kl2 rk2 hC2 hH2 hf2 => ?_))
      have hD2 : RDe B2 T1 (rb (π p)) (w p) (id, K0, K1, on, lnu, se, me) := eD ▸ hH2.2.2.2.2.1.2.2.2.2 p (by omega)
      show bm_G _ _ _ 91 _ [] B2 _
      refine g_inc (y := nI (i + 1)) (pc' := 94) cd_Ho_announceKeys rfl l4 (by decide) (nI_add i 1) rfl (fun lv el => ?_)
      have l0 := tm_lk el l0 rfl (by decide)
      have l1 := tm_lk el l1 rfl (by decide)
      have l2 := tm_lk el l2 rfl (by decide)
      have l4 : lv.lookup 4 = some (.int (nI (i + 1))) := tm_lks el
      clear el
      refine g_pure (pc' := 53) (st' := []) cd_Ho_announceKeys rfl rfl (fun _ _ => rfl) ?_
      exact ih (i + 1) B2 T1 _ _ _ _ _ _ hC2 hH2 hdr2 (by omega) (by omega) (fun B' T' kc' kl' rk' ln' q1 q2 q3 q4 q5 q6 => kk B' T' kc' kl' rk' ln' (hp1.trans q1) (by simp; omega) (CK_eqK q3 (fun y => by simp [or_assoc]; rfl)) q4 ⟨fun _ => by by_cases cw : R = []; (rw [q5.2 cw, show T' = T1 from (List.IsPrefix.eq_of_length_le q1 (by rw [cw] at q2; simp at q2; exact q2)).symm]); exact q5.1 cw, fun q => by cases q⟩ (fr_trans (fr_trans (fr_mono (fun y q => Or.inl (CK_xc hC y q)) hz1.1) hf2) q6)) lv l0 l1 l2 l4
set_option maxRecDepth 100000 in
theorem t_announceKeys {sc : tm_X} {d : Nat} {B : bm_H} {F : Nat → Prop} {N S M ln : Nat} {T : List Tm} {dr : Nat} {K : Tm → Prop} {ca rm kc kl rk : Nat} {ws : List (Tm × Int32)} {wt : List Tm} {G : LG} {ids dir reg : Nat → Tm} {seen : List Tm} {π : Nat → Nat} {w : Nat → SW} {dev : Nat → DV} {sto : Nat → ST} {id : Tm} {K0 K1 : PK} {on : List (Tm × Int32)} {lnu : Int32} {se : Nat → List SS} {me : Nat → MM} {p : Nat} {Q : bm_H → Prop} (hC : CK B F N S M ln T dr K ca rm kc kl rk) (hH : RH B T ws wt G ids dir reg seen π w dev sto) (hp : p < 6) (eD : dev p = (id, K0, K1, on, lnu, se, me)) (hk0 : kd K0.1 = 1) (hk : ∀ e, e ∈ on → kd e.1 = 1) (hM : T.length + 6 < M) (kk : ∀ B' T' kc' kl' rk', T <+: T' → T'.length ≤ T.length + 6 → CK B' F N S M T'.length T' dr (fun y => (K y ∨ y = (Tsg id (Trw 1 (nI p) K0.2.1 0 0 (Tpub K0.1) tz tz tz))) ∨ y ∈ on.map (kr (nI p))) ca rm kc' kl' rk' → RH B' T' ws wt G ids (an_dir p (nI p) on 0 (fset dir (p * 5 + 0) (Tsg id (Trw 1 (nI p) K0.2.1 0 0 (Tpub K0.1) tz tz tz)))) reg seen π w dev sto → fr (fun y => xc F y ∨ y = 22) B B' → Q B') : bm_Gv sc (d + 5) 58 [.ref 0, .int (nI p)] B Q := by
  have hD : RDe B T (rb (π p)) (w p) (id, K0, K1, on, lnu, se, me) := eD ▸ hH.2.2.2.2.1.2.2.2.2 p (by omega)
  have h4 := hD.2.2.2.1.1.2
  show bm_G sc (d + 5) 58 0 [(0, .ref 0), (1, .int (nI p))] [] B _
  generalize elv : ([(0, .ref 0), (1, .int (nI p))] : tm_L) = lv
  have l0 : lv.lookup 0 = some (.ref 0) := by rw [← elv]; rfl
  have l1 : lv.lookup 1 = some (.int (nI p)) := by rw [← elv]; rfl
  clear elv
  refine g_ald (pc' := 1) cd_Ho_announceKeys rfl (Or.inr ⟨_, rfl, rfl, rfl⟩) l0 rfl rfl ?_
  refine g_fR (c := 11) (k := 4) (x := 19) (pc' := 4) cd_Ho_announceKeys rfl rfl rfl rfl rfl (by decide) hH.1.1.1 hH.1.1.2 hH.1.2.1.2.2.2.2.1 ?_
  refine g_ild (pc' := 5) cd_Ho_announceKeys rfl (Or.inr ⟨_, rfl, rfl, rfl⟩) l1 rfl ?_
  refine g_aR (t := 2) (x := (rb (π p))) (pc' := 6) cd_Ho_announceKeys rfl rfl hH.1.2.2.1.1 hH.1.2.2.1.2.1 (by decide) rfl rfl (by rw [show bm_AL B 19 = 6 from hH.1.2.2.1.2.2]; exact vp_in_nI (by omega) (by decide)) (by rw [nI_clamp (by omega)]; exact hH.2.2.2.2.1.1 p hp) ?_
  refine g_ast (pc' := 7) cd_Ho_announceKeys rfl (Or.inr ⟨_, rfl, rfl, rfl⟩) rfl (by decide) rfl (fun lv el => ?_)
  have l0 := tm_lk el l0 rfl (by decide)
  have l1 := tm_lk el l1 rfl (by decide)
  have l2 : lv.lookup 2 = some (.ref ((rb (π p)))) := tm_lks el
  clear el
  refine g_ald (pc' := 8) cd_Ho_announceKeys rfl (Or.inr ⟨_, rfl, rfl, rfl⟩) l0 rfl rfl ?_
  refine g_k1 (v := 1) (pc' := 9) cd_Ho_announceKeys rfl (by decide) rfl ?_
  refine g_ild (pc' := 10) cd_Ho_announceKeys rfl (Or.inr ⟨_, rfl, rfl, rfl⟩) l1 rfl ?_
  refine g_ald (pc' := 11) cd_Ho_announceKeys rfl (Or.inr ⟨_, rfl, rfl, rfl⟩) l2 rfl rfl ?_
  refine g_fR (c := 0) (k := 0) (x := (rb (π p) + 1)) (pc' := 14) cd_Ho_announceKeys rfl rfl rfl rfl rfl (by decide) hD.1.1.1 hD.1.1.2 hD.1.2.1.1 ?_
  refine g_k1 (v := 0) (pc' := 15) cd_Ho_announceKeys rfl (by decide) rfl ?_
  refine g_aR (t := 4) (x := (pA (rb (π p)) (w p).1 0)) (pc' := 16) cd_Ho_announceKeys rfl rfl hD.1.2.2.1.1 hD.1.2.2.1.2.1 (by decide) rfl rfl (by rw [show bm_AL B (rb (π p) + 1) = 2 from hD.1.2.2.1.2.2]; exact vp_in_nI (n := 0) (by decide) (by decide)) hD.2.2.1.1.1 ?_
  refine g_fI (c := 6) (k := 3) (x := K0.2.1) (pc' := 19) cd_Ho_announceKeys rfl rfl rfl rfl rfl (by decide) hD.2.2.1.2.1.1.1.1 hD.2.2.1.2.1.1.1.2 hD.2.2.1.2.1.2.1.2.1 ?_
  refine g_ald (pc' := 20) cd_Ho_announceKeys rfl (Or.inr ⟨_, rfl, rfl, rfl⟩) l2 rfl rfl ?_
  refine g_fR (c := 0) (k := 0) (x := (rb (π p) + 1)) (pc' := 23) cd_Ho_announceKeys rfl rfl rfl rfl rfl (by decide) hD.1.1.1 hD.1.1.2 hD.1.2.1.1 ?_
  refine g_k1 (v := 0) (pc' := 24) cd_Ho_announceKeys rfl (by decide) rfl ?_
  refine g_aR (t := 4) (x := (pA (rb (π p)) (w p).1 0)) (pc' := 25) cd_Ho_announceKeys rfl rfl hD.1.2.2.1.1 hD.1.2.2.1.2.1 (by decide) rfl rfl (by rw [show bm_AL B (rb (π p) + 1) = 2 from hD.1.2.2.1.2.2]; exact vp_in_nI (n := 0) (by decide) (by decide)) hD.2.2.1.1.1 ?_
  refine g_fI (c := 6) (k := 2) (x := (bm_FI B 6 2 (pA (rb (π p)) (w p).1 0))) (pc' := 28) cd_Ho_announceKeys rfl rfl rfl rfl rfl (by decide) hD.2.2.1.2.1.1.1.1 hD.2.2.1.2.1.1.1.2 rfl ?_
  refine g_calli (pc' := 31) cd_Ho_announceKeys rfl rfl rfl rfl rfl (tm_invV rfl rfl cd_Ho_keyRow rfl (Nat.le_of_ble_eq_true rfl) (by decide) hH.1.1.1 hH.1.1.2) (t_keyRow hC hH hD.2.2.1.2.1.2.1.1 hk0 (by omega) (fun B1 T1 r1 hp1 hl1 hC1 hH1 ht1 hz1 => ?_))
  have hD1 : RDe B1 T1 (rb (π p)) (w p) (id, K0, K1, on, lnu, se, me) := eD ▸ hH1.2.2.2.2.1.2.2.2.2 p (by omega)
  show bm_G _ _ _ 31 _ [.int r1] B1 _
  refine g_ist (pc' := 32) cd_Ho_announceKeys rfl (Or.inr ⟨_, rfl, rfl, rfl⟩) (by decide) rfl (fun lv el => ?_)
  have l0 := tm_lk el l0 rfl (by decide)
  have l1 := tm_lk el l1 rfl (by decide)
  have l2 := tm_lk el l2 rfl (by decide)
  have l3 : lv.lookup 3 = some (.int r1) := tm_lks el
  clear el
  refine g_ald (pc' := 33) cd_Ho_announceKeys rfl (Or.inr ⟨_, rfl, rfl, rfl⟩) l0 rfl rfl ?_
  refine g_ild (pc' := 34) cd_Ho_announceKeys rfl (Or.inr ⟨_, rfl, rfl, rfl⟩) l1 rfl ?_
  refine g_k1 (v := 0) (pc' := 35) cd_Ho_announceKeys rfl (by decide) rfl ?_
  refine g_ald (pc' := 36) cd_Ho_announceKeys rfl (Or.inr ⟨_, rfl, rfl, rfl⟩) l0 rfl rfl ?_
  refine g_fR (c := 11) (k := 0) (x := 1) (pc' := 39) cd_Ho_announceKeys rfl rfl rfl rfl rfl (by decide) hH1.1.1.1 hH1.1.1.2 hH1.1.2.1.1 ?_
  refine g_ald (pc' := 40) cd_Ho_announceKeys rfl (Or.inr ⟨_, rfl, rfl, rfl⟩) l2 rfl rfl ?_
  refine g_fI (c := 0) (k := 6) (x := (bm_FI B1 0 6 (rb (π p)))) (pc' := 43) cd_Ho_announceKeys rfl rfl rfl rfl rfl (by decide) hD1.1.1.1 hD1.1.1.2 rfl ?_
  refine g_ild (pc' := 44) cd_Ho_announceKeys rfl (Or.inr ⟨_, rfl, rfl, rfl⟩) l3 rfl ?_
  have hrm := hC1.2.2.2.2.1.2
  refine g_calli (pc' := 47) cd_Ho_announceKeys rfl rfl rfl rfl rfl (tm_invV rfl rfl cd_Te_signed rfl (Nat.le_of_ble_eq_true rfl) (by decide) hC1.1.1.1.1 hC1.1.1.1.2) (t_signed hC1.1 (by omega) hD1.2.1.1 ht1 (fun B2 T2 r2 hx2 ht2 => ?_))
  have hC2 := CK_made hC1 hx2.2.2.1 hx2.1 (fz_te hx2.2.2.2) (fun y q => Or.inl q)
  have hH2 := RH_te hC1 hH1 (fz_te hx2.2.2.2) hx2.1
  show bm_G _ _ _ 47 _ [.int r2, .int 0, .int (nI p), .ref 0] B2 _
  refine g_callv (pc' := 50) cd_Ho_announceKeys rfl rfl rfl rfl rfl (tm_invV rfl rfl cd_Ho_announce rfl (Nat.le_of_ble_eq_true rfl) (by decide) hH2.1.1.1 hH2.1.1.2) (t_announce (q := 0) hC2 hH2 ht2 hp (by decide) (fun B3 kc3 kl3 rk3 hC3 hH3 hf3 => ?_))
  have hD3 : RDe B3 T2 (rb (π p)) (w p) (id, K0, K1, on, lnu, se, me) := eD ▸ hH3.2.2.2.2.1.2.2.2.2 p (by omega)
  show bm_G _ _ _ 50 _ [] B3 _
  refine g_k1 (v := 0) (pc' := 51) cd_Ho_announceKeys rfl (by decide) rfl ?_
  refine g_ist (pc' := 53) cd_Ho_announceKeys rfl (Or.inl ⟨rfl, rfl⟩) (by decide) rfl (fun lv el => ?_)
  have l0 := tm_lk el l0 rfl (by decide)
  have l1 := tm_lk el l1 rfl (by decide)
  have l2 := tm_lk el l2 rfl (by decide)
  have l3 := tm_lk el l3 rfl (by decide)
  have l4 : lv.lookup 4 = some (.int 0) := tm_lks el
  clear el
  exact l_announce hp eD hk on 0 B3 T2 _ _ _ _ _ _ hC3 hH3 rfl (by decide) (by have := hx2.2.1; omega) (fun B' T' kc' kl' rk' ln' q1 q2 q3 q4 q5 q6 => kk B' T' kc' kl' rk' ((hp1.trans hx2.1).trans q1) (by have := hx2.2.1; omega) (by have e : ln' = T'.length := (by by_cases cw : on = []; (rw [q5.2 cw, show T' = T2 from (List.IsPrefix.eq_of_length_le q1 (by rw [cw] at q2; simp at q2; exact q2)).symm]); exact q5.1 cw); rw [← e]; exact q3) q4 (fr_trans (fr_trans (fr_trans (fr_mono (fun y q => Or.inl (CK_xc hC y q)) hz1.1) (fr_mono (fun y q => Or.inl (CK_xc hC1 y q)) (fz_te hx2.2.2.2).1)) hf3) q6)) lv l0 l1 l2 l4
