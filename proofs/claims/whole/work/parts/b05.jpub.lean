/-! The joint contracts: publish, begin -/
theorem RH_ids {B : bm_H} {T : List Tm} {ws : List (Tm × Int32)} {wt : List Tm} {G : LG} {ids ids' dir reg : Nat → Tm} {seen : List Tm} {π : Nat → Nat} {w : Nat → SW} {dev : Nat → DV} {sto : Nat → ST} (h : RH B T ws wt G ids dir reg seen π w dev sto) (e : ∀ q, q < 6 → ids' q = ids q) : RH B T ws wt G ids' dir reg seen π w dev sto := ⟨h.1, h.2.1, h.2.2.1, ⟨fun i hi => by rw [e i hi]; exact h.2.2.2.1.1 i hi, h.2.2.2.1.2⟩, h.2.2.2.2⟩
theorem J_cls {B B1 : bm_H} {f : Nat → Int32} {A : Nat → Nat → Int32} {T : List Tm} {DL : List (Int32 × Int32)} {G Kw : Tm → Prop} {dev : Nat → DV} {sto : Nat → ST} {ws : List (Tm × Int32)} {dir reg : Nat → Tm} {seen : List Tm} {ls : List RL} {lo : Nat → Int32} {R : RR} (hf : fr (fun y => ¬ mX y) B B1) (hMo : MoS B) (hs : mS B = (f, A)) (hM : MT f A T DL G Kw) (hS : RS f A T DL dev sto ws dir reg seen ls lo R) : ∃ A1, MoS B1 ∧ mS B1 = (f, A1) ∧ MT f A1 T DL G Kw ∧ RS f A1 T DL dev sto ws dir reg seen ls lo R ∧ rc (A1 1) T.length = rc (A 1) T.length ∧ ∀ j, 1 ≤ j → j ≤ 46 → A1 j = A j := by
  obtain ⟨h1, h2, h3⟩ := mX_fr hf hMo
  rw [hs] at h2 h3
  refine ⟨(mS B1).2, h1, Prod.ext h2 rfl, MT_same hM h3, RS_same hS h3, by rw [h3 1 (by decide) (by decide)], h3⟩
theorem sw6_dev {dv dev : Nat → DV} {p : Nat} {D : DV} (hp : p < 6) (h : ∀ q, q < 6 → dv q = dev q) : ∀ q, q < 6 → sw6 (fset dv 6 D) p q = fset dev p D q := fun q hq => by
  unfold sw6
  rw [fset_ne (by omega)]
  by_cases c : q = p
  · rw [c, fset_same, fset_same, fset_same]
  · rw [fset_ne c, fset_ne (by omega), fset_ne c, h q hq]
theorem f6_dev {dv dev : Nat → DV} {D : DV} (h : ∀ q, q < 6 → dv q = dev q) : ∀ q, q < 6 → fset dv 6 D q = dev q := fun q hq => by rw [fset_ne (by omega), h q hq]
theorem id_set {dev : Nat → DV} {p : Nat} {D : DV} (h : D.1 = (dev p).1) : ∀ q, q < 6 → (fun q => (dev q).1) q = (fset dev p D q).1 := fun q _ => by
  by_cases c : q = p
  · rw [c, fset_same, h]
  · rw [fset_ne c]
theorem ec_cons {s p : Nat} {se : Nat → List SS} {S : SS} {l : List SS} : ec s (fset se p (S :: l)) ≤ ec s se := ec_le (fun q _ h => by
  by_cases z : q = p
  · rw [z, fset_same] at h; simp at h
  · rw [fset_ne z] at h; exact h)
theorem cz1_le (S : ST) : cz1 S ≤ 1 := by
  unfold cz1
  split <;> omega
set_option maxRecDepth 100000 in
theorem P_publish {sc : tm_X} {d N S n : Nat} {B : bm_H} {DL : List (Int32 × Int32)} {dev : Nat → DV} {sto : Nat → ST} {ws : List (Tm × Int32)} {dir reg : Nat → Tm} {seen : List Tm} {G : Tm → Prop} {ls : List RL} {lo dt db rt fl ll tl tf tg tm : Nat → Int32} {ck fo du : Int32} {L : LG} {id : Tm} {K0 K1 : PK} {on : List (Tm × Int32)} {lnu : Int32} {se : Nat → List SS} {me : Nat → MM} {p0 : Bool} {P : EN2} {c : Option Nat} {p : Nat} {Q : Int32 → Int32 → bm_H → Prop} (hJ : J N S n B DL dev sto ws dir reg seen G L ls lo (dt, db, rt, fl, ll, tl, tf, tg, tm, ck, fo, du)) (hn : n < 64) (hdl : DL.length ≤ 2900) (hws : ws.length ≤ 692) (hp : p < 6) (eD : dev p = (id, K0, K1, on, lnu, se, me)) (hst : sto p = (p0, P, [], c, false)) (hD : DVI p n (dev p)) (k0 : (st_commit p0 P c (dv_en (id, (Tsec (nI DL.length) (nI p) 1, lnu + 1, []), K0, (on_fill (nI p) (4 - on.length) (DL.length + 1) (lnu + 1) on).1, (on_fill (nI p) (4 - on.length) (DL.length + 1) (lnu + 1) on).2, se, me))).1 = 0 → ∀ B2, J N S (n + 1) B2 (DL ++ [(nI p, 1)] ++ List.replicate (4 - on.length) (nI p, 0)) dev (fset sto p (st_commit p0 P c (dv_en (id, (Tsec (nI DL.length) (nI p) 1, lnu + 1, []), K0, (on_fill (nI p) (4 - on.length) (DL.length + 1) (lnu + 1) on).1, (on_fill (nI p) (4 - on.length) (DL.length + 1) (lnu + 1) on).2, se, me))).2) ws dir reg seen G L ls (wl lo DL.length (((nI p, true) :: List.replicate (4 - on.length) (nI p, false)).map fun _ => -1)) (wl dt DL.length (((nI p, true) :: List.replicate (4 - on.length) (nI p, false)).map fun _ => ck + 1), wl db DL.length (((nI p, true) :: List.replicate (4 - on.length) (nI p, false)).map fun e => e.1), wl rt DL.length (((nI p, true) :: List.replicate (4 - on.length) (nI p, false)).map fun e => bz e.2), fl, ll, tl, tf, tg, tm, ck + 1, fo, du) → Q (-4) (-4) B2) (k1 : (st_commit p0 P c (dv_en (id, (Tsec (nI DL.length) (nI p) 1, lnu + 1, []), K0, (on_fill (nI p) (4 - on.length) (DL.length + 1) (lnu + 1) on).1, (on_fill (nI p) (4 - on.length) (DL.length + 1) (lnu + 1) on).2, se, me))).1 = 1 → ∀ B2, J N S (n + 1) B2 (DL ++ [(nI p, 1)] ++ List.replicate (4 - on.length) (nI p, 0)) (fset dev p (id, (Tsec (nI DL.length) (nI p) 1, lnu + 1, []), K0, (on_fill (nI p) (4 - on.length) (DL.length + 1) (lnu + 1) on).1, (on_fill (nI p) (4 - on.length) (DL.length + 1) (lnu + 1) on).2, se, me)) (fset sto p (st_commit p0 P c (dv_en (id, (Tsec (nI DL.length) (nI p) 1, lnu + 1, []), K0, (on_fill (nI p) (4 - on.length) (DL.length + 1) (lnu + 1) on).1, (on_fill (nI p) (4 - on.length) (DL.length + 1) (lnu + 1) on).2, se, me))).2) ws dir reg seen G L ls (wl lo DL.length (((nI p, true) :: List.replicate (4 - on.length) (nI p, false)).map fun _ => -1)) (wl dt DL.length (((nI p, true) :: List.replicate (4 - on.length) (nI p, false)).map fun _ => ck + 1), wl db DL.length (((nI p, true) :: List.replicate (4 - on.length) (nI p, false)).map fun e => e.1), wl rt DL.length (((nI p, true) :: List.replicate (4 - on.length) (nI p, false)).map fun e => bz e.2), fl, ll, tl, tf, tg, tm, ck + 1, fo, du) → Q (-4) (-4) B2) (k2 : (st_commit p0 P c (dv_en (id, (Tsec (nI DL.length) (nI p) 1, lnu + 1, []), K0, (on_fill (nI p) (4 - on.length) (DL.length + 1) (lnu + 1) on).1, (on_fill (nI p) (4 - on.length) (DL.length + 1) (lnu + 1) on).2, se, me))).1 = 2 → ∀ B2, J N S (n + 1) B2 (DL ++ [(nI p, 1)] ++ List.replicate (4 - on.length) (nI p, 0)) (fset dev p (id, (Tsec (nI DL.length) (nI p) 1, lnu + 1, []), K0, (on_fill (nI p) (4 - on.length) (DL.length + 1) (lnu + 1) on).1, (on_fill (nI p) (4 - on.length) (DL.length + 1) (lnu + 1) on).2, se, me)) (fset sto p (st_commit p0 P c (dv_en (id, (Tsec (nI DL.length) (nI p) 1, lnu + 1, []), K0, (on_fill (nI p) (4 - on.length) (DL.length + 1) (lnu + 1) on).1, (on_fill (nI p) (4 - on.length) (DL.length + 1) (lnu + 1) on).2, se, me))).2) ws (an_dir p (nI p) (on_fill (nI p) (4 - on.length) (DL.length + 1) (lnu + 1) on).1 0 (fset dir (p * 5 + 0) (Tsg id (Trw 1 (nI p) (lnu + 1) 0 0 (Tpub (Tsec (nI DL.length) (nI p) 1)) tz tz tz)))) reg seen (fun y => (G y ∨ (y = (Tsg id (Trw 1 (nI p) (lnu + 1) 0 0 (Tpub (Tsec (nI DL.length) (nI p) 1)) tz tz tz)) ∧ (Tsg id (Trw 1 (nI p) (lnu + 1) 0 0 (Tpub (Tsec (nI DL.length) (nI p) 1)) tz tz tz)) ≠ tz)) ∨ y ∈ (on_fill (nI p) (4 - on.length) (DL.length + 1) (lnu + 1) on).1.map (kr (nI p))) L ls (wl lo DL.length (((nI p, true) :: List.replicate (4 - on.length) (nI p, false)).map fun _ => -1)) (wl dt DL.length (((nI p, true) :: List.replicate (4 - on.length) (nI p, false)).map fun _ => ck + 1), wl db DL.length (((nI p, true) :: List.replicate (4 - on.length) (nI p, false)).map fun e => e.1), wl rt DL.length (((nI p, true) :: List.replicate (4 - on.length) (nI p, false)).map fun e => bz e.2), fl, ll, tl, tf, tg, tm, ck + 1, fo, du) → Q (lnu + 1) (lnu + 1) B2) : PR sc (d + 12) 30 199 [.int (nI p)] B Q := by
  obtain ⟨f, A, T, T0, K, Kw, ca, rm, kc, kl, rk, M, ln, wt, π, w, dv, idc, ⟨hC, hH0, hdv, hid⟩, ⟨hMo, hs0, hM, hS⟩, ⟨hKG, hKs, h16, hlk⟩, hTl, hPh, hrc⟩ := hJ
  have hH := RH_ids (ids' := fun q => (dev q).1) hH0 (fun q hq => (hid q hq).symm)
  rw [eD] at hD
  have hD1 := DVI_renew DL.length (by omega) hD
  have hen := DVI_en hp hD1
  have hid0 : (dev p).1 = id := by rw [eD]
  obtain ⟨m, hm, em⟩ := hD.2.2.2.1
  have hln : lnu + 1 ≠ 0 := by rw [em, show nI m + 1 = nI (m + 1) from nI_add m 1]; exact nI_ne0 (by omega) (by omega)
  have hlen : (DL ++ [(nI p, (1 : Int32))] ++ List.replicate (4 - on.length) (nI p, (0 : Int32))).length = DL.length + 1 + (4 - on.length) := by simp; omega
  have hcu := cuts_set (sto := sto) (S := (st_commit p0 P c (dv_en (id, (Tsec (nI DL.length) (nI p) 1, lnu + 1, []), K0, (on_fill (nI p) (4 - on.length) (DL.length + 1) (lnu + 1) on).1, (on_fill (nI p) (4 - on.length) (DL.length + 1) (lnu + 1) on).2, se, me))).2) hp
  rw [cz1_commit] at hcu
  have hem := emp_set (dev := dev) (D := (id, (Tsec (nI DL.length) (nI p) 1, lnu + 1, []), K0, (on_fill (nI p) (4 - on.length) (DL.length + 1) (lnu + 1) on).1, (on_fill (nI p) (4 - on.length) (DL.length + 1) (lnu + 1) on).2, se, me)) hp
  rw [eD] at hem
  have hem : emp (fset dev p (id, (Tsec (nI DL.length) (nI p) 1, lnu + 1, []), K0, (on_fill (nI p) (4 - on.length) (DL.length + 1) (lnu + 1) on).1, (on_fill (nI p) (4 - on.length) (DL.length + 1) (lnu + 1) on).2, se, me)) + ec p se = emp dev + ec p se := hem
  refine t_publish (F := mX) hC hH (by omega) hws (by omega) hp ((hdv p hp).trans eD) hD.2.2.1.1 hst hen (fun B1 T1 M1 ca1 rm1 kc1 kl1 rk1 w1 pT qT hc1 hC1 hH1 hf1 => ?_) (fun B1 T1 M1 ca1 rm1 kc1 kl1 rk1 w1 pT qT hc1 hC1 hH1 hf1 => ?_) (fun B1 T1 M1 ca1 rm1 kc1 kl1 rk1 w1 pT qT hc1 hC1 hH1 hf1 => ?_)
  · obtain ⟨A1, hMo1, hs1, hM1, hS1, hr1, -⟩ := J_cls hf1 hMo hs0 hM hS
    refine m_run hMo1 hs1 (mo_publish hM1 hS1 (by omega) hws (by omega) (by omega) hp eD hD.2.1.1.1 hln hD.1 hD.2.2.1.1 hst hen (fun hc2 f2 A2 T2 pU qU sU hM2 g16 hS2 => ?_) (fun hc2 f2 A2 T2 pU qU sU hM2 g16 hS2 => ?_) (fun hc2 f2 A2 T2 pU qU sU hM2 g16 hS2 => ?_))
    · intro B2 hF2 hs2
      rw [← hlen] at hC1
      exact k0 hc2 B2 (J_mk hF2 hs2 hC1 hH1 (f6_dev hdv) (fun _ _ => rfl) hM2 hS2 hKG hKs (st_keep h16 (Or.inr g16)) (lk_mono hlk pT (Nat.le_refl _)) (by omega) (by omega) (by omega))
    · exact absurd (hc1.symm.trans hc2) (by decide)
    · exact absurd (hc1.symm.trans hc2) (by decide)
  · obtain ⟨A1, hMo1, hs1, hM1, hS1, hr1, -⟩ := J_cls hf1 hMo hs0 hM hS
    refine m_run hMo1 hs1 (mo_publish hM1 hS1 (by omega) hws (by omega) (by omega) hp eD hD.2.1.1.1 hln hD.1 hD.2.2.1.1 hst hen (fun hc2 f2 A2 T2 pU qU sU hM2 g16 hS2 => ?_) (fun hc2 f2 A2 T2 pU qU sU hM2 g16 hS2 => ?_) (fun hc2 f2 A2 T2 pU qU sU hM2 g16 hS2 => ?_))
    · exact absurd (hc1.symm.trans hc2) (by decide)
    · intro B2 hF2 hs2
      rw [← hlen] at hC1
      exact k1 hc2 B2 (J_mk hF2 hs2 hC1 hH1 (sw6_dev hp hdv) (id_set (by rw [hid0])) hM2 hS2 hKG hKs (st_keep h16 (Or.inr g16)) (lk_mono hlk pT (Nat.le_refl _)) (by omega) (by omega) (by omega))
    · exact absurd (hc1.symm.trans hc2) (by decide)
  · obtain ⟨A1, hMo1, hs1, hM1, hS1, hr1, -⟩ := J_cls hf1 hMo hs0 hM hS
    refine m_run hMo1 hs1 (mo_publish hM1 hS1 (by omega) hws (by omega) (by omega) hp eD hD.2.1.1.1 hln hD.1 hD.2.2.1.1 hst hen (fun hc2 f2 A2 T2 pU qU sU hM2 g16 hS2 => ?_) (fun hc2 f2 A2 T2 pU qU sU hM2 g16 hS2 => ?_) (fun hc2 f2 A2 T2 pU qU sU hM2 g16 hS2 => ?_))
    · exact absurd (hc1.symm.trans hc2) (by decide)
    · exact absurd (hc1.symm.trans hc2) (by decide)
    · intro B2 hF2 hs2
      rw [← hlen] at hC1
      exact k2 hc2 B2 (J_mk hF2 hs2 hC1 hH1 (sw6_dev hp hdv) (id_set (by rw [hid0])) hM2 hS2 (KG_add (KG_add hKG (fun y q => Or.inr ⟨q, fun e => nomatch e⟩) (fun y q => q.1)) (fun y q => Or.inr q) (fun y q => q)) (fun y q => Kn_mono (fun z hz => Or.inl (Or.inl hz)) (hKs y q)) (st_give h16 (g16.imp_right (fun z => ⟨z.1, fun y hy => hy.elim (fun hy => hy.elim Kn_G (fun hy => Kn_G (z.2 y (Or.inl hy.1)))) (fun hy => Kn_G (z.2 y (Or.inr hy)))⟩))) (lk_mono hlk pT (Nat.le_trans (CK_ln hC) (pT.length_le))) (by omega) (by omega) (by omega))
set_option maxRecDepth 100000 in
theorem P_begin {sc : tm_X} {d N S n : Nat} {B : bm_H} {DL : List (Int32 × Int32)} {dev : Nat → DV} {sto : Nat → ST} {ws : List (Tm × Int32)} {dir reg : Nat → Tm} {seen : List Tm} {G : Tm → Prop} {ls : List RL} {lo dt db rt fl ll tl tf tg tm : Nat → Int32} {ck fo du : Int32} {L : LG} {id : Tm} {K0 K1 : PK} {on : List (Tm × Int32)} {lnu : Int32} {se : Nat → List SS} {me : Nat → MM} {p0 : Bool} {P : EN2} {c : Option Nat} {s p : Nat} {ids : Nat → Tm} {Q : Int32 → Int32 → bm_H → Prop} (hJ : J N S n B DL dev sto ws dir reg seen G L ls lo (dt, db, rt, fl, ll, tl, tf, tg, tm, ck, fo, du)) (hn : n < 64) (hdl : DL.length ≤ 2900) (hws : ws.length ≤ 692) (hs : s < 6) (hp : p < 6) (hsp : s ≠ p) (eids : ids = fun q => (dev q).1) (kid : ∀ q, q < 6 → kd (ids q) = 1) (hpub : an_pre dir ids p ≠ tz → kd (pt (an_pre dir ids p) 0) = 1) (eD : dev s = (id, K0, K1, on, lnu, se, me)) (hst : sto s = (p0, P, [], c, false)) (hD : DVI s n (dev s)) (kN : an_pre dir ids p = tz → ∀ B2, J N S (n + 1) B2 DL dev sto ws dir reg seen G L ls lo (dt, db, rt, fl, ll, tl, tf, tg, tm, ck + 1, fo, du) → Q (-5) (-5) B2) (k0 : an_pre dir ids p ≠ tz → (st_commit p0 P c (dv_en (id, K0, K1, on, lnu, fset se p ((op_ses id (Tsec (nI DL.length) (nI s) 0) (Tsec (nI (DL.length + 1)) (nI s) 2) (ids p) (an_pre dir ids p) (an_once dir p 4 (p * 5 + 1)).1) :: (se p).take 1), me))).1 = 0 → ∀ B2, J N S (n + 1) B2 (DL ++ [(nI s, 0), (nI s, 2)]) dev (fset sto s (st_commit p0 P c (dv_en (id, K0, K1, on, lnu, fset se p ((op_ses id (Tsec (nI DL.length) (nI s) 0) (Tsec (nI (DL.length + 1)) (nI s) 2) (ids p) (an_pre dir ids p) (an_once dir p 4 (p * 5 + 1)).1) :: (se p).take 1), me))).2) ws ((an_once dir p 4 (p * 5 + 1)).2) reg seen G L ls (wl lo DL.length (([(nI s, false), (nI s, true)] : List (Int32 × Bool)).map fun _ => -1)) (wl dt DL.length (([(nI s, false), (nI s, true)] : List (Int32 × Bool)).map fun _ => ck + 1), wl db DL.length (([(nI s, false), (nI s, true)] : List (Int32 × Bool)).map fun e => e.1), wl rt DL.length (([(nI s, false), (nI s, true)] : List (Int32 × Bool)).map fun e => bz e.2), fl, ll, tl, tf, tg, tm, ck + 1, fo, du) → Q (-4) (-4) B2) (k1 : an_pre dir ids p ≠ tz → (st_commit p0 P c (dv_en (id, K0, K1, on, lnu, fset se p ((op_ses id (Tsec (nI DL.length) (nI s) 0) (Tsec (nI (DL.length + 1)) (nI s) 2) (ids p) (an_pre dir ids p) (an_once dir p 4 (p * 5 + 1)).1) :: (se p).take 1), me))).1 = 1 → ∀ B2, J N S (n + 1) B2 (DL ++ [(nI s, 0), (nI s, 2)]) (fset dev s (id, K0, K1, on, lnu, fset se p ((op_ses id (Tsec (nI DL.length) (nI s) 0) (Tsec (nI (DL.length + 1)) (nI s) 2) (ids p) (an_pre dir ids p) (an_once dir p 4 (p * 5 + 1)).1) :: (se p).take 1), me)) (fset sto s (st_commit p0 P c (dv_en (id, K0, K1, on, lnu, fset se p ((op_ses id (Tsec (nI DL.length) (nI s) 0) (Tsec (nI (DL.length + 1)) (nI s) 2) (ids p) (an_pre dir ids p) (an_once dir p 4 (p * 5 + 1)).1) :: (se p).take 1), me))).2) ws ((an_once dir p 4 (p * 5 + 1)).2) reg seen G L ls (wl lo DL.length (([(nI s, false), (nI s, true)] : List (Int32 × Bool)).map fun _ => -1)) (wl dt DL.length (([(nI s, false), (nI s, true)] : List (Int32 × Bool)).map fun _ => ck + 1), wl db DL.length (([(nI s, false), (nI s, true)] : List (Int32 × Bool)).map fun e => e.1), wl rt DL.length (([(nI s, false), (nI s, true)] : List (Int32 × Bool)).map fun e => bz e.2), fl, ll, tl, tf, tg, tm, ck + 1, fo, du) → Q (-4) (-4) B2) (k2 : an_pre dir ids p ≠ tz → (st_commit p0 P c (dv_en (id, K0, K1, on, lnu, fset se p ((op_ses id (Tsec (nI DL.length) (nI s) 0) (Tsec (nI (DL.length + 1)) (nI s) 2) (ids p) (an_pre dir ids p) (an_once dir p 4 (p * 5 + 1)).1) :: (se p).take 1), me))).1 = 2 → ∀ B2, J N S (n + 1) B2 (DL ++ [(nI s, 0), (nI s, 2)]) (fset dev s (id, K0, K1, on, lnu, fset se p ((op_ses id (Tsec (nI DL.length) (nI s) 0) (Tsec (nI (DL.length + 1)) (nI s) 2) (ids p) (an_pre dir ids p) (an_once dir p 4 (p * 5 + 1)).1) :: (se p).take 1), me)) (fset sto s (st_commit p0 P c (dv_en (id, K0, K1, on, lnu, fset se p ((op_ses id (Tsec (nI DL.length) (nI s) 0) (Tsec (nI (DL.length + 1)) (nI s) 2) (ids p) (an_pre dir ids p) (an_once dir p 4 (p * 5 + 1)).1) :: (se p).take 1), me))).2) ws ((an_once dir p 4 (p * 5 + 1)).2) reg seen G L ls (wl lo DL.length (([(nI s, false), (nI s, true)] : List (Int32 × Bool)).map fun _ => -1)) (wl dt DL.length (([(nI s, false), (nI s, true)] : List (Int32 × Bool)).map fun _ => ck + 1), wl db DL.length (([(nI s, false), (nI s, true)] : List (Int32 × Bool)).map fun e => e.1), wl rt DL.length (([(nI s, false), (nI s, true)] : List (Int32 × Bool)).map fun e => bz e.2), fl, ll, tl, tf, tg, tm, ck + 1, fo, du) → Q (nI ((op_ses id (Tsec (nI DL.length) (nI s) 0) (Tsec (nI (DL.length + 1)) (nI s) 2) (ids p) (an_pre dir ids p) (an_once dir p 4 (p * 5 + 1)).1) :: (se p).take 1).length) (nI ((op_ses id (Tsec (nI DL.length) (nI s) 0) (Tsec (nI (DL.length + 1)) (nI s) 2) (ids p) (an_pre dir ids p) (an_once dir p 4 (p * 5 + 1)).1) :: (se p).take 1).length) B2) : PR sc (d + 12) 64 210 [.int (nI s), .int (nI p)] B Q := by
  obtain ⟨f, A, T, T0, K, Kw, ca, rm, kc, kl, rk, M, ln, wt, π, w, dv, idc, ⟨hC, hH0, hdv, hid⟩, ⟨hMo, hs0, hM, hS⟩, ⟨hKG, hKs, h16, hlk⟩, hTl, hPh, hrc⟩ := hJ
  have hH := RH_ids (ids' := fun q => (dev q).1) hH0 (fun q hq => (hid q hq).symm)
  rw [← eids] at hH
  rw [eD] at hD
  have hid0 : (dev s).1 = id := by rw [eD]
  have hen : an_pre dir ids p ≠ tz → (dv_en (id, K0, K1, on, lnu, fset se p ((op_ses id (Tsec (nI DL.length) (nI s) 0) (Tsec (nI (DL.length + 1)) (nI s) 2) (ids p) (an_pre dir ids p) (an_once dir p 4 (p * 5 + 1)).1) :: (se p).take 1), me)).length ≤ 536 := fun hz => DVI_en hs (DVI_ses hD (SEI_cons (Ne.symm hsp) (DVI_sei hD) (SSI_open (an_pre_kd hz) (hpub hz) rfl)))
  have hlen : (DL ++ [(nI s, (0 : Int32)), (nI s, (2 : Int32))]).length = DL.length + 2 := by simp
  have hcu := cuts_set (sto := sto) (S := (st_commit p0 P c (dv_en (id, K0, K1, on, lnu, fset se p ((op_ses id (Tsec (nI DL.length) (nI s) 0) (Tsec (nI (DL.length + 1)) (nI s) 2) (ids p) (an_pre dir ids p) (an_once dir p 4 (p * 5 + 1)).1) :: (se p).take 1), me))).2) hs
  rw [cz1_commit] at hcu
  have hem := emp_set (dev := dev) (D := (id, K0, K1, on, lnu, fset se p ((op_ses id (Tsec (nI DL.length) (nI s) 0) (Tsec (nI (DL.length + 1)) (nI s) 2) (ids p) (an_pre dir ids p) (an_once dir p 4 (p * 5 + 1)).1) :: (se p).take 1), me)) hs
  rw [eD] at hem
  have hem : emp (fset dev s (id, K0, K1, on, lnu, fset se p ((op_ses id (Tsec (nI DL.length) (nI s) 0) (Tsec (nI (DL.length + 1)) (nI s) 2) (ids p) (an_pre dir ids p) (an_once dir p 4 (p * 5 + 1)).1) :: (se p).take 1), me)) + ec s se = emp dev + ec s (fset se p ((op_ses id (Tsec (nI DL.length) (nI s) 0) (Tsec (nI (DL.length + 1)) (nI s) 2) (ids p) (an_pre dir ids p) (an_once dir p 4 (p * 5 + 1)).1) :: (se p).take 1)) := hem
  have hecl : ec s (fset se p ((op_ses id (Tsec (nI DL.length) (nI s) 0) (Tsec (nI (DL.length + 1)) (nI s) 2) (ids p) (an_pre dir ids p) (an_once dir p 4 (p * 5 + 1)).1) :: (se p).take 1)) ≤ ec s se := ec_cons
  refine t_begin (F := mX) hC hH (by omega) hws (by omega) hs hp hsp ((hdv s hs).trans eD) hst hD.1 (kid p hp) hen (fun B1 M1 ca1 rm1 hx0 hC1 hH1 hf1 => ?_) (fun B1 T1 M1 ca1 rm1 w1 pT qT hx0 hc1 hC1 hH1 hf1 => ?_) (fun B1 T1 M1 ca1 rm1 w1 pT qT hx0 hc1 hC1 hH1 hf1 => ?_) (fun B1 T1 M1 ca1 rm1 w1 pT qT hx0 hc1 hC1 hH1 hf1 => ?_)
  · obtain ⟨A1, hMo1, hs1, hM1, hS1, hr1, -⟩ := J_cls hf1 hMo hs0 hM hS
    refine m_run hMo1 hs1 (m_begin hM1 hS1 (by omega) hws (by omega) (by omega) hs hp hsp kid eids eD hD.2.1.1.1 hD.2.1.2.1 hst hen (fun hy0 f2 A2 hy1 hM2 g16 hS2 => ?_) (fun hy0 hc2 f2 A2 T2 pU qU sU hM2 g16 hS2 => ?_) (fun hy0 hc2 f2 A2 T2 pU qU sU hM2 g16 hS2 => ?_) (fun hy0 hc2 f2 A2 T2 pU qU sU hM2 g16 hS2 => ?_))
    · intro B2 hF2 hs2
      have e1 : rc (A2 1) T0.length = rc (A1 1) T0.length := rc_MT hM2 hM1
      exact kN hy0 B2 (J_mk hF2 hs2 hC1 hH1 (f6_dev hdv) (fun _ _ => by rw [eids]) hM2 hS2 hKG hKs (st_keep h16 g16) hlk (by omega) (by omega) (by omega))
    · exact absurd hx0 hy0
    · exact absurd hx0 hy0
    · exact absurd hx0 hy0
  · obtain ⟨A1, hMo1, hs1, hM1, hS1, hr1, -⟩ := J_cls hf1 hMo hs0 hM hS
    refine m_run hMo1 hs1 (m_begin hM1 hS1 (by omega) hws (by omega) (by omega) hs hp hsp kid eids eD hD.2.1.1.1 hD.2.1.2.1 hst hen (fun hy0 f2 A2 hy1 hM2 g16 hS2 => ?_) (fun hy0 hc2 f2 A2 T2 pU qU sU hM2 g16 hS2 => ?_) (fun hy0 hc2 f2 A2 T2 pU qU sU hM2 g16 hS2 => ?_) (fun hy0 hc2 f2 A2 T2 pU qU sU hM2 g16 hS2 => ?_))
    · exact absurd hy0 hx0
    · intro B2 hF2 hs2
      rw [← hlen] at hC1
      exact k0 hy0 hc2 B2 (J_mk hF2 hs2 hC1 hH1 (f6_dev (f6_dev hdv)) (fun _ _ => by rw [eids]) hM2 hS2 hKG hKs (st_keep h16 g16) (lk_mono hlk pT (Nat.le_refl _)) (by omega) (by omega) (by omega))
    · exact absurd (hc1.symm.trans hc2) (by decide)
    · exact absurd (hc1.symm.trans hc2) (by decide)
  · obtain ⟨A1, hMo1, hs1, hM1, hS1, hr1, -⟩ := J_cls hf1 hMo hs0 hM hS
    refine m_run hMo1 hs1 (m_begin hM1 hS1 (by omega) hws (by omega) (by omega) hs hp hsp kid eids eD hD.2.1.1.1 hD.2.1.2.1 hst hen (fun hy0 f2 A2 hy1 hM2 g16 hS2 => ?_) (fun hy0 hc2 f2 A2 T2 pU qU sU hM2 g16 hS2 => ?_) (fun hy0 hc2 f2 A2 T2 pU qU sU hM2 g16 hS2 => ?_) (fun hy0 hc2 f2 A2 T2 pU qU sU hM2 g16 hS2 => ?_))
    · exact absurd hy0 hx0
    · exact absurd (hc1.symm.trans hc2) (by decide)
    · intro B2 hF2 hs2
      rw [← hlen] at hC1
      exact k1 hy0 hc2 B2 (J_mk hF2 hs2 hC1 hH1 (sw6_dev hs (f6_dev hdv)) (by rw [eids]; exact id_set (by rw [hid0])) hM2 hS2 hKG hKs (st_keep h16 g16) (lk_mono hlk pT (Nat.le_refl _)) (by omega) (by omega) (by omega))
    · exact absurd (hc1.symm.trans hc2) (by decide)
  · obtain ⟨A1, hMo1, hs1, hM1, hS1, hr1, -⟩ := J_cls hf1 hMo hs0 hM hS
    refine m_run hMo1 hs1 (m_begin hM1 hS1 (by omega) hws (by omega) (by omega) hs hp hsp kid eids eD hD.2.1.1.1 hD.2.1.2.1 hst hen (fun hy0 f2 A2 hy1 hM2 g16 hS2 => ?_) (fun hy0 hc2 f2 A2 T2 pU qU sU hM2 g16 hS2 => ?_) (fun hy0 hc2 f2 A2 T2 pU qU sU hM2 g16 hS2 => ?_) (fun hy0 hc2 f2 A2 T2 pU qU sU hM2 g16 hS2 => ?_))
    · exact absurd hy0 hx0
    · exact absurd (hc1.symm.trans hc2) (by decide)
    · exact absurd (hc1.symm.trans hc2) (by decide)
    · intro B2 hF2 hs2
      rw [← hlen] at hC1
      exact k2 hy0 hc2 B2 (J_mk hF2 hs2 hC1 hH1 (sw6_dev hs (f6_dev hdv)) (by rw [eids]; exact id_set (by rw [hid0])) hM2 hS2 hKG hKs (st_keep h16 g16) (lk_mono hlk pT (Nat.le_refl _)) (by omega) (by omega) (by omega))
