/-! The reference: publish -/
set_option maxRecDepth 100000 in
theorem l_mpub0 {sc : tm_X} {d : Nat} {f : Nat → Int32} {A : Nat → Nat → Int32} {p : Nat} {Q : Option Value → MS → Prop} (kk : ∀ lv : tm_L, lv.lookup 0 = some (.ref 1482) → lv.lookup 1 = some (.int (nI p)) →  mg sc (d + 5) 199 53 lv [] (f, fset A 15 (cpW (A 15) (A 15) 7 7)) Q) : ∀ (r k : Nat), k + r = 7 → ∀ lv : tm_L, lv.lookup 0 = some (.ref 1482) → lv.lookup 1 = some (.int (nI p)) →  lv.lookup 3 = some (.int (nI k)) → mg sc (d + 5) 199 24 lv [] (f, fset A 15 (cpW (A 15) (A 15) 7 k)) Q := by
  intro r
  induction r with
  | zero =>
    intro k hk lv l0 l1 l3
    have hk2 : k = 7 := by omega
    subst hk2
    refine m_ild (pc' := 25) cd_Mo_publish rfl (Or.inr ⟨_, rfl, rfl, rfl⟩) l3 rfl ?_
    refine m_k2 (v := 7) (pc' := 27) cd_Mo_publish rfl (by decide) rfl ?_
    refine m_if2 (t := 53) (pc' := 30) cd_Mo_publish rfl rfl rfl (fun c27 => ?_) (fun c27 => ?_)
    · have c27 : (7 : Int32) ≤ (nI 7) := c27
      exact kk lv l0 l1
    · have c27 : ¬ (7 : Int32) ≤ (nI 7) := c27
      exact absurd (show (7 : Int32) ≤ nI 7 from by decide) c27
  | succ r ih =>
    intro k hk lv l0 l1 l3
    refine m_ild (pc' := 25) cd_Mo_publish rfl (Or.inr ⟨_, rfl, rfl, rfl⟩) l3 rfl ?_
    refine m_k2 (v := 7) (pc' := 27) cd_Mo_publish rfl (by decide) rfl ?_
    refine m_if2 (t := 53) (pc' := 30) cd_Mo_publish rfl rfl rfl (fun c27 => ?_) (fun c27 => ?_)
    · have c27 : (7 : Int32) ≤ (nI k) := c27
      exact absurd c27 (nI_ge (b := 7) (by omega) (by decide))
    · have c27 : ¬ (7 : Int32) ≤ (nI k) := c27
      refine m_ald (pc' := 31) cd_Mo_publish rfl (Or.inr ⟨_, rfl, rfl, rfl⟩) l0 rfl rfl ?_
      refine m_fR (r := 14) (a := 15) (ad := 1497) (pc' := 34) rfl rfl cd_Mo_publish rfl rfl rfl rfl rfl ?_
      refine m_k2 (v := 7) (pc' := 36) cd_Mo_publish rfl (by decide) rfl ?_
      refine m_ild (pc' := 37) cd_Mo_publish rfl (Or.inr ⟨_, rfl, rfl, rfl⟩) l3 rfl ?_
      refine m_pure (pc' := 38) (st' := [.int ((7 : Int32) + (nI k)), .ref 1497]) cd_Mo_publish rfl rfl (fun _ _ => rfl) ?_
      refine m_eq (show ((7 : Int32) + (nI k) : Int32) = nI (7 + k) from nI_add 7 k) ?_
      refine m_ald (pc' := 39) cd_Mo_publish rfl (Or.inr ⟨_, rfl, rfl, rfl⟩) l0 rfl rfl ?_
      refine m_fR (r := 14) (a := 15) (ad := 1497) (pc' := 42) rfl rfl cd_Mo_publish rfl rfl rfl rfl rfl ?_
      refine m_k1 (v := 0) (pc' := 43) cd_Mo_publish rfl (by decide) rfl ?_
      refine m_ild (pc' := 44) cd_Mo_publish rfl (Or.inr ⟨_, rfl, rfl, rfl⟩) l3 rfl ?_
      refine m_pure (pc' := 45) (st' := [.int ((0 : Int32) + (nI k)), .ref 1497, .int (nI (7 + k)), .ref 1497]) cd_Mo_publish rfl rfl (fun _ _ => rfl) ?_
      refine m_eq (show ((0 : Int32) + (nI k) : Int32) = nI (0 + k) from nI_add 0 k) ?_
      refine m_aI (r := 14) (a := 15) (g := (cpW (A 15) (A 15) 7 k)) (x := (A 15 k)) (pc' := 46) rfl rfl cd_Mo_publish rfl rfl rfl (vp_in_nI (by omega) (by decide)) (by rw [(nI_clamp (by omega)), cpW_out (by omega), Nat.zero_add]) ?_
      refine m_aS (r := 14) (a := 15) (g := (cpW (A 15) (A 15) 7 k)) (p := (7 + k)) (pc' := 47) rfl rfl cd_Mo_publish rfl rfl rfl (vp_in_nI (by omega) (by decide)) (nI_clamp (by omega)) ?_
      refine m_inc (y := nI (k + 1)) (pc' := 50) cd_Mo_publish rfl l3 (by decide) (nI_add k 1) rfl (fun lv el => ?_)
      have l0 := tm_lk el l0 rfl (by decide)
      have l1 := tm_lk el l1 rfl (by decide)
      have l3 : lv.lookup 3 = some (.int (nI (k + 1))) := tm_lks el
      clear el
      refine m_pure (pc' := 24) (st' := []) cd_Mo_publish rfl rfl (fun _ _ => rfl) ?_
      rw [fset_fset, cpW_s]
      exact ih (k + 1) (by omega) lv l0 l1 l3
set_option maxRecDepth 100000 in
theorem l_mpub1 {sc : tm_X} {d : Nat} {f : Nat → Int32} {A : Nat → Nat → Int32} {p : Nat} {Q : Option Value → MS → Prop} (kk : ∀ lv : tm_L, lv.lookup 0 = some (.ref 1482) → lv.lookup 1 = some (.int (nI p)) →  mg sc (d + 5) 199 76 lv [] (f, fset A 15 (zW (A 15) 7)) Q) : ∀ (r k : Nat), k + r = 7 → ∀ lv : tm_L, lv.lookup 0 = some (.ref 1482) → lv.lookup 1 = some (.int (nI p)) →  lv.lookup 3 = some (.int (nI k)) → mg sc (d + 5) 199 55 lv [] (f, fset A 15 (zW (A 15) k)) Q := by
  intro r
  induction r with
  | zero =>
    intro k hk lv l0 l1 l3
    have hk2 : k = 7 := by omega
    subst hk2
    refine m_ild (pc' := 56) cd_Mo_publish rfl (Or.inr ⟨_, rfl, rfl, rfl⟩) l3 rfl ?_
    refine m_k2 (v := 7) (pc' := 58) cd_Mo_publish rfl (by decide) rfl ?_
    refine m_if2 (t := 76) (pc' := 61) cd_Mo_publish rfl rfl rfl (fun c58 => ?_) (fun c58 => ?_)
    · have c58 : (7 : Int32) ≤ (nI 7) := c58
      exact kk lv l0 l1
    · have c58 : ¬ (7 : Int32) ≤ (nI 7) := c58
      exact absurd (show (7 : Int32) ≤ nI 7 from by decide) c58
  | succ r ih =>
    intro k hk lv l0 l1 l3
    refine m_ild (pc' := 56) cd_Mo_publish rfl (Or.inr ⟨_, rfl, rfl, rfl⟩) l3 rfl ?_
    refine m_k2 (v := 7) (pc' := 58) cd_Mo_publish rfl (by decide) rfl ?_
    refine m_if2 (t := 76) (pc' := 61) cd_Mo_publish rfl rfl rfl (fun c58 => ?_) (fun c58 => ?_)
    · have c58 : (7 : Int32) ≤ (nI k) := c58
      exact absurd c58 (nI_ge (b := 7) (by omega) (by decide))
    · have c58 : ¬ (7 : Int32) ≤ (nI k) := c58
      refine m_ald (pc' := 62) cd_Mo_publish rfl (Or.inr ⟨_, rfl, rfl, rfl⟩) l0 rfl rfl ?_
      refine m_fR (r := 14) (a := 15) (ad := 1497) (pc' := 65) rfl rfl cd_Mo_publish rfl rfl rfl rfl rfl ?_
      refine m_k1 (v := 0) (pc' := 66) cd_Mo_publish rfl (by decide) rfl ?_
      refine m_ild (pc' := 67) cd_Mo_publish rfl (Or.inr ⟨_, rfl, rfl, rfl⟩) l3 rfl ?_
      refine m_pure (pc' := 68) (st' := [.int ((0 : Int32) + (nI k)), .ref 1497]) cd_Mo_publish rfl rfl (fun _ _ => rfl) ?_
      refine m_eq (show ((0 : Int32) + (nI k) : Int32) = nI (0 + k) from nI_add 0 k) ?_
      refine m_k1 (v := 0) (pc' := 69) cd_Mo_publish rfl (by decide) rfl ?_
      refine m_aS (r := 14) (a := 15) (g := (zW (A 15) k)) (p := (0 + k)) (pc' := 70) rfl rfl cd_Mo_publish rfl rfl rfl (vp_in_nI (by omega) (by decide)) (nI_clamp (by omega)) ?_
      refine m_inc (y := nI (k + 1)) (pc' := 73) cd_Mo_publish rfl l3 (by decide) (nI_add k 1) rfl (fun lv el => ?_)
      have l0 := tm_lk el l0 rfl (by decide)
      have l1 := tm_lk el l1 rfl (by decide)
      have l3 : lv.lookup 3 = some (.int (nI (k + 1))) := tm_lks el
      clear el
      refine m_pure (pc' := 55) (st' := []) cd_Mo_publish rfl rfl (fun _ _ => rfl) ?_
      rw [fset_fset, Nat.zero_add, zW_s]
      exact ih (k + 1) (by omega) lv l0 l1 l3
set_option maxRecDepth 100000 in
theorem mo_publish {sc : tm_X} {d : Nat} {f : Nat → Int32} {A : Nat → Nat → Int32} {T : List Tm} {DL : List (Int32 × Int32)} {G Kw : Tm → Prop} {dev : Nat → DV} {sto : Nat → ST} {ws : List (Tm × Int32)} {dir reg : Nat → Tm} {seen : List Tm} {ls : List RL} {lo dt db rt fl ll tl tf tg tm : Nat → Int32} {ck fo du : Int32} {id : Tm} {K0 K1 : PK} {on : List (Tm × Int32)} {lnu : Int32} {se : Nat → List SS} {me : Nat → MM} {p0 : Bool} {P O : EN2} {c : Option Nat} {p : Nat} {Q : Int32 → MS → Prop} (hM : MT f A T DL G Kw) (hS : RS f A T DL dev sto ws dir reg seen ls lo (dt, db, rt, fl, ll, tl, tf, tg, tm, ck, fo, du)) (hdl : DL.length ≤ 2960) (hws : ws.length ≤ 692) (hTl : T.length + 16 ≤ 4000) (hr : rc (A 1) T.length + 5 ≤ 1000) (hp : p < 6) (eD : dev p = (id, K0, K1, on, lnu, se, me)) (hz0 : K0.1 = tz ↔ K0.2.1 = 0) (hln : lnu + 1 ≠ 0) (kI : kd id = 1) (hk : ∀ e, e ∈ on → kd e.1 = 1) (hst : sto p = (p0, P, O, c, false)) (hen : (dv_en (id, (Tsec (nI DL.length) (nI p) 1, lnu + 1, []), K0, (on_fill (nI p) (4 - on.length) (DL.length + 1) (lnu + 1) on).1, (on_fill (nI p) (4 - on.length) (DL.length + 1) (lnu + 1) on).2, se, me)).length ≤ 536) (k0 : (st_commit p0 P c (dv_en (id, (Tsec (nI DL.length) (nI p) 1, lnu + 1, []), K0, (on_fill (nI p) (4 - on.length) (DL.length + 1) (lnu + 1) on).1, (on_fill (nI p) (4 - on.length) (DL.length + 1) (lnu + 1) on).2, se, me))).1 = 0 → ∀ f1 A1 T', T <+: T' → T'.length ≤ T.length + 16 → rc (A1 1) T'.length ≤ rc (A 1) T.length + 5 → MT f1 A1 T' (DL ++ [(nI p, 1)] ++ List.replicate (4 - on.length) (nI p, 0)) G Kw → f1 16 = f 16 → RS f1 A1 T' (DL ++ [(nI p, 1)] ++ List.replicate (4 - on.length) (nI p, 0)) dev (fset sto p (st_commit p0 P c (dv_en (id, (Tsec (nI DL.length) (nI p) 1, lnu + 1, []), K0, (on_fill (nI p) (4 - on.length) (DL.length + 1) (lnu + 1) on).1, (on_fill (nI p) (4 - on.length) (DL.length + 1) (lnu + 1) on).2, se, me))).2) ws dir reg seen ls (wl lo DL.length (((nI p, true) :: List.replicate (4 - on.length) (nI p, false)).map fun _ => -1)) (wl dt DL.length (((nI p, true) :: List.replicate (4 - on.length) (nI p, false)).map fun _ => ck + 1), wl db DL.length (((nI p, true) :: List.replicate (4 - on.length) (nI p, false)).map fun e => e.1), wl rt DL.length (((nI p, true) :: List.replicate (4 - on.length) (nI p, false)).map fun e => bz e.2), fl, ll, tl, tf, tg, tm, ck + 1, fo, du) → Q (-4) (f1, A1)) (k1 : (st_commit p0 P c (dv_en (id, (Tsec (nI DL.length) (nI p) 1, lnu + 1, []), K0, (on_fill (nI p) (4 - on.length) (DL.length + 1) (lnu + 1) on).1, (on_fill (nI p) (4 - on.length) (DL.length + 1) (lnu + 1) on).2, se, me))).1 = 1 → ∀ f1 A1 T', T <+: T' → T'.length ≤ T.length + 16 → rc (A1 1) T'.length ≤ rc (A 1) T.length + 5 → MT f1 A1 T' (DL ++ [(nI p, 1)] ++ List.replicate (4 - on.length) (nI p, 0)) G Kw → f1 16 = f 16 → RS f1 A1 T' (DL ++ [(nI p, 1)] ++ List.replicate (4 - on.length) (nI p, 0)) (fset dev p (id, (Tsec (nI DL.length) (nI p) 1, lnu + 1, []), K0, (on_fill (nI p) (4 - on.length) (DL.length + 1) (lnu + 1) on).1, (on_fill (nI p) (4 - on.length) (DL.length + 1) (lnu + 1) on).2, se, me)) (fset sto p (st_commit p0 P c (dv_en (id, (Tsec (nI DL.length) (nI p) 1, lnu + 1, []), K0, (on_fill (nI p) (4 - on.length) (DL.length + 1) (lnu + 1) on).1, (on_fill (nI p) (4 - on.length) (DL.length + 1) (lnu + 1) on).2, se, me))).2) ws dir reg seen ls (wl lo DL.length (((nI p, true) :: List.replicate (4 - on.length) (nI p, false)).map fun _ => -1)) (wl dt DL.length (((nI p, true) :: List.replicate (4 - on.length) (nI p, false)).map fun _ => ck + 1), wl db DL.length (((nI p, true) :: List.replicate (4 - on.length) (nI p, false)).map fun e => e.1), wl rt DL.length (((nI p, true) :: List.replicate (4 - on.length) (nI p, false)).map fun e => bz e.2), fl, ll, tl, tf, tg, tm, ck + 1, fo, du) → Q (-4) (f1, A1)) (k2 : (st_commit p0 P c (dv_en (id, (Tsec (nI DL.length) (nI p) 1, lnu + 1, []), K0, (on_fill (nI p) (4 - on.length) (DL.length + 1) (lnu + 1) on).1, (on_fill (nI p) (4 - on.length) (DL.length + 1) (lnu + 1) on).2, se, me))).1 = 2 → ∀ f1 A1 T', T <+: T' → T'.length ≤ T.length + 16 → rc (A1 1) T'.length ≤ rc (A 1) T.length + 5 → MT f1 A1 T' (DL ++ [(nI p, 1)] ++ List.replicate (4 - on.length) (nI p, 0)) (fun y => (G y ∨ (y = (Tsg id (Trw 1 (nI p) (lnu + 1) 0 0 (Tpub (Tsec (nI DL.length) (nI p) 1)) tz tz tz)) ∧ (Tsg id (Trw 1 (nI p) (lnu + 1) 0 0 (Tpub (Tsec (nI DL.length) (nI p) 1)) tz tz tz)) ≠ tz)) ∨ y ∈ (on_fill (nI p) (4 - on.length) (DL.length + 1) (lnu + 1) on).1.map (kr (nI p))) Kw → (f1 16 = 1 ∨ (f1 16 = f 16 ∧ ∀ y, (y = (Tsg id (Trw 1 (nI p) (lnu + 1) 0 0 (Tpub (Tsec (nI DL.length) (nI p) 1)) tz tz tz)) ∨ y ∈ (on_fill (nI p) (4 - on.length) (DL.length + 1) (lnu + 1) on).1.map (kr (nI p))) → G y)) → RS f1 A1 T' (DL ++ [(nI p, 1)] ++ List.replicate (4 - on.length) (nI p, 0)) (fset dev p (id, (Tsec (nI DL.length) (nI p) 1, lnu + 1, []), K0, (on_fill (nI p) (4 - on.length) (DL.length + 1) (lnu + 1) on).1, (on_fill (nI p) (4 - on.length) (DL.length + 1) (lnu + 1) on).2, se, me)) (fset sto p (st_commit p0 P c (dv_en (id, (Tsec (nI DL.length) (nI p) 1, lnu + 1, []), K0, (on_fill (nI p) (4 - on.length) (DL.length + 1) (lnu + 1) on).1, (on_fill (nI p) (4 - on.length) (DL.length + 1) (lnu + 1) on).2, se, me))).2) ws (an_dir p (nI p) (on_fill (nI p) (4 - on.length) (DL.length + 1) (lnu + 1) on).1 0 (fset dir (p * 5 + 0) (Tsg id (Trw 1 (nI p) (lnu + 1) 0 0 (Tpub (Tsec (nI DL.length) (nI p) 1)) tz tz tz)))) reg seen ls (wl lo DL.length (((nI p, true) :: List.replicate (4 - on.length) (nI p, false)).map fun _ => -1)) (wl dt DL.length (((nI p, true) :: List.replicate (4 - on.length) (nI p, false)).map fun _ => ck + 1), wl db DL.length (((nI p, true) :: List.replicate (4 - on.length) (nI p, false)).map fun e => e.1), wl rt DL.length (((nI p, true) :: List.replicate (4 - on.length) (nI p, false)).map fun e => bz e.2), fl, ll, tl, tf, tg, tm, ck + 1, fo, du) → Q (lnu + 1) (f1, A1)) : mGi sc (d + 6) 199 [.ref 1482, .int (nI p)] (f, A) Q := by
  have hq0 := hS.1.2.2 p hp
  rw [hst] at hq0
  have h40 := hS.2.1.1.1.1
  have h11 : f 11 = nI DL.length := hS.2.2.2.1.1
  have h21 : f 21 = ck := hS.2.2.2.1.2.1
  have hdv := hS.1.2.1 p hp
  rw [eD] at hdv
  have hid : tv T (A 16 p) id := by have q := hS.1.1 p hp; rw [eD] at q; exact q
  have ho4 := hdv.2.1.1.1.2
  have hTl2 := MT_len hM
  show mg sc (d + 6) 199 0 [(0, .ref 1482), (1, .int (nI p))] [] (f, A) _
  generalize elv : ([(0, .ref 1482), (1, .int (nI p))] : tm_L) = lv
  have l0 : lv.lookup 0 = some (.ref 1482) := by rw [← elv]; rfl
  have l1 : lv.lookup 1 = some (.int (nI p)) := by rw [← elv]; rfl
  clear elv
  refine m_ald (pc' := 1) cd_Mo_publish rfl (Or.inr ⟨_, rfl, rfl, rfl⟩) l0 rfl rfl ?_
  refine m_ild (pc' := 2) cd_Mo_publish rfl (Or.inr ⟨_, rfl, rfl, rfl⟩) l1 rfl ?_
  refine m_si (pc' := 5) cd_Mo_publish rfl rfl rfl rfl rfl cd_Mo_isDevice rfl (Nat.le_of_ble_eq_true rfl) (m_isDev1 hp ?_)
  show mg _ _ _ 5 _ [.int 1, .ref 1482] _ _
  refine m_k1 (v := 1) (pc' := 6) cd_Mo_publish rfl (by decide) rfl ?_
  refine m_ild (pc' := 7) cd_Mo_publish rfl (Or.inr ⟨_, rfl, rfl, rfl⟩) l1 rfl ?_
  refine m_ci (pc' := 10) cd_Mo_publish rfl rfl rfl rfl rfl cd_Mo_refused rfl (Nat.le_of_ble_eq_true rfl) (m_refused (b := true) (mk := true) (dn := false) (p := p) h11 hdl h40 hws hp hq0.1.2.2.1 (fun q => nomatch q) (fun _ q => nomatch q) (fun _ _ => ?_))
  show mg _ _ _ 10 _ [.int 0] _ _
  refine m_ist (pc' := 11) cd_Mo_publish rfl (Or.inr ⟨_, rfl, rfl, rfl⟩) (by decide) rfl (fun lv el => ?_)
  have l0 := tm_lk el l0 rfl (by decide)
  have l1 := tm_lk el l1 rfl (by decide)
  have l2 : lv.lookup 2 = some (.int 0) := tm_lks el
  clear el
  refine m_ild (pc' := 12) cd_Mo_publish rfl (Or.inr ⟨_, rfl, rfl, rfl⟩) l2 rfl ?_
  refine m_if1 (t := 17) (pc' := 15) cd_Mo_publish rfl rfl rfl (fun c12 => ?_) (fun c12 => ?_)
  · have c12 : (0 : Int32) = 0 := c12
    refine m_ald (pc' := 18) cd_Mo_publish rfl (Or.inr ⟨_, rfl, rfl, rfl⟩) l0 rfl rfl ?_
    refine m_ild (pc' := 19) cd_Mo_publish rfl (Or.inr ⟨_, rfl, rfl, rfl⟩) l1 rfl ?_
    refine m_cv (pc' := 22) cd_Mo_publish rfl rfl rfl rfl rfl cd_Mo_load rfl (Nat.le_of_ble_eq_true rfl) (m_load hp (fun gw hgw => ?_))
    have hDw : qDv gw T (id, K0, K1, on, lnu, se, me) := qDv_c (List.prefix_refl T) hgw hdv
    show mg _ _ _ 22 _ [] _ _
    refine m_k1 (v := 0) (pc' := 23) cd_Mo_publish rfl (by decide) rfl ?_
    refine m_ist (pc' := 24) cd_Mo_publish rfl (Or.inr ⟨_, rfl, rfl, rfl⟩) (by decide) rfl (fun lv el => ?_)
    have l0 := tm_lk el l0 rfl (by decide)
    have l1 := tm_lk el l1 rfl (by decide)
    have l2 := tm_lk el l2 rfl (by decide)
    have l3 : lv.lookup 3 = some (.int 0) := tm_lks el
    clear el
    rw [show fset A 15 gw = fset (fset A 15 gw) 15 (cpW ((fset A 15 gw) 15) ((fset A 15 gw) 15) 7 0) from (by rw [cpW_0, fset_id])]
    refine l_mpub0 (fun lv l0 l1 => ?_) 7 0 rfl lv l0 l1 l3
    refine m_k1 (v := 0) (pc' := 54) cd_Mo_publish rfl (by decide) rfl ?_
    refine m_ist (pc' := 55) cd_Mo_publish rfl (Or.inr ⟨_, rfl, rfl, rfl⟩) (by decide) rfl (fun lv el => ?_)
    have l0 := tm_lk el l0 rfl (by decide)
    have l1 := tm_lk el l1 rfl (by decide)
    have l3 : lv.lookup 3 = some (.int 0) := tm_lks el
    clear el
    rw [show (fset (fset A 15 gw) 15 (cpW ((fset A 15 gw) 15) ((fset A 15 gw) 15) 7 7)) = fset (fset (fset A 15 gw) 15 (cpW gw gw 7 7)) 15 (zW ((fset (fset A 15 gw) 15 (cpW gw gw 7 7)) 15) 0) from (by rw [zW_0, fset_id]; rfl)]
    refine l_mpub1 (fun lv l0 l1 => ?_) 7 0 rfl lv l0 l1 l3
    have g23 : zW (cpW gw gw 7 7) 7 23 = lnu := by
      unfold zW
      rw [if_neg (by omega), cpW_out (by omega)]
      exact hDw.2.1.2
    refine m_ald (pc' := 77) cd_Mo_publish rfl (Or.inr ⟨_, rfl, rfl, rfl⟩) l0 rfl rfl ?_
    refine m_fR (r := 14) (a := 15) (ad := 1497) (pc' := 80) rfl rfl cd_Mo_publish rfl rfl rfl rfl rfl ?_
    refine m_k1 (v := 0) (pc' := 81) cd_Mo_publish rfl (by decide) rfl ?_
    refine m_ald (pc' := 82) cd_Mo_publish rfl (Or.inr ⟨_, rfl, rfl, rfl⟩) l0 rfl rfl ?_
    refine m_ild (pc' := 83) cd_Mo_publish rfl (Or.inr ⟨_, rfl, rfl, rfl⟩) l1 rfl ?_
    refine m_k1 (v := 1) (pc' := 84) cd_Mo_publish rfl (by decide) rfl ?_
    refine m_ci (pc' := 87) cd_Mo_publish rfl rfl rfl rfl rfl cd_Mo_drawn rfl (Nat.le_of_ble_eq_true rfl) (m_drawn (rt := true) (xd := (nI p)) (xp := 1) (by exact MT_i hM rfl rfl rfl rfl rfl rfl rfl rfl rfl rfl) (by omega) (by show rc (A 1) T.length < 1000; omega) h11 (by omega) (fun f1 A1 T1 r1 hx1 hr1 => ?_))
    obtain ⟨p1, q1, s1, hM1⟩ := hx1
    have hM1 : MT f1 A1 T1 _ _ _ := MT_i hM1 rfl rfl rfl rfl rfl rfl rfl rfl rfl rfl
    have s1 : rc (A1 1) T1.length ≤ rc (A 1) T.length + 0 := s1
    show mg _ _ _ 87 _ [.int r1, .int 0, .ref 1497] _ _
    refine m_aS (r := 14) (a := 15) (g := (zW (cpW gw gw 7 7) 7)) (p := 0) (pc' := 88) rfl rfl cd_Mo_publish rfl rfl rfl (vp_in_nI (n := 0) (by decide) (by decide)) (show (0 : Int32).toNatClampNeg = 0 by decide) ?_
    refine m_ald (pc' := 89) cd_Mo_publish rfl (Or.inr ⟨_, rfl, rfl, rfl⟩) l0 rfl rfl ?_
    refine m_fR (r := 14) (a := 15) (ad := 1497) (pc' := 92) rfl rfl cd_Mo_publish rfl rfl rfl rfl rfl ?_
    refine m_k2 (v := 23) (pc' := 94) cd_Mo_publish rfl (by decide) rfl ?_
    refine m_pure (pc' := 95) (st' := [.int 23, .ref 1497, .int 23, .ref 1497]) cd_Mo_publish rfl rfl (fun _ _ => rfl) ?_
    refine m_aI (r := 14) (a := 15) (g := (upd (zW (cpW gw gw 7 7) 7) 0 r1)) (x := lnu) (pc' := 96) rfl rfl cd_Mo_publish rfl rfl rfl (vp_in_nI (n := 23) (by decide) (by decide)) (by rw [(show (23 : Int32).toNatClampNeg = 23 by decide), upd_ne (by omega)]; exact g23) ?_
    refine m_k1 (v := 1) (pc' := 97) cd_Mo_publish rfl (by decide) rfl ?_
    refine m_pure (pc' := 98) (st' := [.int (lnu + 1), .int 23, .ref 1497]) cd_Mo_publish rfl rfl (fun _ _ => rfl) ?_
    refine m_aS (r := 14) (a := 15) (g := (upd (zW (cpW gw gw 7 7) 7) 0 r1)) (p := 23) (pc' := 99) rfl rfl cd_Mo_publish rfl rfl rfl (vp_in_nI (n := 23) (by decide) (by decide)) (show (23 : Int32).toNatClampNeg = 23 by decide) ?_
    rw [fset_fset]
    refine m_ald (pc' := 100) cd_Mo_publish rfl (Or.inr ⟨_, rfl, rfl, rfl⟩) l0 rfl rfl ?_
    refine m_fR (r := 14) (a := 15) (ad := 1497) (pc' := 103) rfl rfl cd_Mo_publish rfl rfl rfl rfl rfl ?_
    refine m_k1 (v := 1) (pc' := 104) cd_Mo_publish rfl (by decide) rfl ?_
    refine m_ald (pc' := 105) cd_Mo_publish rfl (Or.inr ⟨_, rfl, rfl, rfl⟩) l0 rfl rfl ?_
    refine m_fR (r := 14) (a := 15) (ad := 1497) (pc' := 108) rfl rfl cd_Mo_publish rfl rfl rfl rfl rfl ?_
    refine m_k2 (v := 23) (pc' := 110) cd_Mo_publish rfl (by decide) rfl ?_
    refine m_aI (r := 14) (a := 15) (g := (upd (upd (zW (cpW gw gw 7 7) 7) 0 r1) 23 (lnu + 1))) (x := (lnu + 1)) (pc' := 111) rfl rfl cd_Mo_publish rfl rfl rfl (vp_in_nI (n := 23) (by decide) (by decide)) (by rw [(show (23 : Int32).toNatClampNeg = 23 by decide), upd_same]) ?_
    refine m_aS (r := 14) (a := 15) (g := (upd (upd (zW (cpW gw gw 7 7) 7) 0 r1) 23 (lnu + 1))) (p := 1) (pc' := 112) rfl rfl cd_Mo_publish rfl rfl rfl (vp_in_nI (n := 1) (by decide) (by decide)) (show (1 : Int32).toNatClampNeg = 1 by decide) ?_
    rw [fset_fset]
    have hO1 : qOn (upd (upd (upd (zW (cpW gw gw 7 7) 7) 0 r1) 23 (lnu + 1)) 1 (lnu + 1)) T1 on := qOn_c p1 (fun k k1 k2 => by rw [upd_ne (by omega), upd_ne (by omega), upd_ne (by omega)]; unfold zW; rw [if_neg (by omega), cpW_out (by omega)]) hDw.2.1.1
    have h231 : (upd (upd (upd (zW (cpW gw gw 7 7) 7) 0 r1) 23 (lnu + 1)) 1 (lnu + 1)) 23 = lnu + 1 := by rw [upd_ne (by omega), upd_same]
    have hdl1 : (DL ++ [(nI p, (1 : Int32))]).length = DL.length + 1 := by simp
    have G15 : ∀ k, 14 ≤ k → k ≠ 23 → (upd (upd (upd (zW (cpW gw gw 7 7) 7) 0 r1) 23 (lnu + 1)) 1 (lnu + 1)) k = gw k := fun k k1 k2 => by rw [upd_ne (by omega), upd_ne (by omega), upd_ne (by omega)]; unfold zW; rw [if_neg (by omega), cpW_out (by omega)]
    have G7 : ∀ k, 7 ≤ k → k < 14 → (upd (upd (upd (zW (cpW gw gw 7 7) 7) 0 r1) 23 (lnu + 1)) 1 (lnu + 1)) k = gw (k - 7) := fun k k1 k2 => by rw [upd_ne (by omega), upd_ne (by omega), upd_ne (by omega)]; unfold zW; rw [if_neg (by omega)]; unfold cpW; rw [if_pos (by omega)]
    have Gr : (upd (upd (upd (zW (cpW gw gw 7 7) 7) 0 r1) 23 (lnu + 1)) 1 (lnu + 1)) 0 = r1 := by rw [upd_ne (by omega), upd_ne (by omega), upd_same]
    have G1 : (upd (upd (upd (zW (cpW gw gw 7 7) 7) 0 r1) 23 (lnu + 1)) 1 (lnu + 1)) 1 = lnu + 1 := by rw [upd_same]
    have Gz : (upd (upd (upd (zW (cpW gw gw 7 7) 7) 0 r1) 23 (lnu + 1)) 1 (lnu + 1)) 2 = 0 := by rw [upd_ne (by omega), upd_ne (by omega), upd_ne (by omega), zW_z (by omega)]
    refine l_mpubL (4 - on.length) _ _ T1 (DL ++ [(nI p, 1)]) on (lnu + 1) (by omega) (by exact MT_i hM1 rfl rfl rfl rfl rfl rfl rfl rfl rfl rfl) (by omega) (by show rc (A1 1) _ < 1000; omega) (show nI (List.length DL + 1) = _ by rw [hdl1]) (by rw [hdl1]; omega) hO1 h231 (fun f2 A2 T2 lv p2 q2 s2 hM2 ef2 eA2 e11 hdw hO2 h232 h15 l0 l1 => ?_) lv l0 l1
    have s2 : rc (A2 1) T2.length ≤ rc (A1 1) T1.length := s2
    rw [hdl1] at e11 hdw hO2 h232
    have p12 := p1.trans p2
    have e112 : f2 11 = nI (List.length (DL ++ [(nI p, 1)] ++ List.replicate (4 - on.length) (nI p, 0))) := by rw [e11]; congr 1; simp; omega
    have e212 : f2 21 = ck + 1 := (ef2 21 (by decide)).trans (show f 21 + 1 = _ by rw [h21])
    have e53 : f2 53 = f 53 := (ef2 53 (by decide)).trans rfl
    have e54 : f2 54 = f 54 := (ef2 54 (by decide)).trans rfl
    have e63 : f2 63 = f 63 := (ef2 63 (by decide)).trans rfl
    have e40 : f2 40 = f 40 := (ef2 40 (by decide)).trans rfl
    have e43 : f2 43 = f 43 := (ef2 43 (by decide)).trans rfl
    have hdw1 : dws A A2 DL.length (ck + 1) ((nI p, true) :: List.replicate (4 - on.length) (nI p, false)) := by
      rw [← h21]
      refine dws_app (l := [(nI p, true)]) ?_ hdw
      exact ⟨rfl, rfl, rfl, rfl⟩
    have hd10 := hdw1.1.trans (congrArg (fun z => wl z DL.length _) hS.2.2.2.2.1.1)
    have hd11 := hdw1.2.1.trans (congrArg (fun z => wl z DL.length _) hS.2.2.2.2.1.2.1)
    have hd12 := hdw1.2.2.1.trans (congrArg (fun z => wl z DL.length _) hS.2.2.2.2.1.2.2)
    have hd13 := hdw1.2.2.2.trans (congrArg (fun z => wl z DL.length _) hS.2.2.1.2)
    have hND : qDv (A2 15) T2 (id, (Tsec (nI DL.length) (nI p) 1, lnu + 1, []), K0, (on_fill (nI p) (4 - on.length) (DL.length + 1) (lnu + 1) on).1, (on_fill (nI p) (4 - on.length) (DL.length + 1) (lnu + 1) on).2, se, me) := by
      obtain ⟨⟨k1, k2⟩, ⟨k3, k4⟩, k5, k6⟩ := hDw
      have E : ∀ k, 24 ≤ k → A2 15 k = gw k := fun k hk => (h15 k (Or.inr hk)).trans (G15 k (by omega) (by omega))
      refine ⟨⟨⟨⟨?_, ?_, ?_, Nat.zero_le _⟩, fun i X hX => by simp at hX⟩, ?_⟩, ⟨hO2, h232⟩, fun q hq => qSs_c hq p12 (fun k hk => E k (by omega)) (k5 q hq), fun q hq => qMm_c p12 (fun k k1 _ => E k (by omega)) (k6 q hq)⟩
      · rw [h15 0 (by omega)]; show tv T2 ((upd (upd (upd (zW (cpW gw gw 7 7) 7) 0 r1) 23 (lnu + 1)) 1 (lnu + 1)) 0) _; rw [Gr]; exact tv_mono p2 hr1
      · rw [h15 1 (by omega)]; exact G1
      · rw [h15 2 (by omega)]; exact Gz
      · obtain ⟨⟨j1, j2, j3, j4⟩, j5⟩ := k1
        have F : ∀ k, k < 7 → A2 15 (7 + k) = gw (0 + k) := fun k hk => (h15 _ (by omega)).trans ((G7 _ (by omega) (by omega)).trans (by congr 1; omega))
        exact ⟨⟨by rw [F 0 (by decide)]; exact tv_mono p12 j1, (F 1 (by decide)).trans j2, (F 2 (by decide)).trans j3, j4⟩, fun i X hX => by have hi := (List.getElem?_eq_some_iff.mp hX).1; have q := j5 i X hX; rw [show 7 + 3 + i = 7 + (3 + i) by omega, F _ (by omega), show 0 + (3 + i) = 0 + 3 + i by omega]; exact tv_mono p12 q⟩
    refine m_ald (pc' := 188) cd_Mo_publish rfl (Or.inr ⟨_, rfl, rfl, rfl⟩) l0 rfl rfl ?_
    refine m_ild (pc' := 189) cd_Mo_publish rfl (Or.inr ⟨_, rfl, rfl, rfl⟩) l1 rfl ?_
    refine m_ci (pc' := 192) cd_Mo_publish rfl rfl rfl rfl rfl cd_Mo_commits rfl (Nat.le_of_ble_eq_true rfl) (m_commits0 (NW := []) (f := f2) (A := A2) hM2 (RS_p (dt' := wl dt DL.length (((nI p, true) :: List.replicate (4 - on.length) (nI p, false)).map fun _ => ck + 1)) (db' := wl db DL.length (((nI p, true) :: List.replicate (4 - on.length) (nI p, false)).map fun (e : Int32 × Bool) => e.1)) (rt' := wl rt DL.length (((nI p, true) :: List.replicate (4 - on.length) (nI p, false)).map fun (e : Int32 × Bool) => bz e.2)) (lo' := (wl lo DL.length (((nI p, true) :: List.replicate (4 - on.length) (nI p, false)).map fun _ => -1))) hS p12 e112 e212 ⟨e53, e54, e63, e40, e43⟩ ⟨(eA2 14 (by decide)).trans rfl, (eA2 16 (by decide)).trans rfl, (eA2 18 (by decide)).trans rfl, (eA2 19 (by decide)).trans rfl, (eA2 20 (by decide)).trans rfl, (eA2 21 (by decide)).trans rfl, (eA2 22 (by decide)).trans rfl, (eA2 23 (by decide)).trans rfl, (eA2 24 (by decide)).trans rfl, (eA2 25 (by decide)).trans rfl, (eA2 28 (by decide)).trans rfl, (eA2 29 (by decide)).trans rfl, (eA2 30 (by decide)).trans rfl, (eA2 31 (by decide)).trans rfl, (eA2 32 (by decide)).trans rfl, (eA2 33 (by decide)).trans rfl, (eA2 34 (by decide)).trans rfl, (eA2 35 (by decide)).trans rfl, (eA2 36 (by decide)).trans rfl, (eA2 37 (by decide)).trans rfl, (eA2 38 (by decide)).trans rfl, (eA2 39 (by decide)).trans rfl, (eA2 40 (by decide)).trans rfl, (eA2 41 (by decide)).trans rfl, (eA2 42 (by decide)).trans rfl, (eA2 45 (by decide)).trans rfl, (eA2 46 (by decide)).trans rfl⟩ (fun i hi => by rw [eA2 17 (by decide)]; exact tv_mono p12 (hS.2.1.2.1 i hi)) hd10 hd11 hd12 hd13) hp (by rw [eD]) hND (by constructor; intro q; exact absurd q (fun z => nomatch z); intro q; exact absurd q hln) hz0 hen hst ((ef2 30 (by decide)).trans rfl) (by decide) (fun i X q => by simp at q) (fun X q => absurd q List.not_mem_nil) (by simp only [List.length_nil]; omega) ((ef2 32 (by decide)).trans rfl) (fun hc f3_ A3_ hM3 e16 hS3 => ?_) (fun hc f3_ A3_ hM3 e16 hS3 => ?_) (fun hc f3_ A3_ hM3 e16 hS3 => ?_))
    · skip
      show mg _ _ _ 192 _ [.int 0] _ _
      refine m_if1 (t := 198) (pc' := 195) cd_Mo_publish rfl rfl rfl (fun c192 => ?_) (fun c192 => ?_)
      · exact absurd (show ¬ (0 : Int32) = 0 from c192) (by decide)
      · have c192 : (0 : Int32) = 0 := Classical.not_not.mp c192
        refine m_k2 (v := (-4)) (pc' := 197) cd_Mo_publish rfl (by decide) rfl ?_
        exact m_reti cd_Mo_publish rfl ⟨_, rfl, (k0 hc _ _ T2 p12 (by omega) (by show rc (A2 1) _ ≤ _; omega) hM3 (e16.trans ((ef2 16 (by decide)).trans rfl)) hS3)⟩
    · skip
      show mg _ _ _ 192 _ [.int 0] _ _
      refine m_if1 (t := 198) (pc' := 195) cd_Mo_publish rfl rfl rfl (fun c192 => ?_) (fun c192 => ?_)
      · exact absurd (show ¬ (0 : Int32) = 0 from c192) (by decide)
      · have c192 : (0 : Int32) = 0 := Classical.not_not.mp c192
        refine m_k2 (v := (-4)) (pc' := 197) cd_Mo_publish rfl (by decide) rfl ?_
        exact m_reti cd_Mo_publish rfl ⟨_, rfl, (k1 hc _ _ T2 p12 (by omega) (by show rc (A2 1) _ ≤ _; omega) hM3 (e16.trans ((ef2 16 (by decide)).trans rfl)) hS3)⟩
    · skip
      have hM3 := MT_G hM3 (G' := G) (W' := Kw) (fun y => ⟨fun q => q.elim (fun z => z) (fun q => absurd q List.not_mem_nil), Or.inl⟩) (fun _ => Iff.rfl)
      rw [List.map_nil, List.append_nil] at hS3
      show mg _ _ _ 192 _ [.int 1] _ _
      refine m_if1 (t := 198) (pc' := 195) cd_Mo_publish rfl rfl rfl (fun c192 => ?_) (fun c192 => ?_)
      · have c192 : ¬ (1 : Int32) = 0 := c192
        have w0 : tv T2 (A2 15 0) (Tsec (nI DL.length) (nI p) 1) := hND.1.1.1.1
        have w1 : A2 15 1 = lnu + 1 := hND.1.1.1.2.1
        have hid2 := tv_mono p12 hid
        refine m_ald (pc' := 199) cd_Mo_publish rfl (Or.inr ⟨_, rfl, rfl, rfl⟩) l0 rfl rfl ?_
        refine m_k1 (v := 5) (pc' := 200) cd_Mo_publish rfl (by decide) rfl ?_
        refine m_ild (pc' := 201) cd_Mo_publish rfl (Or.inr ⟨_, rfl, rfl, rfl⟩) l1 rfl ?_
        refine m_pure (pc' := 202) (st' := [.int ((5 : Int32) * (nI p)), .ref 1482]) cd_Mo_publish rfl rfl (fun _ _ => rfl) ?_
        refine m_eq (show ((5 : Int32) * (nI p) : Int32) = nI (5 * p) from pk_mul 5 p) ?_
        refine m_ald (pc' := 203) cd_Mo_publish rfl (Or.inr ⟨_, rfl, rfl, rfl⟩) l0 rfl rfl ?_
        refine m_k2 (v := 6) (pc' := 205) cd_Mo_publish rfl (by decide) rfl ?_
        refine m_ald (pc' := 206) cd_Mo_publish rfl (Or.inr ⟨_, rfl, rfl, rfl⟩) l0 rfl rfl ?_
        refine m_fR (r := 15) (a := 16) (ad := 1498) (pc' := 209) rfl rfl cd_Mo_publish rfl rfl rfl rfl rfl ?_
        refine m_ild (pc' := 210) cd_Mo_publish rfl (Or.inr ⟨_, rfl, rfl, rfl⟩) l1 rfl ?_
        refine m_aI (r := 15) (a := 16) (g := ((mjCA A3_ A2) 16)) (x := (A 16 p)) (pc' := 211) rfl rfl cd_Mo_publish rfl rfl rfl (vp_in_nI (by omega) (by decide)) ((congrArg (A2 16) (nI_clamp (by omega))).trans (congrFun (eA2 16 (by decide)) p)) ?_
        refine m_ald (pc' := 212) cd_Mo_publish rfl (Or.inr ⟨_, rfl, rfl, rfl⟩) l0 rfl rfl ?_
        refine m_k1 (v := 1) (pc' := 213) cd_Mo_publish rfl (by decide) rfl ?_
        refine m_ild (pc' := 214) cd_Mo_publish rfl (Or.inr ⟨_, rfl, rfl, rfl⟩) l1 rfl ?_
        refine m_ald (pc' := 215) cd_Mo_publish rfl (Or.inr ⟨_, rfl, rfl, rfl⟩) l0 rfl rfl ?_
        refine m_fR (r := 14) (a := 15) (ad := 1497) (pc' := 218) rfl rfl cd_Mo_publish rfl rfl rfl rfl rfl ?_
        refine m_k1 (v := 1) (pc' := 219) cd_Mo_publish rfl (by decide) rfl ?_
        refine m_aI (r := 14) (a := 15) (g := ((mjCA A3_ A2) 15)) (x := (lnu + 1)) (pc' := 220) rfl rfl cd_Mo_publish rfl rfl rfl (vp_in_nI (n := 1) (by decide) (by decide)) ((congrArg (A2 15) (show (1 : Int32).toNatClampNeg = 1 by decide)).trans w1) ?_
        refine m_k1 (v := 0) (pc' := 221) cd_Mo_publish rfl (by decide) rfl ?_
        refine m_k1 (v := 0) (pc' := 222) cd_Mo_publish rfl (by decide) rfl ?_
        refine m_ald (pc' := 223) cd_Mo_publish rfl (Or.inr ⟨_, rfl, rfl, rfl⟩) l0 rfl rfl ?_
        refine m_ald (pc' := 224) cd_Mo_publish rfl (Or.inr ⟨_, rfl, rfl, rfl⟩) l0 rfl rfl ?_
        refine m_fR (r := 14) (a := 15) (ad := 1497) (pc' := 227) rfl rfl cd_Mo_publish rfl rfl rfl rfl rfl ?_
        refine m_k1 (v := 0) (pc' := 228) cd_Mo_publish rfl (by decide) rfl ?_
        refine m_aI (r := 14) (a := 15) (g := ((mjCA A3_ A2) 15)) (x := (A2 15 0)) (pc' := 229) rfl rfl cd_Mo_publish rfl rfl rfl (vp_in_nI (n := 0) (by decide) (by decide)) (congrArg (A2 15) (show (0 : Int32).toNatClampNeg = 0 by decide)) ?_
        refine m_ci (pc' := 232) cd_Mo_publish rfl rfl rfl rfl rfl cd_Mo_publicOf rfl (Nat.le_of_ble_eq_true rfl) (m_publicOf (by exact MT_i hM3 rfl rfl rfl rfl rfl rfl rfl rfl rfl rfl) (by omega) (by show rc (A2 1) T2.length < 1000; omega) w0 rfl (fun f3 A3 T3 r3 hx3 hr3 => ?_))
        obtain ⟨p3, q3, s3, hM3⟩ := hx3
        have hM3 : MT f3 A3 T3 _ _ _ := MT_i hM3 rfl rfl rfl rfl rfl rfl rfl rfl rfl rfl
        have s3 : rc (A3 1) T3.length ≤ rc (A2 1) T2.length + 0 := s3
        show mg _ _ _ 232 _ [.int r3, .int 0, .int 0, .int ((lnu + 1)), .int (nI p), .int 1, .ref 1482, .int ((A 16 p)), .int 6, .ref 1482, .int (nI (5 * p)), .ref 1482] _ _
        refine m_k1 (v := 0) (pc' := 233) cd_Mo_publish rfl (by decide) rfl ?_
        refine m_ci (pc' := 236) cd_Mo_publish rfl rfl rfl rfl rfl cd_Mo_rowOf rfl (Nat.le_of_ble_eq_true rfl) (m_rowOf (by exact MT_i hM3 rfl rfl rfl rfl rfl rfl rfl rfl rfl rfl) (by omega) (by show rc (A3 1) T3.length < 1000; omega) hr3 (MT_z hM3) (fun f4 A4 T4 r4 g4 hx4 hr4 => ?_))
        obtain ⟨p4, q4, s4, hM4⟩ := hx4
        have hM4 : MT f4 A4 T4 _ _ _ := MT_i hM4 rfl rfl rfl rfl rfl rfl rfl rfl rfl rfl
        have s4 : rc (A4 1) T4.length ≤ rc (A3 1) T3.length + 1 := s4
        show mg _ _ _ 236 _ [.int r4, .int ((A 16 p)), .int 6, .ref 1482, .int (nI (5 * p)), .ref 1482] _ _
        refine m_k1 (v := 0) (pc' := 237) cd_Mo_publish rfl (by decide) rfl ?_
        refine m_ci (pc' := 240) cd_Mo_publish rfl rfl rfl rfl rfl cd_Mo_term rfl (Nat.le_of_ble_eq_true rfl) (m_signed (by exact MT_i hM4 rfl rfl rfl rfl rfl rfl rfl rfl rfl rfl) (by omega) (by show rc (A4 1) T4.length < 1000; omega) (tv_mono p4 (tv_mono p3 hid2)) hr4 (fun e => by rw [e] at kI; exact absurd kI (by decide)) (fun e => nomatch e) (fun f5 A5 T5 r5 hx5 hr5 => ?_))
        obtain ⟨p5, q5, s5, hM5⟩ := hx5
        have hM5 : MT f5 A5 T5 _ _ _ := MT_i hM5 rfl rfl rfl rfl rfl rfl rfl rfl rfl rfl
        have s5 : rc (A5 1) T5.length ≤ rc (A4 1) T4.length + 0 := s5
        show mg _ _ _ 240 _ [.int r5, .int (nI (5 * p)), .ref 1482] _ _
        refine m_cv (pc' := 243) cd_Mo_publish rfl rfl rfl rfl rfl cd_Mo_put rfl (Nat.le_of_ble_eq_true rfl) (m_put (X := (Tsg id (Trw 1 (nI p) (lnu + 1) 0 0 (Tpub (Tsec (nI DL.length) (nI p) 1)) tz tz tz))) (q := 5 * p) (by exact MT_i hM5 rfl rfl rfl rfl rfl rfl rfl rfl rfl rfl) (by omega) hr5 (fun v g9 hv hM6 => ?_))
        show mg _ _ _ 243 _ [] _ _
        refine m_k1 (v := 0) (pc' := 244) cd_Mo_publish rfl (by decide) rfl ?_
        refine m_ist (pc' := 245) cd_Mo_publish rfl (Or.inr ⟨_, rfl, rfl, rfl⟩) (by decide) rfl (fun lv el => ?_)
        have l0 := tm_lk el l0 rfl (by decide)
        have l1 := tm_lk el l1 rfl (by decide)
        have l3 : lv.lookup 3 = some (.int 0) := tm_lks el
        clear el
        have ha17 : ∀ j, j < 30 → tv T5 (upd (A2 17) (5 * p) r5 j) (fset dir (p * 5 + 0) (Tsg id (Trw 1 (nI p) (lnu + 1) 0 0 (Tpub (Tsec (nI DL.length) (nI p) 1)) tz tz tz)) j) := fun j hj => by
          by_cases q : j = 5 * p
          · rw [q, upd_same, show 5 * p = p * 5 + 0 by omega, fset_same]; exact hr5
          · rw [upd_ne q, fset_ne (by omega), eA2 17 (by decide)]; exact tv_mono (p12.trans ((p3.trans p4).trans p5)) (hS.2.1.2.1 j hj)
        refine l_mpubA hp (by rw [of_len]; omega) (of_kd _ _ _ _ hk) (on_fill (nI p) (4 - on.length) (DL.length + 1) (lnu + 1) on).1 0 (fset (mjF f5 (mjF f4 (mjF f3 (mjCf f3_ f2)))) 16 v) (fset (fset (mjA A5 (mjA A4 (fset (mjA A3 (mjCA A3_ A2)) 9 g4))) 17 (upd (A2 17) (5 * p) r5)) 5 g9) T5 _ (fset dir (p * 5 + 0) (Tsg id (Trw 1 (nI p) (lnu + 1) 0 0 (Tpub (Tsec (nI DL.length) (nI p) 1)) tz tz tz))) rfl (by omega) (by exact MT_i hM6 rfl rfl rfl rfl rfl rfl rfl rfl rfl rfl) (by rw [of_len]; omega) (by rw [of_len]; show rc (A5 1) _ + _ ≤ 1000; omega) (show qOn (A2 15) T5 (on_fill (nI p) (4 - on.length) (DL.length + 1) (lnu + 1) on).1 from qOn_c ((p3.trans p4).trans p5) (fun _ _ _ => rfl) hO2) ha17 (fun f6 A6 T6 lv p6 q6 s6 hM6 hst6 ef6 eA6 hd6 l0 l1 => ?_) lv l0 l1 l3
        rw [of_len] at q6 s6
        have s6 : rc (A6 1) T6.length ≤ rc (A5 1) T5.length + (on.length + (4 - on.length)) := s6
        have w6 : A6 15 1 = lnu + 1 := (congrFun (eA6 15 (by decide)) 1).trans w1
        refine m_ald (pc' := 299) cd_Mo_publish rfl (Or.inr ⟨_, rfl, rfl, rfl⟩) l0 rfl rfl ?_
        refine m_fR (r := 14) (a := 15) (ad := 1497) (pc' := 302) rfl rfl cd_Mo_publish rfl rfl rfl rfl rfl ?_
        refine m_k1 (v := 1) (pc' := 303) cd_Mo_publish rfl (by decide) rfl ?_
        refine m_aI (r := 14) (a := 15) (g := (A6 15)) (x := (lnu + 1)) (pc' := 304) rfl rfl cd_Mo_publish rfl rfl rfl (vp_in_nI (n := 1) (by decide) (by decide)) ((congrArg (A6 15) (show (1 : Int32).toNatClampNeg = 1 by decide)).trans w6) ?_
        have hxz : (Tsg id (Trw 1 (nI p) (lnu + 1) 0 0 (Tpub (Tsec (nI DL.length) (nI p) 1)) tz tz tz)) ≠ tz := fun e => nomatch e
        have e16c : mjCf f3_ f2 16 = 1 ∨ mjCf f3_ f2 16 = f 16 := e16.imp (fun z => z) (fun q => q.1.trans ((ef2 16 (by decide)).trans rfl))
        have hst7 : f6 16 = 1 ∨ (f6 16 = f 16 ∧ ∀ y, (y = (Tsg id (Trw 1 (nI p) (lnu + 1) 0 0 (Tpub (Tsec (nI DL.length) (nI p) 1)) tz tz tz)) ∨ y ∈ (on_fill (nI p) (4 - on.length) (DL.length + 1) (lnu + 1) on).1.map (kr (nI p))) → G y) := by
          rcases hst6 with q | ⟨q, q2⟩
          · exact Or.inl q
          · rcases hv with hv | ⟨hv, hv2⟩
            · exact Or.inl ((show f6 16 = v from q).trans hv)
            · rcases e16c with h5 | h5
              · exact Or.inl ((show f6 16 = v from q).trans (hv.trans h5))
              · have gX : G (Tsg id (Trw 1 (nI p) (lnu + 1) 0 0 (Tpub (Tsec (nI DL.length) (nI p) 1)) tz tz tz)) := hv2.elim (fun z => absurd z hxz) (fun z => z)
                refine Or.inr ⟨(show f6 16 = v from q).trans (hv.trans h5), fun y hy => ?_⟩
                rcases hy with rfl | hy
                · exact gX
                · exact (q2 y hy).elim (fun z => z) (fun z => z.1 ▸ gX)
        exact m_reti cd_Mo_publish rfl ⟨_, rfl, (k2 hc f6 A6 T6 ((p12.trans ((p3.trans p4).trans p5)).trans p6) (by omega) (by omega) hM6 hst7 (RS_p (f' := f6) (A' := A6) hS3 (((p3.trans p4).trans p5).trans p6) ((ef6 11 (by decide)).trans hS3.2.2.2.1.1) ((ef6 21 (by decide)).trans hS3.2.2.2.1.2.1) ⟨(ef6 53 (by decide)).trans rfl, (ef6 54 (by decide)).trans rfl, (ef6 63 (by decide)).trans rfl, (ef6 40 (by decide)).trans rfl, (ef6 43 (by decide)).trans rfl⟩ ⟨(eA6 14 (by decide)).trans rfl, (eA6 16 (by decide)).trans rfl, (eA6 18 (by decide)).trans rfl, (eA6 19 (by decide)).trans rfl, (eA6 20 (by decide)).trans rfl, (eA6 21 (by decide)).trans rfl, (eA6 22 (by decide)).trans rfl, (eA6 23 (by decide)).trans rfl, (eA6 24 (by decide)).trans rfl, (eA6 25 (by decide)).trans rfl, (eA6 28 (by decide)).trans rfl, (eA6 29 (by decide)).trans rfl, (eA6 30 (by decide)).trans rfl, (eA6 31 (by decide)).trans rfl, (eA6 32 (by decide)).trans rfl, (eA6 33 (by decide)).trans rfl, (eA6 34 (by decide)).trans rfl, (eA6 35 (by decide)).trans rfl, (eA6 36 (by decide)).trans rfl, (eA6 37 (by decide)).trans rfl, (eA6 38 (by decide)).trans rfl, (eA6 39 (by decide)).trans rfl, (eA6 40 (by decide)).trans rfl, (eA6 41 (by decide)).trans rfl, (eA6 42 (by decide)).trans rfl, (eA6 45 (by decide)).trans rfl, (eA6 46 (by decide)).trans rfl⟩ hd6 ((eA6 10 (by decide)).trans hS3.2.2.2.2.1.1) ((eA6 11 (by decide)).trans hS3.2.2.2.2.1.2.1) ((eA6 12 (by decide)).trans hS3.2.2.2.2.1.2.2) ((eA6 13 (by decide)).trans hS3.2.2.1.2)))⟩
      · exact absurd (show ¬ (¬ (1 : Int32) = 0) from c192) (by decide)
  · exact absurd (show ¬ (0 : Int32) = 0 from c12) (by decide)
