/-! The reference: the state behind draws; begin -/
section
variable {f f' : Nat → Int32} {A A' : Nat → Nat → Int32} {T T' : List Tm} {DL DL' : List (Int32 × Int32)} {dev : Nat → DV} {sto : Nat → ST} {ws : List (Tm × Int32)} {dir dir' reg : Nat → Tm} {seen : List Tm} {ls : List RL} {lo lo' : Nat → Int32} {dt db rt fl ll tl tf tg tm dt' db' rt' : Nat → Int32} {ck fo du ck' : Int32}
theorem RS_p (hS : RS f A T DL dev sto ws dir reg seen ls lo (dt, db, rt, fl, ll, tl, tf, tg, tm, ck, fo, du)) (hT : T <+: T') (e11 : f' 11 = nI DL'.length) (e21 : f' 21 = ck') (eF : f' 53 = f 53 ∧ f' 54 = f 54 ∧ f' 63 = f 63 ∧ f' 40 = f 40 ∧ f' 43 = f 43) (eA : A' 14 = A 14 ∧ A' 16 = A 16 ∧ A' 18 = A 18 ∧ A' 19 = A 19 ∧ A' 20 = A 20 ∧ A' 21 = A 21 ∧ A' 22 = A 22 ∧ A' 23 = A 23 ∧ A' 24 = A 24 ∧ A' 25 = A 25 ∧ A' 28 = A 28 ∧ A' 29 = A 29 ∧ A' 30 = A 30 ∧ A' 31 = A 31 ∧ A' 32 = A 32 ∧ A' 33 = A 33 ∧ A' 34 = A 34 ∧ A' 35 = A 35 ∧ A' 36 = A 36 ∧ A' 37 = A 37 ∧ A' 38 = A 38 ∧ A' 39 = A 39 ∧ A' 40 = A 40 ∧ A' 41 = A 41 ∧ A' 42 = A 42 ∧ A' 45 = A 45 ∧ A' 46 = A 46) (h17 : ∀ i, i < 30 → tv T' (A' 17 i) (dir' i)) (h10 : A' 10 = dt') (h11 : A' 11 = db') (h12 : A' 12 = rt') (h13 : A' 13 = lo') : RS f' A' T' DL' dev sto ws dir' reg seen ls lo' (dt', db', rt', fl, ll, tl, tf, tg, tm, ck', fo, du) := by
  obtain ⟨⟨q1, q2, q3⟩, ⟨q4, q5, q6, q7, q8, q9⟩, ⟨q10, q12⟩, ⟨q13, q14, q15, q16⟩, q17, ⟨q18, q19⟩, q20, q21, q22, q23⟩ := RS_m hT hS
  obtain ⟨e14, e16, e18, e19, e20, e21a, e22, e23, e24, e25, e28, e29, e30, e31, e32, e33, e34, e35, e36, e37, e38, e39, e40, e41, e42, e45, e46⟩ := eA
  obtain ⟨f1, f2, f3, f4, f5⟩ := eF
  exact ⟨⟨fun p hp => by rw [e16]; exact q1 p hp, fun p hp => by rw [e14]; exact q2 p hp, fun p hp => qSt_c (List.prefix_refl T') (by rw [e21a]) (by rw [e22]) (by rw [e23]) (fun _ _ => by rw [e20]) (fun _ _ _ _ => by rw [e19]) (fun _ _ _ _ => by rw [e18]) (q3 p hp)⟩, ⟨qWi_m (List.prefix_refl T') f4 e28 e29 q4, h17, fun i hi => by rw [e45]; exact q6 i hi, f3.trans q7, q8, fun i X hX => by rw [e46]; exact q9 i X hX⟩, ⟨qLs_m (List.prefix_refl T') f5 (fun j h1 h2 => by
    rcases (show j = 30 ∨ j = 31 ∨ j = 32 ∨ j = 33 ∨ j = 34 ∨ j = 35 ∨ j = 36 ∨ j = 37 ∨ j = 38 by omega) with q | q | q | q | q | q | q | q | q <;> subst q <;> assumption) q10, h13⟩, ⟨e11, e21, f1.trans q15, f2.trans q16⟩, ⟨h10, h11, h12⟩, ⟨e24.trans q18, e25.trans q19⟩, e39.trans q20, e40.trans q21, e41.trans q22, e42.trans q23⟩
end
set_option maxRecDepth 100000 in
theorem m_refusedN {sc : tm_X} {d : Nat} {f : Nat → Int32} {A : Nat → Nat → Int32} {m x : Int32} {Q : Int32 → MS → Prop} (kk : Q (-1) (fset f 21 (f 21 + 1), A)) : mGi sc (d + 1) 201 [.ref 1482, .int 0, .int m, .int x] (f, A) Q := by
  show mg sc (d + 1) 201 0 [(0, .ref 1482), (1, .int 0), (2, .int m), (3, .int x)] [] (f, A) _
  generalize elv : ([(0, .ref 1482), (1, .int 0), (2, .int m), (3, .int x)] : tm_L) = lv
  have l0 : lv.lookup 0 = some (.ref 1482) := by rw [← elv]; rfl
  have l1 : lv.lookup 1 = some (.int 0) := by rw [← elv]; rfl
  have l2 : lv.lookup 2 = some (.int m) := by rw [← elv]; rfl
  have l3 : lv.lookup 3 = some (.int x) := by rw [← elv]; rfl
  clear elv
  refine m_ald (pc' := 1) cd_Mo_refused rfl (Or.inr ⟨_, rfl, rfl, rfl⟩) l0 rfl rfl ?_
  refine m_pure (pc' := 2) (st' := [.ref 1482, .ref 1482]) cd_Mo_refused rfl rfl (fun _ _ => rfl) ?_
  refine m_fI (k := 21) (x := (f 21)) (pc' := 5) cd_Mo_refused rfl rfl rfl rfl rfl rfl ?_
  refine m_k1 (v := 1) (pc' := 6) cd_Mo_refused rfl (by decide) rfl ?_
  refine m_pure (pc' := 7) (st' := [.int ((f 21) + 1), .ref 1482]) cd_Mo_refused rfl rfl (fun _ _ => rfl) ?_
  refine m_pI (k := 21) (pc' := 10) cd_Mo_refused rfl rfl rfl rfl (by simp [tm_okV, narrow, fits]) rfl rfl ?_
  refine m_ild (pc' := 11) cd_Mo_refused rfl (Or.inr ⟨_, rfl, rfl, rfl⟩) l1 rfl ?_
  refine m_if1 (t := 18) (pc' := 14) cd_Mo_refused rfl rfl rfl (fun c11 => ?_) (fun c11 => ?_)
  · exact absurd (show ¬ (0 : Int32) = 0 from c11) (by decide)
  · have c11 : (0 : Int32) = 0 := Classical.not_not.mp c11
    refine m_k1 (v := (-1)) (pc' := 15) cd_Mo_refused rfl (by decide) rfl ?_
    refine m_pure (pc' := 49) (st' := [.int (-1)]) cd_Mo_refused rfl rfl (fun _ _ => rfl) ?_
    exact m_reti cd_Mo_refused rfl ⟨_, rfl, kk⟩
theorem nI_cxl {a b : Nat} (ha : a < 100000) (hb : b < 100000) (e : nI a = nI b) : a = b := by
  have h := congrArg Int32.toInt e
  rw [nI_toInt (by omega), nI_toInt (by omega)] at h
  omega
theorem m_isDev1 {sc : tm_X} {d : Nat} {f : Nat → Int32} {A : Nat → Nat → Int32} {s : Nat} {Q : Int32 → MS → Prop} (h : s < 6) (kk : Q 1 (f, A)) : mGi sc (d + 0) 200 [.int (nI s)] (f, A) Q := m_isDevice (by rw [show inR (nI s) 6 = true from inR_nI (n := 6) h (by decide)]; exact kk)
theorem qDv_ses {w g : Nat → Int32} {T T' : List Tm} {id : Tm} {K0 K1 : PK} {on : List (Tm × Int32)} {lnu : Int32} {se : Nat → List SS} {me : Nat → MM} {p : Nat} {l' : List SS} (hp : p < 6) (h : qDv w T (id, K0, K1, on, lnu, se, me)) (hT : T <+: T') (hl : qSs g T' p l') (e : ∀ k, k ≠ 24 + p → ¬ (30 + 2 * p * 38 ≤ k ∧ k < 30 + (2 * p + 2) * 38) → g k = w k) : qDv g T' (id, K0, K1, on, lnu, fset se p l', me) := by
  obtain ⟨⟨h1, h2⟩, ⟨h3, h4⟩, h5, h6⟩ := h
  refine ⟨⟨qPk_c hT (fun k _ _ => e k (by omega) (by omega)) h1, qPk_c hT (fun k _ _ => e k (by omega) (by omega)) h2⟩, ⟨qOn_c hT (fun k _ _ => e k (by omega) (by omega)) h3, (e 23 (by omega) (by omega)).trans h4⟩, fun q hq => ?_, fun q hq => qMm_c hT (fun k _ _ => e k (by omega) (by omega)) (h6 q hq)⟩
  by_cases c : q = p
  · rw [c, fset_same]; exact hl
  · rw [fset_ne c]
    exact qSs_c hq hT (fun k hk => e k (by omega) (by omega)) (h5 q hq)
set_option maxRecDepth 100000 in
theorem m_begin {sc : tm_X} {d : Nat} {f : Nat → Int32} {A : Nat → Nat → Int32} {T : List Tm} {DL : List (Int32 × Int32)} {G Kw : Tm → Prop} {dev : Nat → DV} {sto : Nat → ST} {ws : List (Tm × Int32)} {dir reg ids : Nat → Tm} {seen : List Tm} {ls : List RL} {lo dt db rt fl ll tl tf tg tm : Nat → Int32} {ck fo du : Int32} {id : Tm} {K0 K1 : PK} {on : List (Tm × Int32)} {lnu : Int32} {se : Nat → List SS} {me : Nat → MM} {p0 : Bool} {P O : EN2} {c : Option Nat} {s p : Nat} {Q : Int32 → MS → Prop} (hM : MT f A T DL G Kw) (hS : RS f A T DL dev sto ws dir reg seen ls lo (dt, db, rt, fl, ll, tl, tf, tg, tm, ck, fo, du)) (hdl : DL.length ≤ 2960) (hws : ws.length ≤ 692) (hTl : T.length + 14 ≤ 4000) (hr : rc (A 1) T.length < 1000) (hs : s < 6) (hp : p < 6) (hsp : s ≠ p) (kid : ∀ q, q < 6 → kd (ids q) = 1) (eids : ids = fun q => (dev q).1) (eD : dev s = (id, K0, K1, on, lnu, se, me)) (hz0 : K0.1 = tz ↔ K0.2.1 = 0) (hz1 : K1.1 = tz ↔ K1.2.1 = 0) (hst : sto s = (p0, P, O, c, false)) (hen : an_pre dir ids p ≠ tz → (dv_en (id, K0, K1, on, lnu, fset se p ((op_ses id (Tsec (nI DL.length) (nI s) 0) (Tsec (nI (DL.length + 1)) (nI s) 2) (ids p) (an_pre dir ids p) (an_once dir p 4 (p * 5 + 1)).1) :: (se p).take 1), me)).length ≤ 536) (kN : an_pre dir ids p = tz → ∀ f1 A1, (∀ k, 1 ≤ k → k ≤ 8 → A1 k = A k) → MT f1 A1 T DL G Kw → (f1 16 = 1 ∨ f1 16 = f 16) → RS f1 A1 T DL dev sto ws dir reg seen ls lo (dt, db, rt, fl, ll, tl, tf, tg, tm, ck + 1, fo, du) → Q (-5) (f1, A1)) (k0 : an_pre dir ids p ≠ tz → (st_commit p0 P c (dv_en (id, K0, K1, on, lnu, fset se p ((op_ses id (Tsec (nI DL.length) (nI s) 0) (Tsec (nI (DL.length + 1)) (nI s) 2) (ids p) (an_pre dir ids p) (an_once dir p 4 (p * 5 + 1)).1) :: (se p).take 1), me))).1 = 0 → ∀ f1 A1 T', T <+: T' → T'.length ≤ T.length + 14 → rc (A1 1) T'.length ≤ rc (A 1) T.length → MT f1 A1 T' (DL ++ [(nI s, 0), (nI s, 2)]) G Kw → (f1 16 = 1 ∨ f1 16 = f 16) → RS f1 A1 T' (DL ++ [(nI s, 0), (nI s, 2)]) dev (fset sto s (st_commit p0 P c (dv_en (id, K0, K1, on, lnu, fset se p ((op_ses id (Tsec (nI DL.length) (nI s) 0) (Tsec (nI (DL.length + 1)) (nI s) 2) (ids p) (an_pre dir ids p) (an_once dir p 4 (p * 5 + 1)).1) :: (se p).take 1), me))).2) ws (an_once dir p 4 (p * 5 + 1)).2 reg seen ls (wl lo DL.length (([(nI s, false), (nI s, true)] : List (Int32 × Bool)).map fun _ => -1)) (wl dt DL.length (([(nI s, false), (nI s, true)] : List (Int32 × Bool)).map fun _ => ck + 1), wl db DL.length (([(nI s, false), (nI s, true)] : List (Int32 × Bool)).map fun e => e.1), wl rt DL.length (([(nI s, false), (nI s, true)] : List (Int32 × Bool)).map fun e => bz e.2), fl, ll, tl, tf, tg, tm, ck + 1, fo, du) → Q (-4) (f1, A1)) (k1 : an_pre dir ids p ≠ tz → (st_commit p0 P c (dv_en (id, K0, K1, on, lnu, fset se p ((op_ses id (Tsec (nI DL.length) (nI s) 0) (Tsec (nI (DL.length + 1)) (nI s) 2) (ids p) (an_pre dir ids p) (an_once dir p 4 (p * 5 + 1)).1) :: (se p).take 1), me))).1 = 1 → ∀ f1 A1 T', T <+: T' → T'.length ≤ T.length + 14 → rc (A1 1) T'.length ≤ rc (A 1) T.length → MT f1 A1 T' (DL ++ [(nI s, 0), (nI s, 2)]) G Kw → (f1 16 = 1 ∨ f1 16 = f 16) → RS f1 A1 T' (DL ++ [(nI s, 0), (nI s, 2)]) (fset dev s (id, K0, K1, on, lnu, fset se p ((op_ses id (Tsec (nI DL.length) (nI s) 0) (Tsec (nI (DL.length + 1)) (nI s) 2) (ids p) (an_pre dir ids p) (an_once dir p 4 (p * 5 + 1)).1) :: (se p).take 1), me)) (fset sto s (st_commit p0 P c (dv_en (id, K0, K1, on, lnu, fset se p ((op_ses id (Tsec (nI DL.length) (nI s) 0) (Tsec (nI (DL.length + 1)) (nI s) 2) (ids p) (an_pre dir ids p) (an_once dir p 4 (p * 5 + 1)).1) :: (se p).take 1), me))).2) ws (an_once dir p 4 (p * 5 + 1)).2 reg seen ls (wl lo DL.length (([(nI s, false), (nI s, true)] : List (Int32 × Bool)).map fun _ => -1)) (wl dt DL.length (([(nI s, false), (nI s, true)] : List (Int32 × Bool)).map fun _ => ck + 1), wl db DL.length (([(nI s, false), (nI s, true)] : List (Int32 × Bool)).map fun e => e.1), wl rt DL.length (([(nI s, false), (nI s, true)] : List (Int32 × Bool)).map fun e => bz e.2), fl, ll, tl, tf, tg, tm, ck + 1, fo, du) → Q (-4) (f1, A1)) (k2 : an_pre dir ids p ≠ tz → (st_commit p0 P c (dv_en (id, K0, K1, on, lnu, fset se p ((op_ses id (Tsec (nI DL.length) (nI s) 0) (Tsec (nI (DL.length + 1)) (nI s) 2) (ids p) (an_pre dir ids p) (an_once dir p 4 (p * 5 + 1)).1) :: (se p).take 1), me))).1 = 2 → ∀ f1 A1 T', T <+: T' → T'.length ≤ T.length + 14 → rc (A1 1) T'.length ≤ rc (A 1) T.length → MT f1 A1 T' (DL ++ [(nI s, 0), (nI s, 2)]) G Kw → (f1 16 = 1 ∨ f1 16 = f 16) → RS f1 A1 T' (DL ++ [(nI s, 0), (nI s, 2)]) (fset dev s (id, K0, K1, on, lnu, fset se p ((op_ses id (Tsec (nI DL.length) (nI s) 0) (Tsec (nI (DL.length + 1)) (nI s) 2) (ids p) (an_pre dir ids p) (an_once dir p 4 (p * 5 + 1)).1) :: (se p).take 1), me)) (fset sto s (st_commit p0 P c (dv_en (id, K0, K1, on, lnu, fset se p ((op_ses id (Tsec (nI DL.length) (nI s) 0) (Tsec (nI (DL.length + 1)) (nI s) 2) (ids p) (an_pre dir ids p) (an_once dir p 4 (p * 5 + 1)).1) :: (se p).take 1), me))).2) ws (an_once dir p 4 (p * 5 + 1)).2 reg seen ls (wl lo DL.length (([(nI s, false), (nI s, true)] : List (Int32 × Bool)).map fun _ => -1)) (wl dt DL.length (([(nI s, false), (nI s, true)] : List (Int32 × Bool)).map fun _ => ck + 1), wl db DL.length (([(nI s, false), (nI s, true)] : List (Int32 × Bool)).map fun e => e.1), wl rt DL.length (([(nI s, false), (nI s, true)] : List (Int32 × Bool)).map fun e => bz e.2), fl, ll, tl, tf, tg, tm, ck + 1, fo, du) → Q (nI ((op_ses id (Tsec (nI DL.length) (nI s) 0) (Tsec (nI (DL.length + 1)) (nI s) 2) (ids p) (an_pre dir ids p) (an_once dir p 4 (p * 5 + 1)).1) :: (se p).take 1).length) (f1, A1)) : mGi sc (d + 6) 210 [.ref 1482, .int (nI s), .int (nI p)] (f, A) Q := by
  have hq0 := hS.1.2.2 s hs
  rw [hst] at hq0
  have h40 := hS.2.1.1.1.1
  have h11 : f 11 = nI DL.length := hS.2.2.2.1.1
  have h21 : f 21 = ck := hS.2.2.2.1.2.1
  have eI : ids s = id := by rw [eids]; show (dev s).1 = id; rw [eD]
  have hdv := hS.1.2.1 s hs
  rw [eD] at hdv
  have hids : ∀ q, q < 6 → tv T (A 16 q) (ids q) := fun q hq => by rw [eids]; exact hS.1.1 q hq
  show mg sc (d + 6) 210 0 [(0, .ref 1482), (1, .int (nI s)), (2, .int (nI p))] [] (f, A) _
  generalize elv : ([(0, .ref 1482), (1, .int (nI s)), (2, .int (nI p))] : tm_L) = lv
  have l0 : lv.lookup 0 = some (.ref 1482) := by rw [← elv]; rfl
  have l1 : lv.lookup 1 = some (.int (nI s)) := by rw [← elv]; rfl
  have l2 : lv.lookup 2 = some (.int (nI p)) := by rw [← elv]; rfl
  clear elv
  refine m_ald (pc' := 1) cd_Mo_begin rfl (Or.inr ⟨_, rfl, rfl, rfl⟩) l0 rfl rfl ?_
  refine m_ild (pc' := 2) cd_Mo_begin rfl (Or.inr ⟨_, rfl, rfl, rfl⟩) l1 rfl ?_
  refine m_si (pc' := 5) cd_Mo_begin rfl rfl rfl rfl rfl cd_Mo_isDevice rfl (Nat.le_of_ble_eq_true rfl) (m_isDev1 hs ?_)
  show mg _ _ _ 5 _ [.int 1, .ref 1482] _ _
  refine m_if1 (t := 24) (pc' := 8) cd_Mo_begin rfl rfl rfl (fun c5 => ?_) (fun c5 => ?_)
  · exact absurd (show (1 : Int32) = 0 from c5) (by decide)
  · have c5 : ¬ (1 : Int32) = 0 := c5
    refine m_ild (pc' := 9) cd_Mo_begin rfl (Or.inr ⟨_, rfl, rfl, rfl⟩) l2 rfl ?_
    refine m_si (pc' := 12) cd_Mo_begin rfl rfl rfl rfl rfl cd_Mo_isDevice rfl (Nat.le_of_ble_eq_true rfl) (m_isDev1 hp ?_)
    show mg _ _ _ 12 _ [.int 1, .ref 1482] _ _
    refine m_if1 (t := 24) (pc' := 15) cd_Mo_begin rfl rfl rfl (fun c12 => ?_) (fun c12 => ?_)
    · exact absurd (show (1 : Int32) = 0 from c12) (by decide)
    · have c12 : ¬ (1 : Int32) = 0 := c12
      refine m_ild (pc' := 16) cd_Mo_begin rfl (Or.inr ⟨_, rfl, rfl, rfl⟩) l1 rfl ?_
      refine m_ild (pc' := 17) cd_Mo_begin rfl (Or.inr ⟨_, rfl, rfl, rfl⟩) l2 rfl ?_
      refine m_if2 (t := 24) (pc' := 20) cd_Mo_begin rfl rfl rfl (fun c17 => ?_) (fun c17 => ?_)
      · have c17 : (nI s) = (nI p) := c17
        exact absurd (nI_cxl (by omega) (by omega) c17) hsp
      · have c17 : ¬ (nI s) = (nI p) := c17
        refine m_k1 (v := 1) (pc' := 21) cd_Mo_begin rfl (by decide) rfl ?_
        refine m_pure (pc' := 25) (st' := [.int 1, .ref 1482]) cd_Mo_begin rfl rfl (fun _ _ => rfl) ?_
        refine m_k1 (v := 1) (pc' := 26) cd_Mo_begin rfl (by decide) rfl ?_
        refine m_ild (pc' := 27) cd_Mo_begin rfl (Or.inr ⟨_, rfl, rfl, rfl⟩) l1 rfl ?_
        refine m_ci (pc' := 30) cd_Mo_begin rfl rfl rfl rfl rfl cd_Mo_refused rfl (Nat.le_of_ble_eq_true rfl) (m_refused (b := true) (mk := true) (dn := false) (p := s) h11 hdl h40 hws hs hq0.1.2.2.1 (fun q => nomatch q) (fun _ q => nomatch q) (fun _ _ => ?_))
        show mg _ _ _ 30 _ [.int 0] _ _
        refine m_ist (pc' := 31) cd_Mo_begin rfl (Or.inr ⟨_, rfl, rfl, rfl⟩) (by decide) rfl (fun lv el => ?_)
        have l0 := tm_lk el l0 rfl (by decide)
        have l1 := tm_lk el l1 rfl (by decide)
        have l2 := tm_lk el l2 rfl (by decide)
        have l3 : lv.lookup 3 = some (.int 0) := tm_lks el
        clear el
        refine m_ild (pc' := 32) cd_Mo_begin rfl (Or.inr ⟨_, rfl, rfl, rfl⟩) l3 rfl ?_
        refine m_if1 (t := 37) (pc' := 35) cd_Mo_begin rfl rfl rfl (fun c32 => ?_) (fun c32 => ?_)
        · have c32 : (0 : Int32) = 0 := c32
          refine m_ald (pc' := 38) cd_Mo_begin rfl (Or.inr ⟨_, rfl, rfl, rfl⟩) l0 rfl rfl ?_
          refine m_ild (pc' := 39) cd_Mo_begin rfl (Or.inr ⟨_, rfl, rfl, rfl⟩) l1 rfl ?_
          refine m_cv (pc' := 42) cd_Mo_begin rfl rfl rfl rfl rfl cd_Mo_load rfl (Nat.le_of_ble_eq_true rfl) (m_load hs (fun gw hgw => ?_))
          have hDw : qDv gw T (id, K0, K1, on, lnu, se, me) := qDv_c (List.prefix_refl T) hgw hdv
          show mg _ _ _ 42 _ [] _ _
          refine m_ald (pc' := 43) cd_Mo_begin rfl (Or.inr ⟨_, rfl, rfl, rfl⟩) l0 rfl rfl ?_
          refine m_ild (pc' := 44) cd_Mo_begin rfl (Or.inr ⟨_, rfl, rfl, rfl⟩) l1 rfl ?_
          refine m_ild (pc' := 45) cd_Mo_begin rfl (Or.inr ⟨_, rfl, rfl, rfl⟩) l2 rfl ?_
          refine m_ci (pc' := 48) cd_Mo_begin rfl rfl rfl rfl rfl cd_Mo_begins rfl (Nat.le_of_ble_eq_true rfl) (m_begins (ids := ids) (dir := dir) (l := se p) (by exact MT_i hM rfl rfl rfl rfl rfl rfl rfl rfl rfl rfl) hTl hr h11 (by omega) hs hp hids kid hS.2.1.2.1 (hDw.2.2.1 p hp) (fun hN => ?_) (fun hnz f1 A1 T1 p1 p2 p3 hM1 e11 hdw h17 hse he15 => ?_))
          · skip
            show mg _ _ _ 48 _ [.int 0] _ _
            refine m_if1 (t := 54) (pc' := 51) cd_Mo_begin rfl rfl rfl (fun c48 => ?_) (fun c48 => ?_)
            · exact absurd (show ¬ (0 : Int32) = 0 from c48) (by decide)
            · have c48 : (0 : Int32) = 0 := Classical.not_not.mp c48
              refine m_k2 (v := (-5)) (pc' := 53) cd_Mo_begin rfl (by decide) rfl ?_
              exact m_reti cd_Mo_begin rfl ⟨_, rfl, (kN hN _ _ (fun k q1 q2 => fset_ne (by omega)) (by exact MT_i hM rfl rfl rfl rfl rfl rfl rfl rfl rfl rfl) (Or.inr rfl) (RS_p hS (List.prefix_refl T) h11 (show f 21 + 1 = ck + 1 by rw [h21]) ⟨rfl, rfl, rfl, rfl, rfl⟩ ⟨rfl, rfl, rfl, rfl, rfl, rfl, rfl, rfl, rfl, rfl, rfl, rfl, rfl, rfl, rfl, rfl, rfl, rfl, rfl, rfl, rfl, rfl, rfl, rfl, rfl, rfl, rfl⟩ hS.2.1.2.1 hS.2.2.2.2.1.1 hS.2.2.2.2.1.2.1 hS.2.2.2.2.1.2.2 hS.2.2.1.2))⟩
          · skip
            rw [eI] at hse
            have hND : qDv (A1 15) T1 (id, K0, K1, on, lnu, fset se p ((op_ses id (Tsec (nI DL.length) (nI s) 0) (Tsec (nI (DL.length + 1)) (nI s) 2) (ids p) (an_pre dir ids p) (an_once dir p 4 (p * 5 + 1)).1) :: (se p).take 1), me) := qDv_ses hp hDw p1 hse he15
            have edl : f1 11 = nI (List.length (DL ++ [(nI s, 0), (nI s, 2)])) := by rw [e11]; congr 1; simp
            show mg _ _ _ 48 _ [.int 1] _ _
            refine m_if1 (t := 54) (pc' := 51) cd_Mo_begin rfl rfl rfl (fun c48 => ?_) (fun c48 => ?_)
            · have c48 : ¬ (1 : Int32) = 0 := c48
              refine m_ald (pc' := 55) cd_Mo_begin rfl (Or.inr ⟨_, rfl, rfl, rfl⟩) l0 rfl rfl ?_
              refine m_ild (pc' := 56) cd_Mo_begin rfl (Or.inr ⟨_, rfl, rfl, rfl⟩) l1 rfl ?_
              refine m_ci (pc' := 59) cd_Mo_begin rfl rfl rfl rfl rfl cd_Mo_commits rfl (Nat.le_of_ble_eq_true rfl) (m_commits0 (NW := []) (f := (mjBf f1 (fset (fset (fset f 21 (f 21 + 1)) 30 0) 32 0))) (A := (mjBA A1 (fset A 15 gw))) hM1 (RS_p (dt' := wl dt DL.length (([(nI s, false), (nI s, true)] : List (Int32 × Bool)).map fun _ => ck + 1)) (db' := wl db DL.length (([(nI s, false), (nI s, true)] : List (Int32 × Bool)).map fun (e : Int32 × Bool) => e.1)) (rt' := wl rt DL.length (([(nI s, false), (nI s, true)] : List (Int32 × Bool)).map fun (e : Int32 × Bool) => bz e.2)) (lo' := (wl lo DL.length (([(nI s, false), (nI s, true)] : List (Int32 × Bool)).map fun _ => -1))) (dir' := (an_once dir p 4 (p * 5 + 1)).2) (f' := (mjBf f1 (fset (fset (fset f 21 (f 21 + 1)) 30 0) 32 0))) (A' := (mjBA A1 (fset A 15 gw))) hS p1 edl (show f 21 + 1 = ck + 1 by rw [h21]) ⟨rfl, rfl, rfl, rfl, rfl⟩ ⟨rfl, rfl, rfl, rfl, rfl, rfl, rfl, rfl, rfl, rfl, rfl, rfl, rfl, rfl, rfl, rfl, rfl, rfl, rfl, rfl, rfl, rfl, rfl, rfl, rfl, rfl, rfl⟩ h17 (hdw.1.trans (by rw [show fset (fset (fset f 21 (f 21 + 1)) 30 0) 32 0 21 = ck + 1 from (by show f 21 + 1 = _; rw [h21])]; exact congrArg (fun g => wl g DL.length _) hS.2.2.2.2.1.1)) (hdw.2.1.trans (congrArg (fun g => wl g DL.length _) hS.2.2.2.2.1.2.1)) (hdw.2.2.1.trans (congrArg (fun g => wl g DL.length _) hS.2.2.2.2.1.2.2)) (hdw.2.2.2.trans (congrArg (fun g => wl g DL.length _) hS.2.2.1.2))) hs (by rw [eD]) hND hz0 hz1 (hen hnz) hst rfl (by decide) (fun i X q => by simp at q) (fun X q => absurd q List.not_mem_nil) (by simp only [List.length_nil]; omega) rfl (fun hc f2 A2 hM2 e16 hS2 => ?_) (fun hc f2 A2 hM2 e16 hS2 => ?_) (fun hc f2 A2 hM2 e16 hS2 => ?_))
              · skip
                show mg _ _ _ 59 _ [.int 0] _ _
                refine m_if1 (t := 74) (pc' := 62) cd_Mo_begin rfl rfl rfl (fun c59 => ?_) (fun c59 => ?_)
                · have c59 : (0 : Int32) = 0 := c59
                  refine m_k2 (v := (-4)) (pc' := 76) cd_Mo_begin rfl (by decide) rfl ?_
                  exact m_reti cd_Mo_begin rfl ⟨_, rfl, (k0 hnz hc _ _ _ p1 p2 p3 hM2 (Or.inr e16) hS2)⟩
                · exact absurd (show ¬ (0 : Int32) = 0 from c59) (by decide)
              · skip
                show mg _ _ _ 59 _ [.int 0] _ _
                refine m_if1 (t := 74) (pc' := 62) cd_Mo_begin rfl rfl rfl (fun c59 => ?_) (fun c59 => ?_)
                · have c59 : (0 : Int32) = 0 := c59
                  refine m_k2 (v := (-4)) (pc' := 76) cd_Mo_begin rfl (by decide) rfl ?_
                  exact m_reti cd_Mo_begin rfl ⟨_, rfl, (k1 hnz hc _ _ _ p1 p2 p3 hM2 (Or.inr e16) hS2)⟩
                · exact absurd (show ¬ (0 : Int32) = 0 from c59) (by decide)
              · skip
                have hM2 := MT_G hM2 (G' := G) (W' := Kw) (fun y => ⟨fun q => q.elim (fun z => z) (fun q => absurd q List.not_mem_nil), Or.inl⟩) (fun _ => Iff.rfl)
                rw [List.map_nil, List.append_nil] at hS2
                show mg _ _ _ 59 _ [.int 1] _ _
                refine m_if1 (t := 74) (pc' := 62) cd_Mo_begin rfl rfl rfl (fun c59 => ?_) (fun c59 => ?_)
                · exact absurd (show (1 : Int32) = 0 from c59) (by decide)
                · have c59 : ¬ (1 : Int32) = 0 := c59
                  refine m_ald (pc' := 63) cd_Mo_begin rfl (Or.inr ⟨_, rfl, rfl, rfl⟩) l0 rfl rfl ?_
                  refine m_fR (r := 14) (a := 15) (ad := 1497) (pc' := 66) rfl rfl cd_Mo_begin rfl rfl rfl rfl rfl ?_
                  refine m_k2 (v := 24) (pc' := 68) cd_Mo_begin rfl (by decide) rfl ?_
                  refine m_ild (pc' := 69) cd_Mo_begin rfl (Or.inr ⟨_, rfl, rfl, rfl⟩) l2 rfl ?_
                  refine m_pure (pc' := 70) (st' := [.int ((24 : Int32) + (nI p)), .ref 1497]) cd_Mo_begin rfl rfl (fun _ _ => rfl) ?_
                  refine m_eq (show ((24 : Int32) + (nI p) : Int32) = nI (24 + p) from nI_add 24 p) ?_
                  refine m_aI (r := 14) (a := 15) (g := (A1 15)) (x := (nI ((op_ses id (Tsec (nI DL.length) (nI s) 0) (Tsec (nI (DL.length + 1)) (nI s) 2) (ids p) (an_pre dir ids p) (an_once dir p 4 (p * 5 + 1)).1) :: (se p).take 1).length)) (pc' := 71) rfl rfl cd_Mo_begin rfl rfl rfl (vp_in_nI (by omega) (by decide)) (by rw [(nI_clamp (by omega))]; exact hse.1.1) ?_
                  refine m_pure (pc' := 76) (st' := [.int ((nI ((op_ses id (Tsec (nI DL.length) (nI s) 0) (Tsec (nI (DL.length + 1)) (nI s) 2) (ids p) (an_pre dir ids p) (an_once dir p 4 (p * 5 + 1)).1) :: (se p).take 1).length))]) cd_Mo_begin rfl rfl (fun _ _ => rfl) ?_
                  exact m_reti cd_Mo_begin rfl ⟨_, rfl, (k2 hnz hc _ _ _ p1 p2 p3 hM2 (e16.imp (fun z => z) (fun q => q.1)) hS2)⟩
            · exact absurd (show ¬ (¬ (1 : Int32) = 0) from c48) (by decide)
        · exact absurd (show ¬ (0 : Int32) = 0 from c32) (by decide)
