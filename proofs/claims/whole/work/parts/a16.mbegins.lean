/-! The reference: begins -/
theorem pfx_get {T T' : List Tm} (h : T <+: T') {i : Nat} {X : Tm} (e : T[i]? = some X) : T'[i]? = some X := by
  obtain ⟨E, rfl⟩ := h
  rw [List.getElem?_append_left (tv_lt e)]
  exact e
theorem MT_pub1 {f : Nat → Int32} {A : Nat → Nat → Int32} {T : List Tm} {DL : List (Int32 × Int32)} {G W : Tm → Prop} (hM : MT f A T DL G W) {x : Int32} {X : Tm} (h : tv T x X) (hk : kd X = 2) : kd (pt X 0) = 1 := by
  rcases MT_tsp hM h with e | ⟨n, d, p, e⟩ | ⟨s, hs, e⟩ | ⟨a, b, _, _, e⟩ | ⟨n, a, b, e⟩ | ⟨k, h, b, e⟩ | ⟨a, t, e⟩ | ⟨k, n0, n1, n2, n3, a, b, c, d, e⟩ <;> subst e
  · exact absurd hk (by decide)
  · exact absurd (show (1 : Int32) = 2 from hk) (by decide)
  · exact hs
  · exact absurd (show (3 : Int32) = 2 from hk) (by decide)
  · exact absurd (show (4 : Int32) = 2 from hk) (by decide)
  · exact absurd (show (5 : Int32) = 2 from hk) (by decide)
  · exact absurd (show (6 : Int32) = 2 from hk) (by decide)
  · exact absurd (show (7 : Int32) = 2 from hk) (by decide)
theorem MT_i {f f' : Nat → Int32} {A A' : Nat → Nat → Int32} {T : List Tm} {DL : List (Int32 × Int32)} {G W : Tm → Prop} (h : MT f A T DL G W) (e0 : f' 0 = f 0) (e7 : f' 7 = f 7) (e1 : A' 1 = A 1) (e2 : A' 2 = A 2) (e3 : A' 3 = A 3) (e4 : A' 4 = A 4) (e5 : A' 5 = A 5) (e6 : A' 6 = A 6) (e8 : A' 7 = A 7) (e9 : A' 8 = A 8) : MT f' A' T DL G W := by
  unfold MT
  rw [e0, e7, e1, e2, e3, e4, e5, e6, e8, e9]
  exact h
theorem Tsh_nz (a b : Tm) : Tsh a b ≠ tz := by
  unfold Tsh
  split <;> exact fun e => nomatch e
def wl (g : Nat → Int32) (n : Nat) : List Int32 → (Nat → Int32)
  | [] => g
  | x :: l => wl (upd g n x) (n + 1) l
theorem wl_app (l l' : List Int32) : ∀ (g : Nat → Int32) (n : Nat), wl g n (l ++ l') = wl (wl g n l) (n + l.length) l' := by
  induction l with
  | nil => intro g n; rfl
  | cons x l ih => intro g n; show wl (upd g n x) (n + 1) (l ++ l') = _; rw [ih]; show _ = wl (wl (upd g n x) (n + 1) l) (n + (l.length + 1)) l'; rw [show n + 1 + l.length = n + (l.length + 1) by omega]
/-- draws made: when, by, ratchet, no letter -/
def dws (A A' : Nat → Nat → Int32) (n : Nat) (ck : Int32) (l : List (Int32 × Bool)) : Prop := A' 10 = wl (A 10) n (l.map fun _ => ck) ∧ A' 11 = wl (A 11) n (l.map fun e => e.1) ∧ A' 12 = wl (A 12) n (l.map fun e => bz e.2) ∧ A' 13 = wl (A 13) n (l.map fun _ => -1)
theorem dws_app {A A' A'' : Nat → Nat → Int32} {n : Nat} {ck : Int32} {l l' : List (Int32 × Bool)} (h : dws A A' n ck l) (h2 : dws A' A'' (n + l.length) ck l') : dws A A'' n ck (l ++ l') := by
  obtain ⟨a1, a2, a3, a4⟩ := h
  obtain ⟨b1, b2, b3, b4⟩ := h2
  unfold dws
  simp only [List.map_append, wl_app, List.length_map]
  exact ⟨by rw [b1, a1], by rw [b2, a2], by rw [b3, a3], by rw [b4, a4]⟩
def mjBf (g f : Nat → Int32) : Nat → Int32 := fun k => if k = 0 ∨ k = 7 ∨ k = 11 then g k else f k
def mjBA (B A : Nat → Nat → Int32) : Nat → Nat → Int32 := fun j => if (1 ≤ j ∧ j ≤ 13) ∨ j = 15 ∨ j = 17 then B j else A j
theorem mjBf_of {g f : Nat → Int32} (h : ∀ k, ¬ (k = 0 ∨ k = 7 ∨ k = 11) → g k = f k) : mjBf g f = g := by
  funext j
  unfold mjBf
  split
  · rfl
  · rename_i q; exact (h j q).symm
theorem mjBA_of {B A : Nat → Nat → Int32} (h : ∀ j, ¬ ((1 ≤ j ∧ j ≤ 13) ∨ j = 15 ∨ j = 17) → B j = A j) : mjBA B A = B := by
  funext j
  unfold mjBA
  split
  · rfl
  · rename_i q; exact (h j q).symm
theorem mB_end {f f' : Nat → Int32} {A A' : Nat → Nat → Int32} {Q : MS → Prop} (h1 : ∀ k, ¬ (k = 0 ∨ k = 7 ∨ k = 11) → f' k = f k) (h2 : ∀ j, ¬ ((1 ≤ j ∧ j ≤ 13) ∨ j = 15 ∨ j = 17) → A' j = A j) (h : Q (mjBf f' f, mjBA A' A)) : Q (f', A') := by
  rw [mjBf_of h1, mjBA_of h2] at h
  exact h
theorem mjBA_17 (B A : Nat → Nat → Int32) (g : Nat → Int32) : mjBA B (fset A 17 g) = mjBA B A := by
  funext j
  unfold mjBA
  split
  · rfl
  · rename_i q; exact fset_ne (by omega)
theorem frP_z {w : Nat → Int32} {a n j : Nat} (h : a ≤ j ∧ j < a + n) : frP w a n 0 j = 0 := by unfold frP; rw [if_pos (by omega)]
/-- a new session laid in front -/
theorem se_new {w : Nat → Int32} {T T' : List Tm} {p : Nat} {l : List SS} {x0 x1 x2 x3 x4 x5 : Int32} {ba ro mi th sd bo : Tm} {b : Bool} (hp : p < 6) (hT : T <+: T') (hq : qSs w T p l) (hz : tv T' 0 tz) (h0 : tv T' x0 ba) (h1 : tv T' x1 ro) (h2 : tv T' x2 mi) (h3 : tv T' x3 th) (h4 : tv T' x4 sd) (h5 : tv T' x5 bo) : qSs (upd (upd (upd (upd (upd (upd (upd (upd (upd (upd (frP w (30 + (2 * p + 0) * 38) 38 0) (24 + p) (nI (min (l.length + 1) 2))) ((30 + (2 * p + 0) * 38) + 0) x0) ((30 + (2 * p + 0) * 38) + 1) x1) ((30 + (2 * p + 0) * 38) + 2) x2) ((30 + (2 * p + 0) * 38) + 3) x3) ((30 + (2 * p + 0) * 38) + 4) x4) ((30 + (2 * p + 0) * 38) + 9) 1) ((30 + (2 * p + 0) * 38) + 10) x3) ((30 + (2 * p + 0) * 38) + 11) x5) ((30 + (2 * p + 0) * 38) + 37) (bz b)) T' p (((th, tz, 0, []), ba, ro, mi, sd, 0, 0, true, th, bo, b) :: l.take 1) ∧ ∀ k, k ≠ 24 + p → ¬ (30 + 2 * p * 38 ≤ k ∧ k < 30 + (2 * p + 2) * 38) → (upd (upd (upd (upd (upd (upd (upd (upd (upd (upd (frP w (30 + (2 * p + 0) * 38) 38 0) (24 + p) (nI (min (l.length + 1) 2))) ((30 + (2 * p + 0) * 38) + 0) x0) ((30 + (2 * p + 0) * 38) + 1) x1) ((30 + (2 * p + 0) * 38) + 2) x2) ((30 + (2 * p + 0) * 38) + 3) x3) ((30 + (2 * p + 0) * 38) + 4) x4) ((30 + (2 * p + 0) * 38) + 9) 1) ((30 + (2 * p + 0) * 38) + 10) x3) ((30 + (2 * p + 0) * 38) + 11) x5) ((30 + (2 * p + 0) * 38) + 37) (bz b)) k = w k := by
  have hl := hq.1.2
  refine ⟨⟨⟨?_, ?_⟩, fun k S hS => ?_⟩, fun k k1 k2 => ?_⟩
  · rw [upd_ne (by omega), upd_ne (by omega), upd_ne (by omega), upd_ne (by omega), upd_ne (by omega), upd_ne (by omega), upd_ne (by omega), upd_ne (by omega), upd_ne (by omega), upd_same]
    congr 1
    simp
    omega
  · simp; omega
  · rcases k with _ | k
    · cases hS
      refine ⟨⟨?_, ?_, ?_, ?_, ?_, ?_⟩, ⟨?_, ?_, ?_⟩, ⟨?_, fun _ => ⟨?_, ?_⟩⟩, ⟨?_, by decide⟩, ?_, ?_⟩
      · rw [upd_ne (by omega), upd_ne (by omega), upd_ne (by omega), upd_ne (by omega), upd_ne (by omega), upd_ne (by omega), upd_ne (by omega), upd_ne (by omega), upd_same]; exact h0
      · rw [upd_ne (by omega), upd_ne (by omega), upd_ne (by omega), upd_ne (by omega), upd_ne (by omega), upd_ne (by omega), upd_ne (by omega), upd_same]; exact h1
      · rw [upd_ne (by omega), upd_ne (by omega), upd_ne (by omega), upd_ne (by omega), upd_ne (by omega), upd_ne (by omega), upd_same]; exact h2
      · rw [upd_ne (by omega), upd_ne (by omega), upd_ne (by omega), upd_ne (by omega), upd_ne (by omega), upd_same]; exact h3
      · rw [upd_ne (by omega), upd_ne (by omega), upd_ne (by omega), upd_ne (by omega), upd_same]; exact h4
      · rw [upd_ne (by omega), upd_ne (by omega), upd_ne (by omega), upd_ne (by omega), upd_ne (by omega), upd_ne (by omega), upd_ne (by omega), upd_ne (by omega), upd_ne (by omega), upd_ne (by omega), frP_z (by omega)]; exact hz
      · rw [upd_ne (by omega), upd_ne (by omega), upd_ne (by omega), upd_ne (by omega), upd_ne (by omega), upd_ne (by omega), upd_ne (by omega), upd_ne (by omega), upd_ne (by omega), upd_ne (by omega), frP_z (by omega)]
      · rw [upd_ne (by omega), upd_ne (by omega), upd_ne (by omega), upd_ne (by omega), upd_ne (by omega), upd_ne (by omega), upd_ne (by omega), upd_ne (by omega), upd_ne (by omega), upd_ne (by omega), frP_z (by omega)]
      · rw [upd_ne (by omega), upd_ne (by omega), upd_ne (by omega), upd_ne (by omega), upd_ne (by omega), upd_ne (by omega), upd_ne (by omega), upd_ne (by omega), upd_ne (by omega), upd_ne (by omega), frP_z (by omega)]
      · rw [upd_ne (by omega), upd_ne (by omega), upd_ne (by omega), upd_same]; rfl
      · rw [upd_ne (by omega), upd_ne (by omega), upd_same]; exact h3
      · rw [upd_ne (by omega), upd_same]; exact h5
      · rw [upd_ne (by omega), upd_ne (by omega), upd_ne (by omega), upd_ne (by omega), upd_ne (by omega), upd_ne (by omega), upd_ne (by omega), upd_ne (by omega), upd_ne (by omega), upd_ne (by omega), frP_z (by omega)]; rfl
      · intro i e he; simp at he
      · rw [upd_same]
    · rw [List.getElem?_cons_succ, List.getElem?_take] at hS
      by_cases c : k < 1
      · rw [if_pos c] at hS
        have k0 : k = 0 := by omega
        subst k0
        refine qSe_c hT (fun i hi => ?_) (hq.2 0 S hS)
        rw [upd_ne (by omega), upd_ne (by omega), upd_ne (by omega), upd_ne (by omega), upd_ne (by omega), upd_ne (by omega), upd_ne (by omega), upd_ne (by omega), upd_ne (by omega), upd_ne (by omega)]
        unfold frP
        rw [if_neg (by omega), if_pos (by omega)]
        congr 1
        omega
      · rw [if_neg c] at hS
        exact nomatch hS
  · rw [upd_ne (by omega), upd_ne (by omega), upd_ne (by omega), upd_ne (by omega), upd_ne (by omega), upd_ne (by omega), upd_ne (by omega), upd_ne (by omega), upd_ne (by omega), upd_ne (by omega)]
    unfold frP
    rw [if_neg (by omega), if_neg (by omega)]
set_option maxRecDepth 100000 in
theorem l_mbeg2 {sc : tm_X} {d : Nat} {f : Nat → Int32} {A : Nat → Nat → Int32} {T : List Tm} {DL : List (Int32 × Int32)} {G Kw : Tm → Prop} {s p ip : Nat} {o : Int32} {ids : Nat → Tm} {P O : Tm} {l : List SS} {Q : Int32 → MS → Prop} (hM : MT f A T DL G Kw) (hl : T.length + 14 ≤ 4000) (hr : rc (A 1) T.length < 1000) (h11 : f 11 = nI DL.length) (hdl : DL.length + 2 ≤ 3000) (hs : s < 6) (hp : p < 6) (hid : ∀ q, q < 6 → tv T (A 16 q) (ids q)) (kid : ∀ q, q < 6 → kd (ids q) = 1) (hP : T[ip]? = some P) (kP : kd P = 2) (hO : tv T o O) (kO : O ≠ tz → kd O = 2) (hq : qSs (A 15) T p l) (kk : ∀ f1 A1 T', T <+: T' → T'.length ≤ T.length + 14 → rc (A1 1) T'.length ≤ rc (A 1) T.length → MT (mjBf f1 f) (mjBA A1 A) T' (DL ++ [(nI s, 0), (nI s, 2)]) G Kw → f1 11 = nI (DL.length + 2) → dws A A1 DL.length (f 21) [(nI s, false), (nI s, true)] → A1 17 = A 17 → qSs (A1 15) T' p ((op_ses (ids s) (Tsec (nI DL.length) (nI s) 0) (Tsec (nI (DL.length + 1)) (nI s) 2) (ids p) P O) :: l.take 1) → (∀ k, k ≠ 24 + p → ¬ (30 + 2 * p * 38 ≤ k ∧ k < 30 + (2 * p + 2) * 38) → A1 15 k = A 15 k) → Q 1 (mjBf f1 f, mjBA A1 A)) : ∀ lv : tm_L, lv.lookup 0 = some (.ref 1482) → lv.lookup 1 = some (.int (nI s)) → lv.lookup 2 = some (.int (nI p)) → lv.lookup 4 = some (.int (nI ip)) → lv.lookup 5 = some (.int o) → mg sc (d + 5) 211 167 lv [] (f, A) (fun r s' => ∃ x, r = some (.int x) ∧ Q x s') := by
  intro lv l0 l1 l2 l4 l5
  have hTl := MT_len hM
  have hip := tv_lt hP
  have kP1 := MT_pub1 hM ⟨ip, rfl, hP⟩ kP
  have kis := kid s hs
  have kip := kid p hp
  have n24 := hq.1.1
  have nl2 := hq.1.2
  by_cases hOz : O = tz
  · subst hOz
    have o0 : o = 0 := (MT_0 hM hO).mpr rfl
    subst o0
    refine m_ald (pc' := 168) cd_Mo_begins rfl (Or.inr ⟨_, rfl, rfl, rfl⟩) l0 rfl rfl ?_
    refine m_ild (pc' := 169) cd_Mo_begins rfl (Or.inr ⟨_, rfl, rfl, rfl⟩) l1 rfl ?_
    refine m_k1 (v := 0) (pc' := 170) cd_Mo_begins rfl (by decide) rfl ?_
    refine m_ci (pc' := 173) cd_Mo_begins rfl rfl rfl rfl rfl cd_Mo_drawn rfl (Nat.le_of_ble_eq_true rfl) (m_drawn (rt := false) (xd := (nI s)) (xp := 0) (by exact MT_i hM rfl rfl rfl rfl rfl rfl rfl rfl rfl rfl) (by omega) (show rc (A 1) T.length < 1000 by omega) h11 (by omega) (fun f1 A1 T1 r1 hx1 hr1 => ?_))
    obtain ⟨p1, q1, s1, hM1⟩ := hx1
    have hM1 : MT f1 A1 T1 _ _ _ := MT_i hM1 rfl rfl rfl rfl rfl rfl rfl rfl rfl rfl
    have s1 : rc (A1 1) T1.length ≤ rc (A 1) T.length + 0 := s1
    show mg _ _ _ 173 _ [.int r1] _ _
    refine m_ist (pc' := 175) cd_Mo_begins rfl (Or.inl ⟨rfl, rfl⟩) (by decide) rfl (fun lv el => ?_)
    have l0 := tm_lk el l0 rfl (by decide)
    have l1 := tm_lk el l1 rfl (by decide)
    have l2 := tm_lk el l2 rfl (by decide)
    have l4 := tm_lk el l4 rfl (by decide)
    have l5 := tm_lk el l5 rfl (by decide)
    have l6 : lv.lookup 6 = some (.int r1) := tm_lks el
    clear el
    refine m_ald (pc' := 176) cd_Mo_begins rfl (Or.inr ⟨_, rfl, rfl, rfl⟩) l0 rfl rfl ?_
    refine m_ild (pc' := 177) cd_Mo_begins rfl (Or.inr ⟨_, rfl, rfl, rfl⟩) l1 rfl ?_
    refine m_k1 (v := 1) (pc' := 178) cd_Mo_begins rfl (by decide) rfl ?_
    refine m_ci (pc' := 181) cd_Mo_begins rfl rfl rfl rfl rfl cd_Mo_drawn rfl (Nat.le_of_ble_eq_true rfl) (m_drawn (rt := true) (xd := (nI s)) (xp := 2) (by exact MT_i hM1 rfl rfl rfl rfl rfl rfl rfl rfl rfl rfl) (by omega) (show rc (A1 1) T1.length < 1000 by omega) (by show nI (List.length DL + 1) = nI (List.length (DL ++ [((nI s), 0)])); exact congrArg nI (by simp)) (by rw [show List.length (DL ++ [((nI s), 0)]) = (DL.length + 1) by simp]; omega) (fun f2 A2 T2 r2 hx2 hr2 => ?_))
    obtain ⟨p2, q2, s2, hM2⟩ := hx2
    have hM2 : MT f2 A2 T2 _ _ _ := MT_i hM2 rfl rfl rfl rfl rfl rfl rfl rfl rfl rfl
    have s2 : rc (A2 1) T2.length ≤ rc (A1 1) T1.length + 0 := s2
    rw [show List.length (DL ++ [((nI s), 0)]) = (DL.length + 1) by simp] at hr2
    show mg _ _ _ 181 _ [.int r2] _ _
    refine m_ist (pc' := 183) cd_Mo_begins rfl (Or.inl ⟨rfl, rfl⟩) (by decide) rfl (fun lv el => ?_)
    have l0 := tm_lk el l0 rfl (by decide)
    have l1 := tm_lk el l1 rfl (by decide)
    have l2 := tm_lk el l2 rfl (by decide)
    have l4 := tm_lk el l4 rfl (by decide)
    have l5 := tm_lk el l5 rfl (by decide)
    have l6 := tm_lk el l6 rfl (by decide)
    have l7 : lv.lookup 7 = some (.int r2) := tm_lks el
    clear el
    refine m_ald (pc' := 184) cd_Mo_begins rfl (Or.inr ⟨_, rfl, rfl, rfl⟩) l0 rfl rfl ?_
    refine m_ald (pc' := 185) cd_Mo_begins rfl (Or.inr ⟨_, rfl, rfl, rfl⟩) l0 rfl rfl ?_
    refine m_ald (pc' := 186) cd_Mo_begins rfl (Or.inr ⟨_, rfl, rfl, rfl⟩) l0 rfl rfl ?_
    refine m_fR (r := 15) (a := 16) (ad := 1498) (pc' := 189) rfl rfl cd_Mo_begins rfl rfl rfl rfl rfl ?_
    refine m_ild (pc' := 190) cd_Mo_begins rfl (Or.inr ⟨_, rfl, rfl, rfl⟩) l1 rfl ?_
    refine m_aI (r := 15) (a := 16) (g := (A 16)) (x := (A 16 s)) (pc' := 191) rfl rfl cd_Mo_begins rfl rfl rfl (vp_in_nI (by omega) (by decide)) (congrArg (A 16) (nI_clamp (by omega))) ?_
    refine m_ald (pc' := 192) cd_Mo_begins rfl (Or.inr ⟨_, rfl, rfl, rfl⟩) l0 rfl rfl ?_
    refine m_fR (r := 1) (a := 2) (ad := 1484) (pc' := 195) rfl rfl cd_Mo_begins rfl rfl rfl rfl rfl ?_
    refine m_ild (pc' := 197) cd_Mo_begins rfl (Or.inl ⟨rfl, rfl⟩) l4 rfl ?_
    have hone1 := MT_one hM2 (pfx_get p2 (pfx_get p1 hP)) (Or.inl kP)
    refine m_aI (r := 1) (a := 2) (g := (A2 2)) (x := ((A2 2) ip)) (pc' := 198) rfl rfl cd_Mo_begins rfl rfl rfl (vp_in_nI (by omega) (by decide)) (congrArg (A2 2) (nI_clamp (by omega))) ?_
    refine m_ci (pc' := 201) cd_Mo_begins rfl rfl rfl rfl rfl cd_Mo_shared rfl (Nat.le_of_ble_eq_true rfl) (m_shared (by exact MT_i hM2 rfl rfl rfl rfl rfl rfl rfl rfl rfl rfl) (by omega) (show rc (A2 1) T2.length < 1000 by omega) (tv_mono p2 (tv_mono p1 (hid s hs))) hone1 kis kP1 (fun f3 A3 T3 r3 hx3 hr3 => ?_))
    obtain ⟨p3, q3, s3, hM3⟩ := hx3
    have hM3 : MT f3 A3 T3 _ _ _ := MT_i hM3 rfl rfl rfl rfl rfl rfl rfl rfl rfl rfl
    have s3 : rc (A3 1) T3.length ≤ rc (A2 1) T2.length + 0 := s3
    show mg _ _ _ 201 _ [.int r3, .ref 1482] _ _
    refine m_ald (pc' := 202) cd_Mo_begins rfl (Or.inr ⟨_, rfl, rfl, rfl⟩) l0 rfl rfl ?_
    refine m_ild (pc' := 204) cd_Mo_begins rfl (Or.inl ⟨rfl, rfl⟩) l6 rfl ?_
    refine m_ald (pc' := 205) cd_Mo_begins rfl (Or.inr ⟨_, rfl, rfl, rfl⟩) l0 rfl rfl ?_
    refine m_fR (r := 15) (a := 16) (ad := 1498) (pc' := 208) rfl rfl cd_Mo_begins rfl rfl rfl rfl rfl ?_
    refine m_ild (pc' := 209) cd_Mo_begins rfl (Or.inr ⟨_, rfl, rfl, rfl⟩) l2 rfl ?_
    refine m_aI (r := 15) (a := 16) (g := (A 16)) (x := (A 16 p)) (pc' := 210) rfl rfl cd_Mo_begins rfl rfl rfl (vp_in_nI (by omega) (by decide)) (congrArg (A 16) (nI_clamp (by omega))) ?_
    refine m_ci (pc' := 213) cd_Mo_begins rfl rfl rfl rfl rfl cd_Mo_shared rfl (Nat.le_of_ble_eq_true rfl) (m_shared (by exact MT_i hM3 rfl rfl rfl rfl rfl rfl rfl rfl rfl rfl) (by omega) (show rc (A3 1) T3.length < 1000 by omega) (tv_mono p3 (tv_mono p2 hr1)) (tv_mono p3 (tv_mono p2 (tv_mono p1 (hid p hp)))) rfl kip (fun f4 A4 T4 r4 hx4 hr4 => ?_))
    obtain ⟨p4, q4, s4, hM4⟩ := hx4
    have hM4 : MT f4 A4 T4 _ _ _ := MT_i hM4 rfl rfl rfl rfl rfl rfl rfl rfl rfl rfl
    have s4 : rc (A4 1) T4.length ≤ rc (A3 1) T3.length + 0 := s4
    show mg _ _ _ 213 _ [.int r4, .int r3, .ref 1482] _ _
    refine m_ald (pc' := 214) cd_Mo_begins rfl (Or.inr ⟨_, rfl, rfl, rfl⟩) l0 rfl rfl ?_
    refine m_ild (pc' := 216) cd_Mo_begins rfl (Or.inl ⟨rfl, rfl⟩) l6 rfl ?_
    refine m_ald (pc' := 217) cd_Mo_begins rfl (Or.inr ⟨_, rfl, rfl, rfl⟩) l0 rfl rfl ?_
    refine m_fR (r := 1) (a := 2) (ad := 1484) (pc' := 220) rfl rfl cd_Mo_begins rfl rfl rfl rfl rfl ?_
    refine m_ild (pc' := 222) cd_Mo_begins rfl (Or.inl ⟨rfl, rfl⟩) l4 rfl ?_
    have hone2 := MT_one hM4 (pfx_get p4 (pfx_get p3 (pfx_get p2 (pfx_get p1 hP)))) (Or.inl kP)
    refine m_aI (r := 1) (a := 2) (g := (A4 2)) (x := ((A4 2) ip)) (pc' := 223) rfl rfl cd_Mo_begins rfl rfl rfl (vp_in_nI (by omega) (by decide)) (congrArg (A4 2) (nI_clamp (by omega))) ?_
    refine m_ci (pc' := 226) cd_Mo_begins rfl rfl rfl rfl rfl cd_Mo_shared rfl (Nat.le_of_ble_eq_true rfl) (m_shared (by exact MT_i hM4 rfl rfl rfl rfl rfl rfl rfl rfl rfl rfl) (by omega) (show rc (A4 1) T4.length < 1000 by omega) (tv_mono p4 (tv_mono p3 (tv_mono p2 hr1))) hone2 rfl kP1 (fun f5 A5 T5 r5 hx5 hr5 => ?_))
    obtain ⟨p5, q5, s5, hM5⟩ := hx5
    have hM5 : MT f5 A5 T5 _ _ _ := MT_i hM5 rfl rfl rfl rfl rfl rfl rfl rfl rfl rfl
    have s5 : rc (A5 1) T5.length ≤ rc (A4 1) T4.length + 0 := s5
    show mg _ _ _ 226 _ [.int r5, .int r4, .int r3, .ref 1482] _ _
    refine m_ild (pc' := 228) cd_Mo_begins rfl (Or.inl ⟨rfl, rfl⟩) l5 rfl ?_
    refine m_if1 (t := 235) (pc' := 231) cd_Mo_begins rfl rfl rfl (fun c228 => ?_) (fun c228 => ?_)
    · exact absurd (show ¬ (0 : Int32) = 0 from c228) (by decide)
    · have c228 : (0 : Int32) = 0 := Classical.not_not.mp c228
      refine m_k1 (v := 0) (pc' := 232) cd_Mo_begins rfl (by decide) rfl ?_
      refine m_pure (pc' := 248) (st' := [.int 0, .int r5, .int r4, .int r3, .ref 1482]) cd_Mo_begins rfl rfl (fun _ _ => rfl) ?_
      refine m_ci (pc' := 251) cd_Mo_begins rfl rfl rfl rfl rfl cd_Mo_agreed rfl (Nat.le_of_ble_eq_true rfl) (m_agreed (by exact MT_i hM5 rfl rfl rfl rfl rfl rfl rfl rfl rfl rfl) (by omega) (show rc (A5 1) T5.length < 1000 by omega) (tv_mono p5 (tv_mono p4 hr3)) (tv_mono p5 hr4) hr5 (MT_z hM5) (fun f6 A6 T6 r6 hx6 hr6 => ?_))
      obtain ⟨p6, q6, s6, hM6⟩ := hx6
      have hM6 : MT f6 A6 T6 _ _ _ := MT_i hM6 rfl rfl rfl rfl rfl rfl rfl rfl rfl rfl
      have s6 : rc (A6 1) T6.length ≤ rc (A5 1) T5.length + 0 := s6
      show mg _ _ _ 251 _ [.int r6] _ _
      refine m_ist (pc' := 253) cd_Mo_begins rfl (Or.inl ⟨rfl, rfl⟩) (by decide) rfl (fun lv el => ?_)
      have l0 := tm_lk el l0 rfl (by decide)
      have l1 := tm_lk el l1 rfl (by decide)
      have l2 := tm_lk el l2 rfl (by decide)
      have l4 := tm_lk el l4 rfl (by decide)
      have l5 := tm_lk el l5 rfl (by decide)
      have l6 := tm_lk el l6 rfl (by decide)
      have l7 := tm_lk el l7 rfl (by decide)
      have l8 : lv.lookup 8 = some (.int r6) := tm_lks el
      clear el
      refine m_ald (pc' := 254) cd_Mo_begins rfl (Or.inr ⟨_, rfl, rfl, rfl⟩) l0 rfl rfl ?_
      refine m_ild (pc' := 255) cd_Mo_begins rfl (Or.inr ⟨_, rfl, rfl, rfl⟩) l2 rfl ?_
      refine m_ci (pc' := 258) cd_Mo_begins rfl rfl rfl rfl rfl cd_Mo_newSession rfl (Nat.le_of_ble_eq_true rfl) (m_newSes hp nl2 (by exact n24) ?_)
      show mg _ _ _ 258 _ [.int (nI (30 + (2 * p + 0) * 38))] _ _
      refine m_ist (pc' := 260) cd_Mo_begins rfl (Or.inl ⟨rfl, rfl⟩) (by decide) rfl (fun lv el => ?_)
      have l0 := tm_lk el l0 rfl (by decide)
      have l1 := tm_lk el l1 rfl (by decide)
      have l2 := tm_lk el l2 rfl (by decide)
      have l4 := tm_lk el l4 rfl (by decide)
      have l5 := tm_lk el l5 rfl (by decide)
      have l6 := tm_lk el l6 rfl (by decide)
      have l7 := tm_lk el l7 rfl (by decide)
      have l8 := tm_lk el l8 rfl (by decide)
      have l9 : lv.lookup 9 = some (.int (nI (30 + (2 * p + 0) * 38))) := tm_lks el
      clear el
      refine m_ald (pc' := 261) cd_Mo_begins rfl (Or.inr ⟨_, rfl, rfl, rfl⟩) l0 rfl rfl ?_
      refine m_ild (pc' := 263) cd_Mo_begins rfl (Or.inl ⟨rfl, rfl⟩) l7 rfl ?_
      refine m_ald (pc' := 264) cd_Mo_begins rfl (Or.inr ⟨_, rfl, rfl, rfl⟩) l0 rfl rfl ?_
      refine m_fR (r := 1) (a := 2) (ad := 1484) (pc' := 267) rfl rfl cd_Mo_begins rfl rfl rfl rfl rfl ?_
      refine m_ild (pc' := 269) cd_Mo_begins rfl (Or.inl ⟨rfl, rfl⟩) l4 rfl ?_
      have hone3 := MT_one hM6 (pfx_get p6 (pfx_get p5 (pfx_get p4 (pfx_get p3 (pfx_get p2 (pfx_get p1 hP)))))) (Or.inl kP)
      refine m_aI (r := 1) (a := 2) (g := (A6 2)) (x := ((A6 2) ip)) (pc' := 270) rfl rfl cd_Mo_begins rfl rfl rfl (vp_in_nI (by omega) (by decide)) (congrArg (A6 2) (nI_clamp (by omega))) ?_
      refine m_ci (pc' := 273) cd_Mo_begins rfl rfl rfl rfl rfl cd_Mo_shared rfl (Nat.le_of_ble_eq_true rfl) (m_shared (by exact MT_i hM6 rfl rfl rfl rfl rfl rfl rfl rfl rfl rfl) (by omega) (show rc (A6 1) T6.length < 1000 by omega) (tv_mono p6 (tv_mono p5 (tv_mono p4 (tv_mono p3 hr2)))) hone3 rfl kP1 (fun f7 A7 T7 r7 hx7 hr7 => ?_))
      obtain ⟨p7, q7, s7, hM7⟩ := hx7
      have hM7 : MT f7 A7 T7 _ _ _ := MT_i hM7 rfl rfl rfl rfl rfl rfl rfl rfl rfl rfl
      have s7 : rc (A7 1) T7.length ≤ rc (A6 1) T6.length + 0 := s7
      show mg _ _ _ 273 _ [.int r7] _ _
      refine m_ist (pc' := 275) cd_Mo_begins rfl (Or.inl ⟨rfl, rfl⟩) (by decide) rfl (fun lv el => ?_)
      have l0 := tm_lk el l0 rfl (by decide)
      have l1 := tm_lk el l1 rfl (by decide)
      have l2 := tm_lk el l2 rfl (by decide)
      have l4 := tm_lk el l4 rfl (by decide)
      have l5 := tm_lk el l5 rfl (by decide)
      have l6 := tm_lk el l6 rfl (by decide)
      have l7 := tm_lk el l7 rfl (by decide)
      have l8 := tm_lk el l8 rfl (by decide)
      have l9 := tm_lk el l9 rfl (by decide)
      have l10 : lv.lookup 10 = some (.int r7) := tm_lks el
      clear el
      refine m_ald (pc' := 276) cd_Mo_begins rfl (Or.inr ⟨_, rfl, rfl, rfl⟩) l0 rfl rfl ?_
      refine m_fR (r := 14) (a := 15) (ad := 1497) (pc' := 279) rfl rfl cd_Mo_begins rfl rfl rfl rfl rfl ?_
      refine m_ild (pc' := 281) cd_Mo_begins rfl (Or.inl ⟨rfl, rfl⟩) l9 rfl ?_
      refine m_k1 (v := 0) (pc' := 282) cd_Mo_begins rfl (by decide) rfl ?_
      refine m_pure (pc' := 283) (st' := [.int ((nI (30 + (2 * p + 0) * 38)) + 0), .ref 1497]) cd_Mo_begins rfl rfl (fun _ _ => rfl) ?_
      refine m_eq (show ((nI (30 + (2 * p + 0) * 38)) + 0 : Int32) = nI ((30 + (2 * p + 0) * 38) + 0) from nI_add (30 + (2 * p + 0) * 38) 0) ?_
      refine m_ald (pc' := 284) cd_Mo_begins rfl (Or.inr ⟨_, rfl, rfl, rfl⟩) l0 rfl rfl ?_
      refine m_ild (pc' := 286) cd_Mo_begins rfl (Or.inl ⟨rfl, rfl⟩) l6 rfl ?_
      refine m_ci (pc' := 289) cd_Mo_begins rfl rfl rfl rfl rfl cd_Mo_publicOf rfl (Nat.le_of_ble_eq_true rfl) (m_publicOf (by exact MT_i hM7 rfl rfl rfl rfl rfl rfl rfl rfl rfl rfl) (by omega) (show rc (A7 1) T7.length < 1000 by omega) (tv_mono p7 (tv_mono p6 (tv_mono p5 (tv_mono p4 (tv_mono p3 (tv_mono p2 hr1)))))) rfl (fun f8 A8 T8 r8 hx8 hr8 => ?_))
      obtain ⟨p8, q8, s8, hM8⟩ := hx8
      have hM8 : MT f8 A8 T8 _ _ _ := MT_i hM8 rfl rfl rfl rfl rfl rfl rfl rfl rfl rfl
      have s8 : rc (A8 1) T8.length ≤ rc (A7 1) T7.length + 0 := s8
      show mg _ _ _ 289 _ [.int r8, .int (nI ((30 + (2 * p + 0) * 38) + 0)), .ref 1497] _ _
      refine m_aS (r := 14) (a := 15) (g := (upd (frP (A 15) (30 + (2 * p + 0) * 38) 38 0) (24 + p) (nI (min (l.length + 1) 2)))) (p := ((30 + (2 * p + 0) * 38) + 0)) (pc' := 290) rfl rfl cd_Mo_begins rfl rfl rfl (vp_in_nI (by omega) (by decide)) (nI_clamp (by omega)) ?_
      refine m_ald (pc' := 291) cd_Mo_begins rfl (Or.inr ⟨_, rfl, rfl, rfl⟩) l0 rfl rfl ?_
      refine m_fR (r := 14) (a := 15) (ad := 1497) (pc' := 294) rfl rfl cd_Mo_begins rfl rfl rfl rfl rfl ?_
      refine m_ild (pc' := 296) cd_Mo_begins rfl (Or.inl ⟨rfl, rfl⟩) l9 rfl ?_
      refine m_k1 (v := 1) (pc' := 297) cd_Mo_begins rfl (by decide) rfl ?_
      refine m_pure (pc' := 298) (st' := [.int ((nI (30 + (2 * p + 0) * 38)) + 1), .ref 1497]) cd_Mo_begins rfl rfl (fun _ _ => rfl) ?_
      refine m_eq (show ((nI (30 + (2 * p + 0) * 38)) + 1 : Int32) = nI ((30 + (2 * p + 0) * 38) + 1) from nI_add (30 + (2 * p + 0) * 38) 1) ?_
      refine m_ald (pc' := 299) cd_Mo_begins rfl (Or.inr ⟨_, rfl, rfl, rfl⟩) l0 rfl rfl ?_
      refine m_k1 (v := 4) (pc' := 300) cd_Mo_begins rfl (by decide) rfl ?_
      refine m_ild (pc' := 302) cd_Mo_begins rfl (Or.inl ⟨rfl, rfl⟩) l8 rfl ?_
      refine m_ild (pc' := 304) cd_Mo_begins rfl (Or.inl ⟨rfl, rfl⟩) l10 rfl ?_
      refine m_ci (pc' := 307) cd_Mo_begins rfl rfl rfl rfl rfl cd_Mo_mix rfl (Nat.le_of_ble_eq_true rfl) (m_mix (by exact MT_i hM8 rfl rfl rfl rfl rfl rfl rfl rfl rfl rfl) (by omega) (show rc (A8 1) T8.length < 1000 by omega) (tv_mono p8 (tv_mono p7 hr6)) (tv_mono p8 hr7) (fun f9 A9 T9 r9 hx9 hr9 => ?_))
      obtain ⟨p9, q9, s9, hM9⟩ := hx9
      have hM9 : MT f9 A9 T9 _ _ _ := MT_i hM9 rfl rfl rfl rfl rfl rfl rfl rfl rfl rfl
      have s9 : rc (A9 1) T9.length ≤ rc (A8 1) T8.length + 0 := s9
      show mg _ _ _ 307 _ [.int r9, .int (nI ((30 + (2 * p + 0) * 38) + 1)), .ref 1497] _ _
      refine m_aS (r := 14) (a := 15) (g := (upd (upd (frP (A 15) (30 + (2 * p + 0) * 38) 38 0) (24 + p) (nI (min (l.length + 1) 2))) ((30 + (2 * p + 0) * 38) + 0) r8)) (p := ((30 + (2 * p + 0) * 38) + 1)) (pc' := 308) rfl rfl cd_Mo_begins rfl rfl rfl (vp_in_nI (by omega) (by decide)) (nI_clamp (by omega)) ?_
      refine m_ald (pc' := 309) cd_Mo_begins rfl (Or.inr ⟨_, rfl, rfl, rfl⟩) l0 rfl rfl ?_
      refine m_fR (r := 14) (a := 15) (ad := 1497) (pc' := 312) rfl rfl cd_Mo_begins rfl rfl rfl rfl rfl ?_
      refine m_ild (pc' := 314) cd_Mo_begins rfl (Or.inl ⟨rfl, rfl⟩) l9 rfl ?_
      refine m_k1 (v := 2) (pc' := 315) cd_Mo_begins rfl (by decide) rfl ?_
      refine m_pure (pc' := 316) (st' := [.int ((nI (30 + (2 * p + 0) * 38)) + 2), .ref 1497]) cd_Mo_begins rfl rfl (fun _ _ => rfl) ?_
      refine m_eq (show ((nI (30 + (2 * p + 0) * 38)) + 2 : Int32) = nI ((30 + (2 * p + 0) * 38) + 2) from nI_add (30 + (2 * p + 0) * 38) 2) ?_
      refine m_ild (pc' := 318) cd_Mo_begins rfl (Or.inl ⟨rfl, rfl⟩) l7 rfl ?_
      refine m_aS (r := 14) (a := 15) (g := (upd (upd (upd (frP (A 15) (30 + (2 * p + 0) * 38) 38 0) (24 + p) (nI (min (l.length + 1) 2))) ((30 + (2 * p + 0) * 38) + 0) r8) ((30 + (2 * p + 0) * 38) + 1) r9)) (p := ((30 + (2 * p + 0) * 38) + 2)) (pc' := 319) rfl rfl cd_Mo_begins rfl rfl rfl (vp_in_nI (by omega) (by decide)) (nI_clamp (by omega)) ?_
      rw [fset_fset]
      refine m_ald (pc' := 320) cd_Mo_begins rfl (Or.inr ⟨_, rfl, rfl, rfl⟩) l0 rfl rfl ?_
      refine m_fR (r := 14) (a := 15) (ad := 1497) (pc' := 323) rfl rfl cd_Mo_begins rfl rfl rfl rfl rfl ?_
      refine m_ild (pc' := 325) cd_Mo_begins rfl (Or.inl ⟨rfl, rfl⟩) l9 rfl ?_
      refine m_k1 (v := 3) (pc' := 326) cd_Mo_begins rfl (by decide) rfl ?_
      refine m_pure (pc' := 327) (st' := [.int ((nI (30 + (2 * p + 0) * 38)) + 3), .ref 1497]) cd_Mo_begins rfl rfl (fun _ _ => rfl) ?_
      refine m_eq (show ((nI (30 + (2 * p + 0) * 38)) + 3 : Int32) = nI ((30 + (2 * p + 0) * 38) + 3) from nI_add (30 + (2 * p + 0) * 38) 3) ?_
      refine m_ild (pc' := 329) cd_Mo_begins rfl (Or.inl ⟨rfl, rfl⟩) l4 rfl ?_
      refine m_aS (r := 14) (a := 15) (g := (upd (upd (upd (upd (frP (A 15) (30 + (2 * p + 0) * 38) 38 0) (24 + p) (nI (min (l.length + 1) 2))) ((30 + (2 * p + 0) * 38) + 0) r8) ((30 + (2 * p + 0) * 38) + 1) r9) ((30 + (2 * p + 0) * 38) + 2) r2)) (p := ((30 + (2 * p + 0) * 38) + 3)) (pc' := 330) rfl rfl cd_Mo_begins rfl rfl rfl (vp_in_nI (by omega) (by decide)) (nI_clamp (by omega)) ?_
      rw [fset_fset]
      refine m_ald (pc' := 331) cd_Mo_begins rfl (Or.inr ⟨_, rfl, rfl, rfl⟩) l0 rfl rfl ?_
      refine m_fR (r := 14) (a := 15) (ad := 1497) (pc' := 334) rfl rfl cd_Mo_begins rfl rfl rfl rfl rfl ?_
      refine m_ild (pc' := 336) cd_Mo_begins rfl (Or.inl ⟨rfl, rfl⟩) l9 rfl ?_
      refine m_k1 (v := 4) (pc' := 337) cd_Mo_begins rfl (by decide) rfl ?_
      refine m_pure (pc' := 338) (st' := [.int ((nI (30 + (2 * p + 0) * 38)) + 4), .ref 1497]) cd_Mo_begins rfl rfl (fun _ _ => rfl) ?_
      refine m_eq (show ((nI (30 + (2 * p + 0) * 38)) + 4 : Int32) = nI ((30 + (2 * p + 0) * 38) + 4) from nI_add (30 + (2 * p + 0) * 38) 4) ?_
      refine m_ald (pc' := 339) cd_Mo_begins rfl (Or.inr ⟨_, rfl, rfl, rfl⟩) l0 rfl rfl ?_
      refine m_k1 (v := 5) (pc' := 340) cd_Mo_begins rfl (by decide) rfl ?_
      refine m_ild (pc' := 342) cd_Mo_begins rfl (Or.inl ⟨rfl, rfl⟩) l8 rfl ?_
      refine m_ild (pc' := 344) cd_Mo_begins rfl (Or.inl ⟨rfl, rfl⟩) l10 rfl ?_
      refine m_ci (pc' := 347) cd_Mo_begins rfl rfl rfl rfl rfl cd_Mo_mix rfl (Nat.le_of_ble_eq_true rfl) (m_mix (by exact MT_i hM9 rfl rfl rfl rfl rfl rfl rfl rfl rfl rfl) (by omega) (show rc (A9 1) T9.length < 1000 by omega) (tv_mono p9 (tv_mono p8 (tv_mono p7 hr6))) (tv_mono p9 (tv_mono p8 hr7)) (fun f10 A10 T10 r10 hx10 hr10 => ?_))
      obtain ⟨p10, q10, s10, hM10⟩ := hx10
      have hM10 : MT f10 A10 T10 _ _ _ := MT_i hM10 rfl rfl rfl rfl rfl rfl rfl rfl rfl rfl
      have s10 : rc (A10 1) T10.length ≤ rc (A9 1) T9.length + 0 := s10
      show mg _ _ _ 347 _ [.int r10, .int (nI ((30 + (2 * p + 0) * 38) + 4)), .ref 1497] _ _
      refine m_aS (r := 14) (a := 15) (g := (upd (upd (upd (upd (upd (frP (A 15) (30 + (2 * p + 0) * 38) 38 0) (24 + p) (nI (min (l.length + 1) 2))) ((30 + (2 * p + 0) * 38) + 0) r8) ((30 + (2 * p + 0) * 38) + 1) r9) ((30 + (2 * p + 0) * 38) + 2) r2) ((30 + (2 * p + 0) * 38) + 3) (nI ip))) (p := ((30 + (2 * p + 0) * 38) + 4)) (pc' := 348) rfl rfl cd_Mo_begins rfl rfl rfl (vp_in_nI (by omega) (by decide)) (nI_clamp (by omega)) ?_
      refine m_ald (pc' := 349) cd_Mo_begins rfl (Or.inr ⟨_, rfl, rfl, rfl⟩) l0 rfl rfl ?_
      refine m_fR (r := 14) (a := 15) (ad := 1497) (pc' := 352) rfl rfl cd_Mo_begins rfl rfl rfl rfl rfl ?_
      refine m_ild (pc' := 354) cd_Mo_begins rfl (Or.inl ⟨rfl, rfl⟩) l9 rfl ?_
      refine m_k2 (v := 9) (pc' := 356) cd_Mo_begins rfl (by decide) rfl ?_
      refine m_pure (pc' := 357) (st' := [.int ((nI (30 + (2 * p + 0) * 38)) + 9), .ref 1497]) cd_Mo_begins rfl rfl (fun _ _ => rfl) ?_
      refine m_eq (show ((nI (30 + (2 * p + 0) * 38)) + 9 : Int32) = nI ((30 + (2 * p + 0) * 38) + 9) from nI_add (30 + (2 * p + 0) * 38) 9) ?_
      refine m_k1 (v := 1) (pc' := 358) cd_Mo_begins rfl (by decide) rfl ?_
      refine m_aS (r := 14) (a := 15) (g := (upd (upd (upd (upd (upd (upd (frP (A 15) (30 + (2 * p + 0) * 38) 38 0) (24 + p) (nI (min (l.length + 1) 2))) ((30 + (2 * p + 0) * 38) + 0) r8) ((30 + (2 * p + 0) * 38) + 1) r9) ((30 + (2 * p + 0) * 38) + 2) r2) ((30 + (2 * p + 0) * 38) + 3) (nI ip)) ((30 + (2 * p + 0) * 38) + 4) r10)) (p := ((30 + (2 * p + 0) * 38) + 9)) (pc' := 359) rfl rfl cd_Mo_begins rfl rfl rfl (vp_in_nI (by omega) (by decide)) (nI_clamp (by omega)) ?_
      rw [fset_fset]
      refine m_ald (pc' := 360) cd_Mo_begins rfl (Or.inr ⟨_, rfl, rfl, rfl⟩) l0 rfl rfl ?_
      refine m_fR (r := 14) (a := 15) (ad := 1497) (pc' := 363) rfl rfl cd_Mo_begins rfl rfl rfl rfl rfl ?_
      refine m_ild (pc' := 365) cd_Mo_begins rfl (Or.inl ⟨rfl, rfl⟩) l9 rfl ?_
      refine m_k2 (v := 10) (pc' := 367) cd_Mo_begins rfl (by decide) rfl ?_
      refine m_pure (pc' := 368) (st' := [.int ((nI (30 + (2 * p + 0) * 38)) + 10), .ref 1497]) cd_Mo_begins rfl rfl (fun _ _ => rfl) ?_
      refine m_eq (show ((nI (30 + (2 * p + 0) * 38)) + 10 : Int32) = nI ((30 + (2 * p + 0) * 38) + 10) from nI_add (30 + (2 * p + 0) * 38) 10) ?_
      refine m_ild (pc' := 370) cd_Mo_begins rfl (Or.inl ⟨rfl, rfl⟩) l4 rfl ?_
      refine m_aS (r := 14) (a := 15) (g := (upd (upd (upd (upd (upd (upd (upd (frP (A 15) (30 + (2 * p + 0) * 38) 38 0) (24 + p) (nI (min (l.length + 1) 2))) ((30 + (2 * p + 0) * 38) + 0) r8) ((30 + (2 * p + 0) * 38) + 1) r9) ((30 + (2 * p + 0) * 38) + 2) r2) ((30 + (2 * p + 0) * 38) + 3) (nI ip)) ((30 + (2 * p + 0) * 38) + 4) r10) ((30 + (2 * p + 0) * 38) + 9) 1)) (p := ((30 + (2 * p + 0) * 38) + 10)) (pc' := 371) rfl rfl cd_Mo_begins rfl rfl rfl (vp_in_nI (by omega) (by decide)) (nI_clamp (by omega)) ?_
      rw [fset_fset]
      refine m_ald (pc' := 372) cd_Mo_begins rfl (Or.inr ⟨_, rfl, rfl, rfl⟩) l0 rfl rfl ?_
      refine m_fR (r := 14) (a := 15) (ad := 1497) (pc' := 375) rfl rfl cd_Mo_begins rfl rfl rfl rfl rfl ?_
      refine m_ild (pc' := 377) cd_Mo_begins rfl (Or.inl ⟨rfl, rfl⟩) l9 rfl ?_
      refine m_k2 (v := 11) (pc' := 379) cd_Mo_begins rfl (by decide) rfl ?_
      refine m_pure (pc' := 380) (st' := [.int ((nI (30 + (2 * p + 0) * 38)) + 11), .ref 1497]) cd_Mo_begins rfl rfl (fun _ _ => rfl) ?_
      refine m_eq (show ((nI (30 + (2 * p + 0) * 38)) + 11 : Int32) = nI ((30 + (2 * p + 0) * 38) + 11) from nI_add (30 + (2 * p + 0) * 38) 11) ?_
      refine m_ild (pc' := 382) cd_Mo_begins rfl (Or.inl ⟨rfl, rfl⟩) l5 rfl ?_
      refine m_aS (r := 14) (a := 15) (g := (upd (upd (upd (upd (upd (upd (upd (upd (frP (A 15) (30 + (2 * p + 0) * 38) 38 0) (24 + p) (nI (min (l.length + 1) 2))) ((30 + (2 * p + 0) * 38) + 0) r8) ((30 + (2 * p + 0) * 38) + 1) r9) ((30 + (2 * p + 0) * 38) + 2) r2) ((30 + (2 * p + 0) * 38) + 3) (nI ip)) ((30 + (2 * p + 0) * 38) + 4) r10) ((30 + (2 * p + 0) * 38) + 9) 1) ((30 + (2 * p + 0) * 38) + 10) (nI ip))) (p := ((30 + (2 * p + 0) * 38) + 11)) (pc' := 383) rfl rfl cd_Mo_begins rfl rfl rfl (vp_in_nI (by omega) (by decide)) (nI_clamp (by omega)) ?_
      rw [fset_fset]
      refine m_ald (pc' := 384) cd_Mo_begins rfl (Or.inr ⟨_, rfl, rfl, rfl⟩) l0 rfl rfl ?_
      refine m_fR (r := 14) (a := 15) (ad := 1497) (pc' := 387) rfl rfl cd_Mo_begins rfl rfl rfl rfl rfl ?_
      refine m_ild (pc' := 389) cd_Mo_begins rfl (Or.inl ⟨rfl, rfl⟩) l9 rfl ?_
      refine m_k2 (v := 37) (pc' := 391) cd_Mo_begins rfl (by decide) rfl ?_
      refine m_pure (pc' := 392) (st' := [.int ((nI (30 + (2 * p + 0) * 38)) + 37), .ref 1497]) cd_Mo_begins rfl rfl (fun _ _ => rfl) ?_
      refine m_eq (show ((nI (30 + (2 * p + 0) * 38)) + 37 : Int32) = nI ((30 + (2 * p + 0) * 38) + 37) from nI_add (30 + (2 * p + 0) * 38) 37) ?_
      refine m_ild (pc' := 394) cd_Mo_begins rfl (Or.inl ⟨rfl, rfl⟩) l5 rfl ?_
      refine m_if1 (t := 401) (pc' := 397) cd_Mo_begins rfl rfl rfl (fun c394 => ?_) (fun c394 => ?_)
      · exact absurd (show ¬ (0 : Int32) = 0 from c394) (by decide)
      · have c394 : (0 : Int32) = 0 := Classical.not_not.mp c394
        refine m_k1 (v := 0) (pc' := 398) cd_Mo_begins rfl (by decide) rfl ?_
        refine m_pure (pc' := 402) (st' := [.int 0, .int (nI ((30 + (2 * p + 0) * 38) + 37)), .ref 1497]) cd_Mo_begins rfl rfl (fun _ _ => rfl) ?_
        refine m_aS (r := 14) (a := 15) (g := (upd (upd (upd (upd (upd (upd (upd (upd (upd (frP (A 15) (30 + (2 * p + 0) * 38) 38 0) (24 + p) (nI (min (l.length + 1) 2))) ((30 + (2 * p + 0) * 38) + 0) r8) ((30 + (2 * p + 0) * 38) + 1) r9) ((30 + (2 * p + 0) * 38) + 2) r2) ((30 + (2 * p + 0) * 38) + 3) (nI ip)) ((30 + (2 * p + 0) * 38) + 4) r10) ((30 + (2 * p + 0) * 38) + 9) 1) ((30 + (2 * p + 0) * 38) + 10) (nI ip)) ((30 + (2 * p + 0) * 38) + 11) 0)) (p := ((30 + (2 * p + 0) * 38) + 37)) (pc' := 403) rfl rfl cd_Mo_begins rfl rfl rfl (vp_in_nI (by omega) (by decide)) (nI_clamp (by omega)) ?_
        rw [fset_fset]
        refine m_k1 (v := 1) (pc' := 404) cd_Mo_begins rfl (by decide) rfl ?_
        have hsn := se_new (w := A 15) (b := false) hp (((((((((p1.trans p2).trans p3).trans p4).trans p5).trans p6).trans p7).trans p8).trans p9).trans p10) hq (MT_z hM10) (tv_mono p10 (tv_mono p9 hr8)) (tv_mono p10 hr9) (tv_mono p10 (tv_mono p9 (tv_mono p8 (tv_mono p7 (tv_mono p6 (tv_mono p5 (tv_mono p4 (tv_mono p3 hr2)))))))) (tv_mono p10 (tv_mono p9 (tv_mono p8 (tv_mono p7 (tv_mono p6 (tv_mono p5 (tv_mono p4 (tv_mono p3 (tv_mono p2 (tv_mono p1 ⟨ip, rfl, hP⟩)))))))))) hr10 (MT_z hM10)
        have eop : (op_ses (ids s) (Tsec (nI DL.length) (nI s) 0) (Tsec (nI (DL.length + 1)) (nI s) 2) (ids p) P tz) = ((P, tz, 0, []), Tpub (Tsec (nI DL.length) (nI s) 0), (Tmx 4 (if tnil tz = true then Tmx 3 (Tmx 1 (Tmx 0 (Tsh (ids s) (pt P 0)) (Tsh (Tsec (nI DL.length) (nI s) 0) (ids p))) (Tsh (Tsec (nI DL.length) (nI s) 0) (pt P 0))) tz else Tmx 2 (Tmx 1 (Tmx 0 (Tsh (ids s) (pt P 0)) (Tsh (Tsec (nI DL.length) (nI s) 0) (ids p))) (Tsh (Tsec (nI DL.length) (nI s) 0) (pt P 0))) tz) (Tsh (Tsec (nI (DL.length + 1)) (nI s) 2) (pt P 0))), (Tsec (nI (DL.length + 1)) (nI s) 2), (Tmx 5 (if tnil tz = true then Tmx 3 (Tmx 1 (Tmx 0 (Tsh (ids s) (pt P 0)) (Tsh (Tsec (nI DL.length) (nI s) 0) (ids p))) (Tsh (Tsec (nI DL.length) (nI s) 0) (pt P 0))) tz else Tmx 2 (Tmx 1 (Tmx 0 (Tsh (ids s) (pt P 0)) (Tsh (Tsec (nI DL.length) (nI s) 0) (ids p))) (Tsh (Tsec (nI DL.length) (nI s) 0) (pt P 0))) tz) (Tsh (Tsec (nI (DL.length + 1)) (nI s) 2) (pt P 0))), 0, 0, true, P, tz, false) := by
          unfold op_ses op_root ss_start ss_bear
          rw [show tnil tz = true from rfl]
          rfl
        rw [← eop] at hsn
        have eDL : ((DL ++ [((nI s), 0)]) ++ [((nI s), 2)]) = DL ++ [(nI s, 0), (nI s, 2)] := by simp
        rw [eDL] at hM10
        have edl : List.length (DL ++ [(nI s, (0 : Int32))]) = DL.length + 1 := by simp
        exact m_retz cd_Mo_begins rfl (Or.inr rfl) ⟨_, rfl, (mB_end (f := f) (A := A) (fun k q => by have e0 : ¬ (k = 0 ∨ k = 7) := (by omega); have e1 : ¬ k = 11 := (by omega); simp only [fset, mjF, e0, e1, if_false]) (fun j q => by have e0 : ¬ (1 ≤ j ∧ j ≤ 8) := (by omega); have e10 : ¬ j = 10 := (by omega); have e11 : ¬ j = 11 := (by omega); have e12 : ¬ j = 12 := (by omega); have e13 : ¬ j = 13 := (by omega); have e15 : ¬ j = 15 := (by omega); simp only [fset, mjA, drA, e0, e10, e11, e12, e13, e15, if_false]) (kk _ _ _ (((((((((p1.trans p2).trans p3).trans p4).trans p5).trans p6).trans p7).trans p8).trans p9).trans p10) (by omega) (show rc (A10 1) _ ≤ _ by omega) (by exact MT_i hM10 rfl rfl rfl rfl rfl rfl rfl rfl rfl rfl) (by show nI _ = _; rw [edl]) ⟨by show upd (upd _ _ _) _ _ = _; rw [edl]; rfl, by show upd (upd _ _ _) _ _ = _; rw [edl]; rfl, by show upd (upd _ _ _) _ _ = _; rw [edl]; rfl, by show upd (upd _ _ _) _ _ = _; rw [edl]; rfl⟩ rfl hsn.1 hsn.2))⟩
  · obtain ⟨io, rfl, hio⟩ := hO
    have kO2 := kO hOz
    have kO1 := MT_pub1 hM ⟨io, rfl, hio⟩ kO2
    have hio2 := tv_lt hio
    refine m_ald (pc' := 168) cd_Mo_begins rfl (Or.inr ⟨_, rfl, rfl, rfl⟩) l0 rfl rfl ?_
    refine m_ild (pc' := 169) cd_Mo_begins rfl (Or.inr ⟨_, rfl, rfl, rfl⟩) l1 rfl ?_
    refine m_k1 (v := 0) (pc' := 170) cd_Mo_begins rfl (by decide) rfl ?_
    refine m_ci (pc' := 173) cd_Mo_begins rfl rfl rfl rfl rfl cd_Mo_drawn rfl (Nat.le_of_ble_eq_true rfl) (m_drawn (rt := false) (xd := (nI s)) (xp := 0) (by exact MT_i hM rfl rfl rfl rfl rfl rfl rfl rfl rfl rfl) (by omega) (show rc (A 1) T.length < 1000 by omega) h11 (by omega) (fun f1 A1 T1 r1 hx1 hr1 => ?_))
    obtain ⟨p1, q1, s1, hM1⟩ := hx1
    have hM1 : MT f1 A1 T1 _ _ _ := MT_i hM1 rfl rfl rfl rfl rfl rfl rfl rfl rfl rfl
    have s1 : rc (A1 1) T1.length ≤ rc (A 1) T.length + 0 := s1
    show mg _ _ _ 173 _ [.int r1] _ _
    refine m_ist (pc' := 175) cd_Mo_begins rfl (Or.inl ⟨rfl, rfl⟩) (by decide) rfl (fun lv el => ?_)
    have l0 := tm_lk el l0 rfl (by decide)
    have l1 := tm_lk el l1 rfl (by decide)
    have l2 := tm_lk el l2 rfl (by decide)
    have l4 := tm_lk el l4 rfl (by decide)
    have l5 := tm_lk el l5 rfl (by decide)
    have l6 : lv.lookup 6 = some (.int r1) := tm_lks el
    clear el
    refine m_ald (pc' := 176) cd_Mo_begins rfl (Or.inr ⟨_, rfl, rfl, rfl⟩) l0 rfl rfl ?_
    refine m_ild (pc' := 177) cd_Mo_begins rfl (Or.inr ⟨_, rfl, rfl, rfl⟩) l1 rfl ?_
    refine m_k1 (v := 1) (pc' := 178) cd_Mo_begins rfl (by decide) rfl ?_
    refine m_ci (pc' := 181) cd_Mo_begins rfl rfl rfl rfl rfl cd_Mo_drawn rfl (Nat.le_of_ble_eq_true rfl) (m_drawn (rt := true) (xd := (nI s)) (xp := 2) (by exact MT_i hM1 rfl rfl rfl rfl rfl rfl rfl rfl rfl rfl) (by omega) (show rc (A1 1) T1.length < 1000 by omega) (by show nI (List.length DL + 1) = nI (List.length (DL ++ [((nI s), 0)])); exact congrArg nI (by simp)) (by rw [show List.length (DL ++ [((nI s), 0)]) = (DL.length + 1) by simp]; omega) (fun f2 A2 T2 r2 hx2 hr2 => ?_))
    obtain ⟨p2, q2, s2, hM2⟩ := hx2
    have hM2 : MT f2 A2 T2 _ _ _ := MT_i hM2 rfl rfl rfl rfl rfl rfl rfl rfl rfl rfl
    have s2 : rc (A2 1) T2.length ≤ rc (A1 1) T1.length + 0 := s2
    rw [show List.length (DL ++ [((nI s), 0)]) = (DL.length + 1) by simp] at hr2
    show mg _ _ _ 181 _ [.int r2] _ _
    refine m_ist (pc' := 183) cd_Mo_begins rfl (Or.inl ⟨rfl, rfl⟩) (by decide) rfl (fun lv el => ?_)
    have l0 := tm_lk el l0 rfl (by decide)
    have l1 := tm_lk el l1 rfl (by decide)
    have l2 := tm_lk el l2 rfl (by decide)
    have l4 := tm_lk el l4 rfl (by decide)
    have l5 := tm_lk el l5 rfl (by decide)
    have l6 := tm_lk el l6 rfl (by decide)
    have l7 : lv.lookup 7 = some (.int r2) := tm_lks el
    clear el
    refine m_ald (pc' := 184) cd_Mo_begins rfl (Or.inr ⟨_, rfl, rfl, rfl⟩) l0 rfl rfl ?_
    refine m_ald (pc' := 185) cd_Mo_begins rfl (Or.inr ⟨_, rfl, rfl, rfl⟩) l0 rfl rfl ?_
    refine m_ald (pc' := 186) cd_Mo_begins rfl (Or.inr ⟨_, rfl, rfl, rfl⟩) l0 rfl rfl ?_
    refine m_fR (r := 15) (a := 16) (ad := 1498) (pc' := 189) rfl rfl cd_Mo_begins rfl rfl rfl rfl rfl ?_
    refine m_ild (pc' := 190) cd_Mo_begins rfl (Or.inr ⟨_, rfl, rfl, rfl⟩) l1 rfl ?_
    refine m_aI (r := 15) (a := 16) (g := (A 16)) (x := (A 16 s)) (pc' := 191) rfl rfl cd_Mo_begins rfl rfl rfl (vp_in_nI (by omega) (by decide)) (congrArg (A 16) (nI_clamp (by omega))) ?_
    refine m_ald (pc' := 192) cd_Mo_begins rfl (Or.inr ⟨_, rfl, rfl, rfl⟩) l0 rfl rfl ?_
    refine m_fR (r := 1) (a := 2) (ad := 1484) (pc' := 195) rfl rfl cd_Mo_begins rfl rfl rfl rfl rfl ?_
    refine m_ild (pc' := 197) cd_Mo_begins rfl (Or.inl ⟨rfl, rfl⟩) l4 rfl ?_
    have hone1 := MT_one hM2 (pfx_get p2 (pfx_get p1 hP)) (Or.inl kP)
    refine m_aI (r := 1) (a := 2) (g := (A2 2)) (x := ((A2 2) ip)) (pc' := 198) rfl rfl cd_Mo_begins rfl rfl rfl (vp_in_nI (by omega) (by decide)) (congrArg (A2 2) (nI_clamp (by omega))) ?_
    refine m_ci (pc' := 201) cd_Mo_begins rfl rfl rfl rfl rfl cd_Mo_shared rfl (Nat.le_of_ble_eq_true rfl) (m_shared (by exact MT_i hM2 rfl rfl rfl rfl rfl rfl rfl rfl rfl rfl) (by omega) (show rc (A2 1) T2.length < 1000 by omega) (tv_mono p2 (tv_mono p1 (hid s hs))) hone1 kis kP1 (fun f3 A3 T3 r3 hx3 hr3 => ?_))
    obtain ⟨p3, q3, s3, hM3⟩ := hx3
    have hM3 : MT f3 A3 T3 _ _ _ := MT_i hM3 rfl rfl rfl rfl rfl rfl rfl rfl rfl rfl
    have s3 : rc (A3 1) T3.length ≤ rc (A2 1) T2.length + 0 := s3
    show mg _ _ _ 201 _ [.int r3, .ref 1482] _ _
    refine m_ald (pc' := 202) cd_Mo_begins rfl (Or.inr ⟨_, rfl, rfl, rfl⟩) l0 rfl rfl ?_
    refine m_ild (pc' := 204) cd_Mo_begins rfl (Or.inl ⟨rfl, rfl⟩) l6 rfl ?_
    refine m_ald (pc' := 205) cd_Mo_begins rfl (Or.inr ⟨_, rfl, rfl, rfl⟩) l0 rfl rfl ?_
    refine m_fR (r := 15) (a := 16) (ad := 1498) (pc' := 208) rfl rfl cd_Mo_begins rfl rfl rfl rfl rfl ?_
    refine m_ild (pc' := 209) cd_Mo_begins rfl (Or.inr ⟨_, rfl, rfl, rfl⟩) l2 rfl ?_
    refine m_aI (r := 15) (a := 16) (g := (A 16)) (x := (A 16 p)) (pc' := 210) rfl rfl cd_Mo_begins rfl rfl rfl (vp_in_nI (by omega) (by decide)) (congrArg (A 16) (nI_clamp (by omega))) ?_
    refine m_ci (pc' := 213) cd_Mo_begins rfl rfl rfl rfl rfl cd_Mo_shared rfl (Nat.le_of_ble_eq_true rfl) (m_shared (by exact MT_i hM3 rfl rfl rfl rfl rfl rfl rfl rfl rfl rfl) (by omega) (show rc (A3 1) T3.length < 1000 by omega) (tv_mono p3 (tv_mono p2 hr1)) (tv_mono p3 (tv_mono p2 (tv_mono p1 (hid p hp)))) rfl kip (fun f4 A4 T4 r4 hx4 hr4 => ?_))
    obtain ⟨p4, q4, s4, hM4⟩ := hx4
    have hM4 : MT f4 A4 T4 _ _ _ := MT_i hM4 rfl rfl rfl rfl rfl rfl rfl rfl rfl rfl
    have s4 : rc (A4 1) T4.length ≤ rc (A3 1) T3.length + 0 := s4
    show mg _ _ _ 213 _ [.int r4, .int r3, .ref 1482] _ _
    refine m_ald (pc' := 214) cd_Mo_begins rfl (Or.inr ⟨_, rfl, rfl, rfl⟩) l0 rfl rfl ?_
    refine m_ild (pc' := 216) cd_Mo_begins rfl (Or.inl ⟨rfl, rfl⟩) l6 rfl ?_
    refine m_ald (pc' := 217) cd_Mo_begins rfl (Or.inr ⟨_, rfl, rfl, rfl⟩) l0 rfl rfl ?_
    refine m_fR (r := 1) (a := 2) (ad := 1484) (pc' := 220) rfl rfl cd_Mo_begins rfl rfl rfl rfl rfl ?_
    refine m_ild (pc' := 222) cd_Mo_begins rfl (Or.inl ⟨rfl, rfl⟩) l4 rfl ?_
    have hone2 := MT_one hM4 (pfx_get p4 (pfx_get p3 (pfx_get p2 (pfx_get p1 hP)))) (Or.inl kP)
    refine m_aI (r := 1) (a := 2) (g := (A4 2)) (x := ((A4 2) ip)) (pc' := 223) rfl rfl cd_Mo_begins rfl rfl rfl (vp_in_nI (by omega) (by decide)) (congrArg (A4 2) (nI_clamp (by omega))) ?_
    refine m_ci (pc' := 226) cd_Mo_begins rfl rfl rfl rfl rfl cd_Mo_shared rfl (Nat.le_of_ble_eq_true rfl) (m_shared (by exact MT_i hM4 rfl rfl rfl rfl rfl rfl rfl rfl rfl rfl) (by omega) (show rc (A4 1) T4.length < 1000 by omega) (tv_mono p4 (tv_mono p3 (tv_mono p2 hr1))) hone2 rfl kP1 (fun f5 A5 T5 r5 hx5 hr5 => ?_))
    obtain ⟨p5, q5, s5, hM5⟩ := hx5
    have hM5 : MT f5 A5 T5 _ _ _ := MT_i hM5 rfl rfl rfl rfl rfl rfl rfl rfl rfl rfl
    have s5 : rc (A5 1) T5.length ≤ rc (A4 1) T4.length + 0 := s5
    show mg _ _ _ 226 _ [.int r5, .int r4, .int r3, .ref 1482] _ _
    refine m_ild (pc' := 228) cd_Mo_begins rfl (Or.inl ⟨rfl, rfl⟩) l5 rfl ?_
    refine m_if1 (t := 235) (pc' := 231) cd_Mo_begins rfl rfl rfl (fun c228 => ?_) (fun c228 => ?_)
    · have c228 : ¬ (nI io) = 0 := c228
      refine m_ald (pc' := 236) cd_Mo_begins rfl (Or.inr ⟨_, rfl, rfl, rfl⟩) l0 rfl rfl ?_
      refine m_ild (pc' := 238) cd_Mo_begins rfl (Or.inl ⟨rfl, rfl⟩) l6 rfl ?_
      refine m_ald (pc' := 239) cd_Mo_begins rfl (Or.inr ⟨_, rfl, rfl, rfl⟩) l0 rfl rfl ?_
      refine m_fR (r := 1) (a := 2) (ad := 1484) (pc' := 242) rfl rfl cd_Mo_begins rfl rfl rfl rfl rfl ?_
      refine m_ild (pc' := 244) cd_Mo_begins rfl (Or.inl ⟨rfl, rfl⟩) l5 rfl ?_
      have hone3 := MT_one hM5 (pfx_get p5 (pfx_get p4 (pfx_get p3 (pfx_get p2 (pfx_get p1 hio))))) (Or.inl kO2)
      refine m_aI (r := 1) (a := 2) (g := (A5 2)) (x := ((A5 2) io)) (pc' := 245) rfl rfl cd_Mo_begins rfl rfl rfl (vp_in_nI (by omega) (by decide)) (congrArg (A5 2) (nI_clamp (by omega))) ?_
      refine m_ci (pc' := 248) cd_Mo_begins rfl rfl rfl rfl rfl cd_Mo_shared rfl (Nat.le_of_ble_eq_true rfl) (m_shared (by exact MT_i hM5 rfl rfl rfl rfl rfl rfl rfl rfl rfl rfl) (by omega) (show rc (A5 1) T5.length < 1000 by omega) (tv_mono p5 (tv_mono p4 (tv_mono p3 (tv_mono p2 hr1)))) hone3 rfl kO1 (fun f6 A6 T6 r6 hx6 hr6 => ?_))
      obtain ⟨p6, q6, s6, hM6⟩ := hx6
      have hM6 : MT f6 A6 T6 _ _ _ := MT_i hM6 rfl rfl rfl rfl rfl rfl rfl rfl rfl rfl
      have s6 : rc (A6 1) T6.length ≤ rc (A5 1) T5.length + 0 := s6
      show mg _ _ _ 248 _ [.int r6, .int r5, .int r4, .int r3, .ref 1482] _ _
      refine m_ci (pc' := 251) cd_Mo_begins rfl rfl rfl rfl rfl cd_Mo_agreed rfl (Nat.le_of_ble_eq_true rfl) (m_agreed (by exact MT_i hM6 rfl rfl rfl rfl rfl rfl rfl rfl rfl rfl) (by omega) (show rc (A6 1) T6.length < 1000 by omega) (tv_mono p6 (tv_mono p5 (tv_mono p4 hr3))) (tv_mono p6 (tv_mono p5 hr4)) (tv_mono p6 hr5) hr6 (fun f7 A7 T7 r7 hx7 hr7 => ?_))
      obtain ⟨p7, q7, s7, hM7⟩ := hx7
      have hM7 : MT f7 A7 T7 _ _ _ := MT_i hM7 rfl rfl rfl rfl rfl rfl rfl rfl rfl rfl
      have s7 : rc (A7 1) T7.length ≤ rc (A6 1) T6.length + 0 := s7
      show mg _ _ _ 251 _ [.int r7] _ _
      refine m_ist (pc' := 253) cd_Mo_begins rfl (Or.inl ⟨rfl, rfl⟩) (by decide) rfl (fun lv el => ?_)
      have l0 := tm_lk el l0 rfl (by decide)
      have l1 := tm_lk el l1 rfl (by decide)
      have l2 := tm_lk el l2 rfl (by decide)
      have l4 := tm_lk el l4 rfl (by decide)
      have l5 := tm_lk el l5 rfl (by decide)
      have l6 := tm_lk el l6 rfl (by decide)
      have l7 := tm_lk el l7 rfl (by decide)
      have l8 : lv.lookup 8 = some (.int r7) := tm_lks el
      clear el
      refine m_ald (pc' := 254) cd_Mo_begins rfl (Or.inr ⟨_, rfl, rfl, rfl⟩) l0 rfl rfl ?_
      refine m_ild (pc' := 255) cd_Mo_begins rfl (Or.inr ⟨_, rfl, rfl, rfl⟩) l2 rfl ?_
      refine m_ci (pc' := 258) cd_Mo_begins rfl rfl rfl rfl rfl cd_Mo_newSession rfl (Nat.le_of_ble_eq_true rfl) (m_newSes hp nl2 (by exact n24) ?_)
      show mg _ _ _ 258 _ [.int (nI (30 + (2 * p + 0) * 38))] _ _
      refine m_ist (pc' := 260) cd_Mo_begins rfl (Or.inl ⟨rfl, rfl⟩) (by decide) rfl (fun lv el => ?_)
      have l0 := tm_lk el l0 rfl (by decide)
      have l1 := tm_lk el l1 rfl (by decide)
      have l2 := tm_lk el l2 rfl (by decide)
      have l4 := tm_lk el l4 rfl (by decide)
      have l5 := tm_lk el l5 rfl (by decide)
      have l6 := tm_lk el l6 rfl (by decide)
      have l7 := tm_lk el l7 rfl (by decide)
      have l8 := tm_lk el l8 rfl (by decide)
      have l9 : lv.lookup 9 = some (.int (nI (30 + (2 * p + 0) * 38))) := tm_lks el
      clear el
      refine m_ald (pc' := 261) cd_Mo_begins rfl (Or.inr ⟨_, rfl, rfl, rfl⟩) l0 rfl rfl ?_
      refine m_ild (pc' := 263) cd_Mo_begins rfl (Or.inl ⟨rfl, rfl⟩) l7 rfl ?_
      refine m_ald (pc' := 264) cd_Mo_begins rfl (Or.inr ⟨_, rfl, rfl, rfl⟩) l0 rfl rfl ?_
      refine m_fR (r := 1) (a := 2) (ad := 1484) (pc' := 267) rfl rfl cd_Mo_begins rfl rfl rfl rfl rfl ?_
      refine m_ild (pc' := 269) cd_Mo_begins rfl (Or.inl ⟨rfl, rfl⟩) l4 rfl ?_
      have hone4 := MT_one hM7 (pfx_get p7 (pfx_get p6 (pfx_get p5 (pfx_get p4 (pfx_get p3 (pfx_get p2 (pfx_get p1 hP))))))) (Or.inl kP)
      refine m_aI (r := 1) (a := 2) (g := (A7 2)) (x := ((A7 2) ip)) (pc' := 270) rfl rfl cd_Mo_begins rfl rfl rfl (vp_in_nI (by omega) (by decide)) (congrArg (A7 2) (nI_clamp (by omega))) ?_
      refine m_ci (pc' := 273) cd_Mo_begins rfl rfl rfl rfl rfl cd_Mo_shared rfl (Nat.le_of_ble_eq_true rfl) (m_shared (by exact MT_i hM7 rfl rfl rfl rfl rfl rfl rfl rfl rfl rfl) (by omega) (show rc (A7 1) T7.length < 1000 by omega) (tv_mono p7 (tv_mono p6 (tv_mono p5 (tv_mono p4 (tv_mono p3 hr2))))) hone4 rfl kP1 (fun f8 A8 T8 r8 hx8 hr8 => ?_))
      obtain ⟨p8, q8, s8, hM8⟩ := hx8
      have hM8 : MT f8 A8 T8 _ _ _ := MT_i hM8 rfl rfl rfl rfl rfl rfl rfl rfl rfl rfl
      have s8 : rc (A8 1) T8.length ≤ rc (A7 1) T7.length + 0 := s8
      show mg _ _ _ 273 _ [.int r8] _ _
      refine m_ist (pc' := 275) cd_Mo_begins rfl (Or.inl ⟨rfl, rfl⟩) (by decide) rfl (fun lv el => ?_)
      have l0 := tm_lk el l0 rfl (by decide)
      have l1 := tm_lk el l1 rfl (by decide)
      have l2 := tm_lk el l2 rfl (by decide)
      have l4 := tm_lk el l4 rfl (by decide)
      have l5 := tm_lk el l5 rfl (by decide)
      have l6 := tm_lk el l6 rfl (by decide)
      have l7 := tm_lk el l7 rfl (by decide)
      have l8 := tm_lk el l8 rfl (by decide)
      have l9 := tm_lk el l9 rfl (by decide)
      have l10 : lv.lookup 10 = some (.int r8) := tm_lks el
      clear el
      refine m_ald (pc' := 276) cd_Mo_begins rfl (Or.inr ⟨_, rfl, rfl, rfl⟩) l0 rfl rfl ?_
      refine m_fR (r := 14) (a := 15) (ad := 1497) (pc' := 279) rfl rfl cd_Mo_begins rfl rfl rfl rfl rfl ?_
      refine m_ild (pc' := 281) cd_Mo_begins rfl (Or.inl ⟨rfl, rfl⟩) l9 rfl ?_
      refine m_k1 (v := 0) (pc' := 282) cd_Mo_begins rfl (by decide) rfl ?_
      refine m_pure (pc' := 283) (st' := [.int ((nI (30 + (2 * p + 0) * 38)) + 0), .ref 1497]) cd_Mo_begins rfl rfl (fun _ _ => rfl) ?_
      refine m_eq (show ((nI (30 + (2 * p + 0) * 38)) + 0 : Int32) = nI ((30 + (2 * p + 0) * 38) + 0) from nI_add (30 + (2 * p + 0) * 38) 0) ?_
      refine m_ald (pc' := 284) cd_Mo_begins rfl (Or.inr ⟨_, rfl, rfl, rfl⟩) l0 rfl rfl ?_
      refine m_ild (pc' := 286) cd_Mo_begins rfl (Or.inl ⟨rfl, rfl⟩) l6 rfl ?_
      refine m_ci (pc' := 289) cd_Mo_begins rfl rfl rfl rfl rfl cd_Mo_publicOf rfl (Nat.le_of_ble_eq_true rfl) (m_publicOf (by exact MT_i hM8 rfl rfl rfl rfl rfl rfl rfl rfl rfl rfl) (by omega) (show rc (A8 1) T8.length < 1000 by omega) (tv_mono p8 (tv_mono p7 (tv_mono p6 (tv_mono p5 (tv_mono p4 (tv_mono p3 (tv_mono p2 hr1))))))) rfl (fun f9 A9 T9 r9 hx9 hr9 => ?_))
      obtain ⟨p9, q9, s9, hM9⟩ := hx9
      have hM9 : MT f9 A9 T9 _ _ _ := MT_i hM9 rfl rfl rfl rfl rfl rfl rfl rfl rfl rfl
      have s9 : rc (A9 1) T9.length ≤ rc (A8 1) T8.length + 0 := s9
      show mg _ _ _ 289 _ [.int r9, .int (nI ((30 + (2 * p + 0) * 38) + 0)), .ref 1497] _ _
      refine m_aS (r := 14) (a := 15) (g := (upd (frP (A 15) (30 + (2 * p + 0) * 38) 38 0) (24 + p) (nI (min (l.length + 1) 2)))) (p := ((30 + (2 * p + 0) * 38) + 0)) (pc' := 290) rfl rfl cd_Mo_begins rfl rfl rfl (vp_in_nI (by omega) (by decide)) (nI_clamp (by omega)) ?_
      refine m_ald (pc' := 291) cd_Mo_begins rfl (Or.inr ⟨_, rfl, rfl, rfl⟩) l0 rfl rfl ?_
      refine m_fR (r := 14) (a := 15) (ad := 1497) (pc' := 294) rfl rfl cd_Mo_begins rfl rfl rfl rfl rfl ?_
      refine m_ild (pc' := 296) cd_Mo_begins rfl (Or.inl ⟨rfl, rfl⟩) l9 rfl ?_
      refine m_k1 (v := 1) (pc' := 297) cd_Mo_begins rfl (by decide) rfl ?_
      refine m_pure (pc' := 298) (st' := [.int ((nI (30 + (2 * p + 0) * 38)) + 1), .ref 1497]) cd_Mo_begins rfl rfl (fun _ _ => rfl) ?_
      refine m_eq (show ((nI (30 + (2 * p + 0) * 38)) + 1 : Int32) = nI ((30 + (2 * p + 0) * 38) + 1) from nI_add (30 + (2 * p + 0) * 38) 1) ?_
      refine m_ald (pc' := 299) cd_Mo_begins rfl (Or.inr ⟨_, rfl, rfl, rfl⟩) l0 rfl rfl ?_
      refine m_k1 (v := 4) (pc' := 300) cd_Mo_begins rfl (by decide) rfl ?_
      refine m_ild (pc' := 302) cd_Mo_begins rfl (Or.inl ⟨rfl, rfl⟩) l8 rfl ?_
      refine m_ild (pc' := 304) cd_Mo_begins rfl (Or.inl ⟨rfl, rfl⟩) l10 rfl ?_
      refine m_ci (pc' := 307) cd_Mo_begins rfl rfl rfl rfl rfl cd_Mo_mix rfl (Nat.le_of_ble_eq_true rfl) (m_mix (by exact MT_i hM9 rfl rfl rfl rfl rfl rfl rfl rfl rfl rfl) (by omega) (show rc (A9 1) T9.length < 1000 by omega) (tv_mono p9 (tv_mono p8 hr7)) (tv_mono p9 hr8) (fun f10 A10 T10 r10 hx10 hr10 => ?_))
      obtain ⟨p10, q10, s10, hM10⟩ := hx10
      have hM10 : MT f10 A10 T10 _ _ _ := MT_i hM10 rfl rfl rfl rfl rfl rfl rfl rfl rfl rfl
      have s10 : rc (A10 1) T10.length ≤ rc (A9 1) T9.length + 0 := s10
      show mg _ _ _ 307 _ [.int r10, .int (nI ((30 + (2 * p + 0) * 38) + 1)), .ref 1497] _ _
      refine m_aS (r := 14) (a := 15) (g := (upd (upd (frP (A 15) (30 + (2 * p + 0) * 38) 38 0) (24 + p) (nI (min (l.length + 1) 2))) ((30 + (2 * p + 0) * 38) + 0) r9)) (p := ((30 + (2 * p + 0) * 38) + 1)) (pc' := 308) rfl rfl cd_Mo_begins rfl rfl rfl (vp_in_nI (by omega) (by decide)) (nI_clamp (by omega)) ?_
      refine m_ald (pc' := 309) cd_Mo_begins rfl (Or.inr ⟨_, rfl, rfl, rfl⟩) l0 rfl rfl ?_
      refine m_fR (r := 14) (a := 15) (ad := 1497) (pc' := 312) rfl rfl cd_Mo_begins rfl rfl rfl rfl rfl ?_
      refine m_ild (pc' := 314) cd_Mo_begins rfl (Or.inl ⟨rfl, rfl⟩) l9 rfl ?_
      refine m_k1 (v := 2) (pc' := 315) cd_Mo_begins rfl (by decide) rfl ?_
      refine m_pure (pc' := 316) (st' := [.int ((nI (30 + (2 * p + 0) * 38)) + 2), .ref 1497]) cd_Mo_begins rfl rfl (fun _ _ => rfl) ?_
      refine m_eq (show ((nI (30 + (2 * p + 0) * 38)) + 2 : Int32) = nI ((30 + (2 * p + 0) * 38) + 2) from nI_add (30 + (2 * p + 0) * 38) 2) ?_
      refine m_ild (pc' := 318) cd_Mo_begins rfl (Or.inl ⟨rfl, rfl⟩) l7 rfl ?_
      refine m_aS (r := 14) (a := 15) (g := (upd (upd (upd (frP (A 15) (30 + (2 * p + 0) * 38) 38 0) (24 + p) (nI (min (l.length + 1) 2))) ((30 + (2 * p + 0) * 38) + 0) r9) ((30 + (2 * p + 0) * 38) + 1) r10)) (p := ((30 + (2 * p + 0) * 38) + 2)) (pc' := 319) rfl rfl cd_Mo_begins rfl rfl rfl (vp_in_nI (by omega) (by decide)) (nI_clamp (by omega)) ?_
      rw [fset_fset]
      refine m_ald (pc' := 320) cd_Mo_begins rfl (Or.inr ⟨_, rfl, rfl, rfl⟩) l0 rfl rfl ?_
      refine m_fR (r := 14) (a := 15) (ad := 1497) (pc' := 323) rfl rfl cd_Mo_begins rfl rfl rfl rfl rfl ?_
      refine m_ild (pc' := 325) cd_Mo_begins rfl (Or.inl ⟨rfl, rfl⟩) l9 rfl ?_
      refine m_k1 (v := 3) (pc' := 326) cd_Mo_begins rfl (by decide) rfl ?_
      refine m_pure (pc' := 327) (st' := [.int ((nI (30 + (2 * p + 0) * 38)) + 3), .ref 1497]) cd_Mo_begins rfl rfl (fun _ _ => rfl) ?_
      refine m_eq (show ((nI (30 + (2 * p + 0) * 38)) + 3 : Int32) = nI ((30 + (2 * p + 0) * 38) + 3) from nI_add (30 + (2 * p + 0) * 38) 3) ?_
      refine m_ild (pc' := 329) cd_Mo_begins rfl (Or.inl ⟨rfl, rfl⟩) l4 rfl ?_
      refine m_aS (r := 14) (a := 15) (g := (upd (upd (upd (upd (frP (A 15) (30 + (2 * p + 0) * 38) 38 0) (24 + p) (nI (min (l.length + 1) 2))) ((30 + (2 * p + 0) * 38) + 0) r9) ((30 + (2 * p + 0) * 38) + 1) r10) ((30 + (2 * p + 0) * 38) + 2) r2)) (p := ((30 + (2 * p + 0) * 38) + 3)) (pc' := 330) rfl rfl cd_Mo_begins rfl rfl rfl (vp_in_nI (by omega) (by decide)) (nI_clamp (by omega)) ?_
      rw [fset_fset]
      refine m_ald (pc' := 331) cd_Mo_begins rfl (Or.inr ⟨_, rfl, rfl, rfl⟩) l0 rfl rfl ?_
      refine m_fR (r := 14) (a := 15) (ad := 1497) (pc' := 334) rfl rfl cd_Mo_begins rfl rfl rfl rfl rfl ?_
      refine m_ild (pc' := 336) cd_Mo_begins rfl (Or.inl ⟨rfl, rfl⟩) l9 rfl ?_
      refine m_k1 (v := 4) (pc' := 337) cd_Mo_begins rfl (by decide) rfl ?_
      refine m_pure (pc' := 338) (st' := [.int ((nI (30 + (2 * p + 0) * 38)) + 4), .ref 1497]) cd_Mo_begins rfl rfl (fun _ _ => rfl) ?_
      refine m_eq (show ((nI (30 + (2 * p + 0) * 38)) + 4 : Int32) = nI ((30 + (2 * p + 0) * 38) + 4) from nI_add (30 + (2 * p + 0) * 38) 4) ?_
      refine m_ald (pc' := 339) cd_Mo_begins rfl (Or.inr ⟨_, rfl, rfl, rfl⟩) l0 rfl rfl ?_
      refine m_k1 (v := 5) (pc' := 340) cd_Mo_begins rfl (by decide) rfl ?_
      refine m_ild (pc' := 342) cd_Mo_begins rfl (Or.inl ⟨rfl, rfl⟩) l8 rfl ?_
      refine m_ild (pc' := 344) cd_Mo_begins rfl (Or.inl ⟨rfl, rfl⟩) l10 rfl ?_
      refine m_ci (pc' := 347) cd_Mo_begins rfl rfl rfl rfl rfl cd_Mo_mix rfl (Nat.le_of_ble_eq_true rfl) (m_mix (by exact MT_i hM10 rfl rfl rfl rfl rfl rfl rfl rfl rfl rfl) (by omega) (show rc (A10 1) T10.length < 1000 by omega) (tv_mono p10 (tv_mono p9 (tv_mono p8 hr7))) (tv_mono p10 (tv_mono p9 hr8)) (fun f11 A11 T11 r11 hx11 hr11 => ?_))
      obtain ⟨p11, q11, s11, hM11⟩ := hx11
      have hM11 : MT f11 A11 T11 _ _ _ := MT_i hM11 rfl rfl rfl rfl rfl rfl rfl rfl rfl rfl
      have s11 : rc (A11 1) T11.length ≤ rc (A10 1) T10.length + 0 := s11
      show mg _ _ _ 347 _ [.int r11, .int (nI ((30 + (2 * p + 0) * 38) + 4)), .ref 1497] _ _
      refine m_aS (r := 14) (a := 15) (g := (upd (upd (upd (upd (upd (frP (A 15) (30 + (2 * p + 0) * 38) 38 0) (24 + p) (nI (min (l.length + 1) 2))) ((30 + (2 * p + 0) * 38) + 0) r9) ((30 + (2 * p + 0) * 38) + 1) r10) ((30 + (2 * p + 0) * 38) + 2) r2) ((30 + (2 * p + 0) * 38) + 3) (nI ip))) (p := ((30 + (2 * p + 0) * 38) + 4)) (pc' := 348) rfl rfl cd_Mo_begins rfl rfl rfl (vp_in_nI (by omega) (by decide)) (nI_clamp (by omega)) ?_
      refine m_ald (pc' := 349) cd_Mo_begins rfl (Or.inr ⟨_, rfl, rfl, rfl⟩) l0 rfl rfl ?_
      refine m_fR (r := 14) (a := 15) (ad := 1497) (pc' := 352) rfl rfl cd_Mo_begins rfl rfl rfl rfl rfl ?_
      refine m_ild (pc' := 354) cd_Mo_begins rfl (Or.inl ⟨rfl, rfl⟩) l9 rfl ?_
      refine m_k2 (v := 9) (pc' := 356) cd_Mo_begins rfl (by decide) rfl ?_
      refine m_pure (pc' := 357) (st' := [.int ((nI (30 + (2 * p + 0) * 38)) + 9), .ref 1497]) cd_Mo_begins rfl rfl (fun _ _ => rfl) ?_
      refine m_eq (show ((nI (30 + (2 * p + 0) * 38)) + 9 : Int32) = nI ((30 + (2 * p + 0) * 38) + 9) from nI_add (30 + (2 * p + 0) * 38) 9) ?_
      refine m_k1 (v := 1) (pc' := 358) cd_Mo_begins rfl (by decide) rfl ?_
      refine m_aS (r := 14) (a := 15) (g := (upd (upd (upd (upd (upd (upd (frP (A 15) (30 + (2 * p + 0) * 38) 38 0) (24 + p) (nI (min (l.length + 1) 2))) ((30 + (2 * p + 0) * 38) + 0) r9) ((30 + (2 * p + 0) * 38) + 1) r10) ((30 + (2 * p + 0) * 38) + 2) r2) ((30 + (2 * p + 0) * 38) + 3) (nI ip)) ((30 + (2 * p + 0) * 38) + 4) r11)) (p := ((30 + (2 * p + 0) * 38) + 9)) (pc' := 359) rfl rfl cd_Mo_begins rfl rfl rfl (vp_in_nI (by omega) (by decide)) (nI_clamp (by omega)) ?_
      rw [fset_fset]
      refine m_ald (pc' := 360) cd_Mo_begins rfl (Or.inr ⟨_, rfl, rfl, rfl⟩) l0 rfl rfl ?_
      refine m_fR (r := 14) (a := 15) (ad := 1497) (pc' := 363) rfl rfl cd_Mo_begins rfl rfl rfl rfl rfl ?_
      refine m_ild (pc' := 365) cd_Mo_begins rfl (Or.inl ⟨rfl, rfl⟩) l9 rfl ?_
      refine m_k2 (v := 10) (pc' := 367) cd_Mo_begins rfl (by decide) rfl ?_
      refine m_pure (pc' := 368) (st' := [.int ((nI (30 + (2 * p + 0) * 38)) + 10), .ref 1497]) cd_Mo_begins rfl rfl (fun _ _ => rfl) ?_
      refine m_eq (show ((nI (30 + (2 * p + 0) * 38)) + 10 : Int32) = nI ((30 + (2 * p + 0) * 38) + 10) from nI_add (30 + (2 * p + 0) * 38) 10) ?_
      refine m_ild (pc' := 370) cd_Mo_begins rfl (Or.inl ⟨rfl, rfl⟩) l4 rfl ?_
      refine m_aS (r := 14) (a := 15) (g := (upd (upd (upd (upd (upd (upd (upd (frP (A 15) (30 + (2 * p + 0) * 38) 38 0) (24 + p) (nI (min (l.length + 1) 2))) ((30 + (2 * p + 0) * 38) + 0) r9) ((30 + (2 * p + 0) * 38) + 1) r10) ((30 + (2 * p + 0) * 38) + 2) r2) ((30 + (2 * p + 0) * 38) + 3) (nI ip)) ((30 + (2 * p + 0) * 38) + 4) r11) ((30 + (2 * p + 0) * 38) + 9) 1)) (p := ((30 + (2 * p + 0) * 38) + 10)) (pc' := 371) rfl rfl cd_Mo_begins rfl rfl rfl (vp_in_nI (by omega) (by decide)) (nI_clamp (by omega)) ?_
      rw [fset_fset]
      refine m_ald (pc' := 372) cd_Mo_begins rfl (Or.inr ⟨_, rfl, rfl, rfl⟩) l0 rfl rfl ?_
      refine m_fR (r := 14) (a := 15) (ad := 1497) (pc' := 375) rfl rfl cd_Mo_begins rfl rfl rfl rfl rfl ?_
      refine m_ild (pc' := 377) cd_Mo_begins rfl (Or.inl ⟨rfl, rfl⟩) l9 rfl ?_
      refine m_k2 (v := 11) (pc' := 379) cd_Mo_begins rfl (by decide) rfl ?_
      refine m_pure (pc' := 380) (st' := [.int ((nI (30 + (2 * p + 0) * 38)) + 11), .ref 1497]) cd_Mo_begins rfl rfl (fun _ _ => rfl) ?_
      refine m_eq (show ((nI (30 + (2 * p + 0) * 38)) + 11 : Int32) = nI ((30 + (2 * p + 0) * 38) + 11) from nI_add (30 + (2 * p + 0) * 38) 11) ?_
      refine m_ild (pc' := 382) cd_Mo_begins rfl (Or.inl ⟨rfl, rfl⟩) l5 rfl ?_
      refine m_aS (r := 14) (a := 15) (g := (upd (upd (upd (upd (upd (upd (upd (upd (frP (A 15) (30 + (2 * p + 0) * 38) 38 0) (24 + p) (nI (min (l.length + 1) 2))) ((30 + (2 * p + 0) * 38) + 0) r9) ((30 + (2 * p + 0) * 38) + 1) r10) ((30 + (2 * p + 0) * 38) + 2) r2) ((30 + (2 * p + 0) * 38) + 3) (nI ip)) ((30 + (2 * p + 0) * 38) + 4) r11) ((30 + (2 * p + 0) * 38) + 9) 1) ((30 + (2 * p + 0) * 38) + 10) (nI ip))) (p := ((30 + (2 * p + 0) * 38) + 11)) (pc' := 383) rfl rfl cd_Mo_begins rfl rfl rfl (vp_in_nI (by omega) (by decide)) (nI_clamp (by omega)) ?_
      rw [fset_fset]
      refine m_ald (pc' := 384) cd_Mo_begins rfl (Or.inr ⟨_, rfl, rfl, rfl⟩) l0 rfl rfl ?_
      refine m_fR (r := 14) (a := 15) (ad := 1497) (pc' := 387) rfl rfl cd_Mo_begins rfl rfl rfl rfl rfl ?_
      refine m_ild (pc' := 389) cd_Mo_begins rfl (Or.inl ⟨rfl, rfl⟩) l9 rfl ?_
      refine m_k2 (v := 37) (pc' := 391) cd_Mo_begins rfl (by decide) rfl ?_
      refine m_pure (pc' := 392) (st' := [.int ((nI (30 + (2 * p + 0) * 38)) + 37), .ref 1497]) cd_Mo_begins rfl rfl (fun _ _ => rfl) ?_
      refine m_eq (show ((nI (30 + (2 * p + 0) * 38)) + 37 : Int32) = nI ((30 + (2 * p + 0) * 38) + 37) from nI_add (30 + (2 * p + 0) * 38) 37) ?_
      refine m_ild (pc' := 394) cd_Mo_begins rfl (Or.inl ⟨rfl, rfl⟩) l5 rfl ?_
      refine m_if1 (t := 401) (pc' := 397) cd_Mo_begins rfl rfl rfl (fun c394 => ?_) (fun c394 => ?_)
      · have c394 : ¬ (nI io) = 0 := c394
        refine m_k1 (v := 1) (pc' := 402) cd_Mo_begins rfl (by decide) rfl ?_
        refine m_aS (r := 14) (a := 15) (g := (upd (upd (upd (upd (upd (upd (upd (upd (upd (frP (A 15) (30 + (2 * p + 0) * 38) 38 0) (24 + p) (nI (min (l.length + 1) 2))) ((30 + (2 * p + 0) * 38) + 0) r9) ((30 + (2 * p + 0) * 38) + 1) r10) ((30 + (2 * p + 0) * 38) + 2) r2) ((30 + (2 * p + 0) * 38) + 3) (nI ip)) ((30 + (2 * p + 0) * 38) + 4) r11) ((30 + (2 * p + 0) * 38) + 9) 1) ((30 + (2 * p + 0) * 38) + 10) (nI ip)) ((30 + (2 * p + 0) * 38) + 11) (nI io))) (p := ((30 + (2 * p + 0) * 38) + 37)) (pc' := 403) rfl rfl cd_Mo_begins rfl rfl rfl (vp_in_nI (by omega) (by decide)) (nI_clamp (by omega)) ?_
        rw [fset_fset]
        refine m_k1 (v := 1) (pc' := 404) cd_Mo_begins rfl (by decide) rfl ?_
        have hsn := se_new (w := A 15) (b := true) hp ((((((((((p1.trans p2).trans p3).trans p4).trans p5).trans p6).trans p7).trans p8).trans p9).trans p10).trans p11) hq (MT_z hM11) (tv_mono p11 (tv_mono p10 hr9)) (tv_mono p11 hr10) (tv_mono p11 (tv_mono p10 (tv_mono p9 (tv_mono p8 (tv_mono p7 (tv_mono p6 (tv_mono p5 (tv_mono p4 (tv_mono p3 hr2))))))))) (tv_mono p11 (tv_mono p10 (tv_mono p9 (tv_mono p8 (tv_mono p7 (tv_mono p6 (tv_mono p5 (tv_mono p4 (tv_mono p3 (tv_mono p2 (tv_mono p1 ⟨ip, rfl, hP⟩))))))))))) hr11 (tv_mono p11 (tv_mono p10 (tv_mono p9 (tv_mono p8 (tv_mono p7 (tv_mono p6 (tv_mono p5 (tv_mono p4 (tv_mono p3 (tv_mono p2 (tv_mono p1 ⟨io, rfl, hio⟩)))))))))))
        have eop : (op_ses (ids s) (Tsec (nI DL.length) (nI s) 0) (Tsec (nI (DL.length + 1)) (nI s) 2) (ids p) P O) = ((P, tz, 0, []), Tpub (Tsec (nI DL.length) (nI s) 0), (Tmx 4 (if tnil (Tsh (Tsec (nI DL.length) (nI s) 0) (pt O 0)) = true then Tmx 3 (Tmx 1 (Tmx 0 (Tsh (ids s) (pt P 0)) (Tsh (Tsec (nI DL.length) (nI s) 0) (ids p))) (Tsh (Tsec (nI DL.length) (nI s) 0) (pt P 0))) tz else Tmx 2 (Tmx 1 (Tmx 0 (Tsh (ids s) (pt P 0)) (Tsh (Tsec (nI DL.length) (nI s) 0) (ids p))) (Tsh (Tsec (nI DL.length) (nI s) 0) (pt P 0))) (Tsh (Tsec (nI DL.length) (nI s) 0) (pt O 0))) (Tsh (Tsec (nI (DL.length + 1)) (nI s) 2) (pt P 0))), (Tsec (nI (DL.length + 1)) (nI s) 2), (Tmx 5 (if tnil (Tsh (Tsec (nI DL.length) (nI s) 0) (pt O 0)) = true then Tmx 3 (Tmx 1 (Tmx 0 (Tsh (ids s) (pt P 0)) (Tsh (Tsec (nI DL.length) (nI s) 0) (ids p))) (Tsh (Tsec (nI DL.length) (nI s) 0) (pt P 0))) tz else Tmx 2 (Tmx 1 (Tmx 0 (Tsh (ids s) (pt P 0)) (Tsh (Tsec (nI DL.length) (nI s) 0) (ids p))) (Tsh (Tsec (nI DL.length) (nI s) 0) (pt P 0))) (Tsh (Tsec (nI DL.length) (nI s) 0) (pt O 0))) (Tsh (Tsec (nI (DL.length + 1)) (nI s) 2) (pt P 0))), 0, 0, true, P, O, true) := by
          unfold op_ses op_root ss_start ss_bear
          rw [tnil_f hOz, show tnil (Tsh (Tsec (nI DL.length) (nI s) 0) (pt O 0)) = false from tnil_f (Tsh_nz _ _)]
          rfl
        rw [← eop] at hsn
        have eDL : ((DL ++ [((nI s), 0)]) ++ [((nI s), 2)]) = DL ++ [(nI s, 0), (nI s, 2)] := by simp
        rw [eDL] at hM11
        have edl : List.length (DL ++ [(nI s, (0 : Int32))]) = DL.length + 1 := by simp
        exact m_retz cd_Mo_begins rfl (Or.inr rfl) ⟨_, rfl, (mB_end (f := f) (A := A) (fun k q => by have e0 : ¬ (k = 0 ∨ k = 7) := (by omega); have e1 : ¬ k = 11 := (by omega); simp only [fset, mjF, e0, e1, if_false]) (fun j q => by have e0 : ¬ (1 ≤ j ∧ j ≤ 8) := (by omega); have e10 : ¬ j = 10 := (by omega); have e11 : ¬ j = 11 := (by omega); have e12 : ¬ j = 12 := (by omega); have e13 : ¬ j = 13 := (by omega); have e15 : ¬ j = 15 := (by omega); simp only [fset, mjA, drA, e0, e10, e11, e12, e13, e15, if_false]) (kk _ _ _ ((((((((((p1.trans p2).trans p3).trans p4).trans p5).trans p6).trans p7).trans p8).trans p9).trans p10).trans p11) (by omega) (show rc (A11 1) _ ≤ _ by omega) (by exact MT_i hM11 rfl rfl rfl rfl rfl rfl rfl rfl rfl rfl) (by show nI _ = _; rw [edl]) ⟨by show upd (upd _ _ _) _ _ = _; rw [edl]; rfl, by show upd (upd _ _ _) _ _ = _; rw [edl]; rfl, by show upd (upd _ _ _) _ _ = _; rw [edl]; rfl, by show upd (upd _ _ _) _ _ = _; rw [edl]; rfl⟩ rfl hsn.1 hsn.2))⟩
      · have c394 : (nI io) = 0 := Classical.not_not.mp c394
        exact absurd ((MT_0 hM ⟨io, rfl, hio⟩).mp c394) hOz
    · have c228 : (nI io) = 0 := Classical.not_not.mp c228
      exact absurd ((MT_0 hM ⟨io, rfl, hio⟩).mp c228) hOz
