/-! The reference: the state told; empty, tell -/
/-- secret, from, to, once, mine, theirs, mask, gift, taken -/
abbrev RL : Type := Tm × Int32 × Int32 × Bool × Tm × Tm × Int32 × Int32 × (Nat → Int32)
def qL1 (A : Nat → Nat → Int32) (T : List Tm) (i : Nat) (e : RL) : Prop := tv T (A 30 i) e.1 ∧ A 31 i = e.2.1 ∧ A 32 i = e.2.2.1 ∧ A 33 i = bz e.2.2.2.1 ∧ tv T (A 34 i) e.2.2.2.2.1 ∧ tv T (A 35 i) e.2.2.2.2.2.1 ∧ A 36 i = e.2.2.2.2.2.2.1 ∧ A 38 i = e.2.2.2.2.2.2.2.1 ∧ ∀ p, p < 6 → A 37 (6 * i + p) = e.2.2.2.2.2.2.2.2 p
def qLs (f : Nat → Int32) (A : Nat → Nat → Int32) (T : List Tm) (ls : List RL) : Prop := (f 43 = nI ls.length ∧ ls.length ≤ 700) ∧ ∀ (i : Nat) (e : RL), ls[i]? = some e → qL1 A T i e
def qWi (f : Nat → Int32) (A : Nat → Nat → Int32) (T : List Tm) (ws : List (Tm × Int32)) : Prop := (f 40 = nI ws.length ∧ ws.length ≤ 710) ∧ ∀ (i : Nat) (e : Tm × Int32), ws[i]? = some e → tv T (A 28 i) e.1 ∧ A 29 i = e.2
def mjTf (g f : Nat → Int32) : Nat → Int32 := fun k => if k = 16 ∨ k = 40 ∨ k = 43 then g k else f k
def mjTA (B A : Nat → Nat → Int32) : Nat → Nat → Int32 := fun j => if j = 5 ∨ j = 13 ∨ (28 ≤ j ∧ j ≤ 38) then B j else A j
theorem mjTf_of {g f : Nat → Int32} (h : ∀ k, ¬ (k = 16 ∨ k = 40 ∨ k = 43) → g k = f k) : mjTf g f = g := by
  funext j
  unfold mjTf
  split
  · rfl
  · rename_i q; exact (h j q).symm
theorem mjTA_of {B A : Nat → Nat → Int32} (h : ∀ j, ¬ (j = 5 ∨ j = 13 ∨ (28 ≤ j ∧ j ≤ 38)) → B j = A j) : mjTA B A = B := by
  funext j
  unfold mjTA
  split
  · rfl
  · rename_i q; exact (h j q).symm
theorem qWi_add {f : Nat → Int32} {A : Nat → Nat → Int32} {T : List Tm} {ws : List (Tm × Int32)} {x v : Int32} {X : Tm} {f' : Nat → Int32} {A' : Nat → Nat → Int32} (h : qWi f A T ws) (hx : tv T x X) (hl : ws.length < 710) (e40 : f' 40 = nI (ws.length + 1)) (e28 : A' 28 = upd (A 28) ws.length x) (e29 : A' 29 = upd (A 29) ws.length v) : qWi f' A' T (ws ++ [(X, v)]) := by
  refine ⟨⟨by rw [e40]; simp, by simp; omega⟩, fun i e he => ?_⟩
  rw [e28, e29]
  by_cases c : i < ws.length
  · rw [List.getElem?_append_left c] at he
    rw [upd_ne (by omega), upd_ne (by omega)]
    exact h.2 i e he
  · rw [List.getElem?_append_right (by omega)] at he
    by_cases c2 : i - ws.length = 0
    · rw [c2] at he
      cases he
      rw [show i = ws.length by omega, upd_same, upd_same]
      exact ⟨hx, rfl⟩
    · rw [List.getElem?_eq_none (by simp; omega)] at he
      cases he
def tkW (g : Nat → Int32) (a n : Nat) (v : Int32) : Nat → Int32 := fun j => if a ≤ j ∧ j < a + n then v else g j
theorem tkW_0 (g : Nat → Int32) (a : Nat) (v : Int32) : tkW g a 0 v = g := funext fun j => if_neg (by omega)
theorem tkW_s (g : Nat → Int32) (a n : Nat) (v : Int32) : upd (tkW g a n v) (a + n) v = tkW g a (n + 1) v := funext fun j => by
  show (if j = a + n then v else tkW g a n v j) = _
  unfold tkW
  by_cases c : j = a + n
  · rw [if_pos c, if_pos (by omega)]
  · rw [if_neg c]
    by_cases c2 : a ≤ j ∧ j < a + n
    · rw [if_pos c2, if_pos (by omega)]
    · rw [if_neg c2, if_neg (by omega)]
set_option maxRecDepth 100000 in
theorem l_mempty {sc : tm_X} {d : Nat} {f : Nat → Int32} {A0 : Nat → Nat → Int32} {p o : Nat} {Q : MS → Prop} (hp : p < 6) (ho : o < 2) (kk : ∀ A, A 19 = thW (A0 19) (2 * p + o) 75 0 → (∀ j, j ≠ 19 → A j = A0 j) → Q (f, A)) : ∀ (r b : Nat) (A : Nat → Nat → Int32), b + r = 75 → A 19 = thW (A0 19) (2 * p + o) b 0 → (∀ j, j ≠ 19 → A j = A0 j) → ∀ lv : tm_L, lv.lookup 0 = some (.ref 1482) → lv.lookup 1 = some (.int (nI p)) → lv.lookup 2 = some (.int (nI o)) → lv.lookup 3 = some (.int (nI b)) →  mg sc d 253 13 lv [] (f, A) (fun r s' => r = none ∧ Q s') := by
  intro r
  induction r with
  | zero =>
    intro b A hb e19 eA lv l0 l1 l2 l3
    have hb2 : b = 75 := by omega
    subst hb2
    refine m_ild (pc' := 14) cd_Mo_empty rfl (Or.inr ⟨_, rfl, rfl, rfl⟩) l3 rfl ?_
    refine m_k2 (v := 75) (pc' := 16) cd_Mo_empty rfl (by decide) rfl ?_
    refine m_if2 (t := 41) (pc' := 19) cd_Mo_empty rfl rfl rfl (fun c16 => ?_) (fun c16 => ?_)
    · have c16 : (75 : Int32) ≤ (nI 75) := c16
      exact m_retv cd_Mo_empty rfl ⟨rfl, kk A e19 eA⟩
    · have c16 : ¬ (75 : Int32) ≤ (nI 75) := c16
      exact absurd (show (75 : Int32) ≤ nI 75 from by decide) c16
  | succ r ih =>
    intro b A hb e19 eA lv l0 l1 l2 l3
    refine m_ild (pc' := 14) cd_Mo_empty rfl (Or.inr ⟨_, rfl, rfl, rfl⟩) l3 rfl ?_
    refine m_k2 (v := 75) (pc' := 16) cd_Mo_empty rfl (by decide) rfl ?_
    refine m_if2 (t := 41) (pc' := 19) cd_Mo_empty rfl rfl rfl (fun c16 => ?_) (fun c16 => ?_)
    · have c16 : (75 : Int32) ≤ (nI b) := c16
      exact absurd c16 (nI_ge (b := 75) (by omega) (by decide))
    · have c16 : ¬ (75 : Int32) ≤ (nI b) := c16
      refine m_ald (pc' := 20) cd_Mo_empty rfl (Or.inr ⟨_, rfl, rfl, rfl⟩) l0 rfl rfl ?_
      refine m_fR (r := 18) (a := 19) (ad := 1501) (pc' := 23) rfl rfl cd_Mo_empty rfl rfl rfl rfl rfl ?_
      refine m_k2 (v := 75) (pc' := 25) cd_Mo_empty rfl (by decide) rfl ?_
      refine m_k1 (v := 2) (pc' := 26) cd_Mo_empty rfl (by decide) rfl ?_
      refine m_ild (pc' := 27) cd_Mo_empty rfl (Or.inr ⟨_, rfl, rfl, rfl⟩) l1 rfl ?_
      refine m_pure (pc' := 28) (st' := [.int ((2 : Int32) * (nI p)), .int 75, .ref 1501]) cd_Mo_empty rfl rfl (fun _ _ => rfl) ?_
      refine m_eq (show ((2 : Int32) * (nI p) : Int32) = nI (2 * p) from pk_mul 2 p) ?_
      refine m_ild (pc' := 29) cd_Mo_empty rfl (Or.inr ⟨_, rfl, rfl, rfl⟩) l2 rfl ?_
      refine m_pure (pc' := 30) (st' := [.int ((nI (2 * p)) + (nI o)), .int 75, .ref 1501]) cd_Mo_empty rfl rfl (fun _ _ => rfl) ?_
      refine m_eq (show ((nI (2 * p)) + (nI o) : Int32) = nI ((2 * p) + o) from nI_add (2 * p) o) ?_
      refine m_pure (pc' := 31) (st' := [.int ((75 : Int32) * (nI ((2 * p) + o))), .ref 1501]) cd_Mo_empty rfl rfl (fun _ _ => rfl) ?_
      refine m_eq (show ((75 : Int32) * (nI ((2 * p) + o)) : Int32) = nI (75 * ((2 * p) + o)) from pk_mul 75 ((2 * p) + o)) ?_
      refine m_ild (pc' := 32) cd_Mo_empty rfl (Or.inr ⟨_, rfl, rfl, rfl⟩) l3 rfl ?_
      refine m_pure (pc' := 33) (st' := [.int ((nI (75 * ((2 * p) + o))) + (nI b)), .ref 1501]) cd_Mo_empty rfl rfl (fun _ _ => rfl) ?_
      refine m_eq (show ((nI (75 * ((2 * p) + o))) + (nI b) : Int32) = nI ((75 * ((2 * p) + o)) + b) from nI_add (75 * ((2 * p) + o)) b) ?_
      refine m_k1 (v := 0) (pc' := 34) cd_Mo_empty rfl (by decide) rfl ?_
      refine m_bS (r := 18) (a := 19) (g := (A 19)) (p := ((75 * ((2 * p) + o)) + b)) (pc' := 35) rfl rfl cd_Mo_empty rfl rfl rfl (vp_in_nI (by omega) (by decide)) (nI_clamp (by omega)) (by decide) ?_
      refine m_inc (y := nI (b + 1)) (pc' := 38) cd_Mo_empty rfl l3 (by decide) (nI_add b 1) rfl (fun lv el => ?_)
      have l0 := tm_lk el l0 rfl (by decide)
      have l1 := tm_lk el l1 rfl (by decide)
      have l2 := tm_lk el l2 rfl (by decide)
      have l3 : lv.lookup 3 = some (.int (nI (b + 1))) := tm_lks el
      clear el
      refine m_pure (pc' := 13) (st' := []) cd_Mo_empty rfl rfl (fun _ _ => rfl) ?_
      refine ih (b + 1) _ (by omega) ?_ (fun j h1 => (fset_ne h1).trans (eA j h1)) lv l0 l1 l2 l3
      show upd (A 19) (75 * (2 * p + o) + b) 0 = _
      rw [e19, thW_s]
set_option maxRecDepth 100000 in
theorem m_empty {sc : tm_X} {d : Nat} {f : Nat → Int32} {A : Nat → Nat → Int32} {p o : Nat} {Q : MS → Prop} (hp : p < 6) (ho : o < 2) (kk : ∀ A1, A1 19 = thW (A 19) (2 * p + o) 75 0 → A1 20 = upd (A 20) (2 * p + o) 0 → (∀ j, j ≠ 19 → j ≠ 20 → A1 j = A j) → Q (f, mjW A1 A)) : mGv sc (d + 0) 253 [.ref 1482, .int (nI p), .int (nI o)] (f, A) Q := by
  show mg sc (d + 0) 253 0 [(0, .ref 1482), (1, .int (nI p)), (2, .int (nI o))] [] (f, A) _
  generalize elv : ([(0, .ref 1482), (1, .int (nI p)), (2, .int (nI o))] : tm_L) = lv
  have l0 : lv.lookup 0 = some (.ref 1482) := by rw [← elv]; rfl
  have l1 : lv.lookup 1 = some (.int (nI p)) := by rw [← elv]; rfl
  have l2 : lv.lookup 2 = some (.int (nI o)) := by rw [← elv]; rfl
  clear elv
  refine m_ald (pc' := 1) cd_Mo_empty rfl (Or.inr ⟨_, rfl, rfl, rfl⟩) l0 rfl rfl ?_
  refine m_fR (r := 19) (a := 20) (ad := 1502) (pc' := 4) rfl rfl cd_Mo_empty rfl rfl rfl rfl rfl ?_
  refine m_k1 (v := 2) (pc' := 5) cd_Mo_empty rfl (by decide) rfl ?_
  refine m_ild (pc' := 6) cd_Mo_empty rfl (Or.inr ⟨_, rfl, rfl, rfl⟩) l1 rfl ?_
  refine m_pure (pc' := 7) (st' := [.int ((2 : Int32) * (nI p)), .ref 1502]) cd_Mo_empty rfl rfl (fun _ _ => rfl) ?_
  refine m_eq (show ((2 : Int32) * (nI p) : Int32) = nI (2 * p) from pk_mul 2 p) ?_
  refine m_ild (pc' := 8) cd_Mo_empty rfl (Or.inr ⟨_, rfl, rfl, rfl⟩) l2 rfl ?_
  refine m_pure (pc' := 9) (st' := [.int ((nI (2 * p)) + (nI o)), .ref 1502]) cd_Mo_empty rfl rfl (fun _ _ => rfl) ?_
  refine m_eq (show ((nI (2 * p)) + (nI o) : Int32) = nI ((2 * p) + o) from nI_add (2 * p) o) ?_
  refine m_k1 (v := 0) (pc' := 10) cd_Mo_empty rfl (by decide) rfl ?_
  refine m_aS (r := 19) (a := 20) (g := (A 20)) (p := ((2 * p) + o)) (pc' := 11) rfl rfl cd_Mo_empty rfl rfl rfl (vp_in_nI (by omega) (by decide)) (nI_clamp (by omega)) ?_
  refine m_k1 (v := 0) (pc' := 12) cd_Mo_empty rfl (by decide) rfl ?_
  refine m_ist (pc' := 13) cd_Mo_empty rfl (Or.inr ⟨_, rfl, rfl, rfl⟩) (by decide) rfl (fun lv el => ?_)
  have l0 := tm_lk el l0 rfl (by decide)
  have l1 := tm_lk el l1 rfl (by decide)
  have l2 := tm_lk el l2 rfl (by decide)
  have l3 : lv.lookup 3 = some (.int 0) := tm_lks el
  clear el
  refine l_mempty (A0 := fset A 20 (upd (A 20) (2 * p + o) 0)) hp ho (fun A1 e19 eA => ?_) 75 0 _ rfl (by rw [thW_0]) (fun _ _ => rfl) lv l0 l1 l2 l3
  have k2 := kk A1 e19 (eA 20 (by decide)) (fun j h1 h2 => (eA j h1).trans (fset_ne h2))
  rw [mjW_of (fun j q => (eA j (by omega)).trans (fset_ne (by omega)))] at k2
  exact k2
set_option maxRecDepth 100000 in
theorem l_mtell {sc : tm_X} {d : Nat} {f0 : Nat → Int32} {A0 : Nat → Nat → Int32} {T : List Tm} {DL : List (Int32 × Int32)} {Kw : Tm → Prop} {p : Nat} {NW : List Tm} {Q : Option Value → MS → Prop} (h30 : f0 30 = nI NW.length) (hnw : NW.length ≤ 16) (h26 : ∀ (i : Nat) (X : Tm), NW[i]? = some X → tv T (A0 26 i) X) (hz : ∀ X, X ∈ NW → X ≠ tz) : ∀ (R : List Tm) (k : Nat) (f : Nat → Int32) (A : Nat → Nat → Int32) (G : Tm → Prop) (ws : List (Tm × Int32)), k ≤ 16 → NW.drop k = R → MT f A T DL G Kw → qWi f A T ws → ws.length + R.length ≤ 700 → (∀ k, k ≠ 16 → k ≠ 40 → f k = f0 k) → (∀ j, j ≠ 5 → j ≠ 28 → j ≠ 29 → A j = A0 j) →  (∀ f' A' (lv : tm_L), MT f' A' T DL (fun y => G y ∨ y ∈ R) Kw → qWi f' A' T (ws ++ R.map (fun X => (X, -1))) → (f' 16 = 1 ∨ (f' 16 = f 16 ∧ ∀ y, y ∈ R → G y)) → (∀ k, k ≠ 16 → k ≠ 40 → f' k = f0 k) → (∀ j, j ≠ 5 → j ≠ 28 → j ≠ 29 → A' j = A0 j) →  lv.lookup 0 = some (.ref 1482) → lv.lookup 1 = some (.int (nI p)) →  mg sc (d + 1) 207 61 lv [] (f', A') Q) → ∀ lv : tm_L, lv.lookup 0 = some (.ref 1482) → lv.lookup 1 = some (.int (nI p)) →  lv.lookup 2 = some (.int (nI k)) → mg sc (d + 1) 207 2 lv [] (f, A) Q := by
  intro R
  induction R with
  | nil =>
    intro k f A G ws hkB hR hM hq hl ef eA kk lv l0 l1 l2
    have hk := drop_n hR
    by_cases hk9 : k < 1000
    · skip
      refine m_ild (pc' := 3) cd_Mo_tell rfl (Or.inr ⟨_, rfl, rfl, rfl⟩) l2 rfl ?_
      refine m_ald (pc' := 4) cd_Mo_tell rfl (Or.inr ⟨_, rfl, rfl, rfl⟩) l0 rfl rfl ?_
      refine m_fI (k := 30) (x := (nI NW.length)) (pc' := 7) cd_Mo_tell rfl rfl rfl rfl rfl ((ef 30 (by decide) (by decide)).trans h30) ?_
      refine m_if2 (t := 61) (pc' := 10) cd_Mo_tell rfl rfl rfl (fun c7 => ?_) (fun c7 => ?_)
      · have c7 : (nI NW.length) ≤ (nI k) := c7
        refine kk f A lv (MT_G hM (fun y => ⟨Or.inl, fun q => q.elim id (fun q => absurd q List.not_mem_nil)⟩) (fun _ => Iff.rfl)) ?_ (Or.inr ⟨rfl, fun y q => absurd q List.not_mem_nil⟩) ef eA l0 l1
        rw [List.map_nil, List.append_nil]
        exact hq
      · have c7 : ¬ (nI NW.length) ≤ (nI k) := c7
        exact absurd (nI_le hk (by omega)) c7
    · exact absurd hkB (by omega)
  | cons X R ih =>
    intro k f A G ws hkB hR hM hq hl ef eA kk lv l0 l1 l2
    obtain ⟨hX, hR2, hil⟩ := drop_c hR
    rw [List.length_cons] at hl
    have hx := h26 k X hX
    have hXz := hz X (List.mem_of_getElem? hX)
    have h40 := hq.1.1
    refine m_ild (pc' := 3) cd_Mo_tell rfl (Or.inr ⟨_, rfl, rfl, rfl⟩) l2 rfl ?_
    refine m_ald (pc' := 4) cd_Mo_tell rfl (Or.inr ⟨_, rfl, rfl, rfl⟩) l0 rfl rfl ?_
    refine m_fI (k := 30) (x := (nI NW.length)) (pc' := 7) cd_Mo_tell rfl rfl rfl rfl rfl ((ef 30 (by decide) (by decide)).trans h30) ?_
    refine m_if2 (t := 61) (pc' := 10) cd_Mo_tell rfl rfl rfl (fun c7 => ?_) (fun c7 => ?_)
    · have c7 : (nI NW.length) ≤ (nI k) := c7
      exact absurd c7 (nI_ge hil (by omega))
    · have c7 : ¬ (nI NW.length) ≤ (nI k) := c7
      refine m_ald (pc' := 11) cd_Mo_tell rfl (Or.inr ⟨_, rfl, rfl, rfl⟩) l0 rfl rfl ?_
      refine m_fR (r := 27) (a := 28) (ad := 1510) (pc' := 14) rfl rfl cd_Mo_tell rfl rfl rfl rfl rfl ?_
      refine m_ald (pc' := 15) cd_Mo_tell rfl (Or.inr ⟨_, rfl, rfl, rfl⟩) l0 rfl rfl ?_
      refine m_fI (k := 40) (x := (nI ws.length)) (pc' := 18) cd_Mo_tell rfl rfl rfl rfl rfl h40 ?_
      refine m_ald (pc' := 19) cd_Mo_tell rfl (Or.inr ⟨_, rfl, rfl, rfl⟩) l0 rfl rfl ?_
      refine m_fR (r := 25) (a := 26) (ad := 1508) (pc' := 22) rfl rfl cd_Mo_tell rfl rfl rfl rfl rfl ?_
      refine m_ild (pc' := 23) cd_Mo_tell rfl (Or.inr ⟨_, rfl, rfl, rfl⟩) l2 rfl ?_
      refine m_aI (r := 25) (a := 26) (g := (A 26)) (x := (A0 26 k)) (pc' := 24) rfl rfl cd_Mo_tell rfl rfl rfl (vp_in_nI (by omega) (by decide)) ((congrArg (A 26) (nI_clamp (by omega))).trans (congrFun (eA 26 (by decide) (by decide) (by decide)) k)) ?_
      refine m_aS (r := 27) (a := 28) (g := (A 28)) (p := ws.length) (pc' := 25) rfl rfl cd_Mo_tell rfl rfl rfl (vp_in_nI (by omega) (by decide)) (nI_clamp (by omega)) ?_
      refine m_ald (pc' := 26) cd_Mo_tell rfl (Or.inr ⟨_, rfl, rfl, rfl⟩) l0 rfl rfl ?_
      refine m_fR (r := 28) (a := 29) (ad := 1511) (pc' := 29) rfl rfl cd_Mo_tell rfl rfl rfl rfl rfl ?_
      refine m_ald (pc' := 30) cd_Mo_tell rfl (Or.inr ⟨_, rfl, rfl, rfl⟩) l0 rfl rfl ?_
      refine m_fI (k := 40) (x := (nI ws.length)) (pc' := 33) cd_Mo_tell rfl rfl rfl rfl rfl h40 ?_
      refine m_k1 (v := (-1)) (pc' := 34) cd_Mo_tell rfl (by decide) rfl ?_
      refine m_aS (r := 28) (a := 29) (g := (A 29)) (p := ws.length) (pc' := 35) rfl rfl cd_Mo_tell rfl rfl rfl (vp_in_nI (by omega) (by decide)) (nI_clamp (by omega)) ?_
      refine m_ald (pc' := 36) cd_Mo_tell rfl (Or.inr ⟨_, rfl, rfl, rfl⟩) l0 rfl rfl ?_
      refine m_ald (pc' := 37) cd_Mo_tell rfl (Or.inr ⟨_, rfl, rfl, rfl⟩) l0 rfl rfl ?_
      refine m_fR (r := 25) (a := 26) (ad := 1508) (pc' := 40) rfl rfl cd_Mo_tell rfl rfl rfl rfl rfl ?_
      refine m_ild (pc' := 41) cd_Mo_tell rfl (Or.inr ⟨_, rfl, rfl, rfl⟩) l2 rfl ?_
      refine m_aI (r := 25) (a := 26) (g := (A 26)) (x := (A0 26 k)) (pc' := 42) rfl rfl cd_Mo_tell rfl rfl rfl (vp_in_nI (by omega) (by decide)) ((congrArg (A 26) (nI_clamp (by omega))).trans (congrFun (eA 26 (by decide) (by decide) (by decide)) k)) ?_
      refine m_cv (pc' := 45) cd_Mo_tell rfl rfl rfl rfl rfl cd_Mo_give rfl (Nat.le_of_ble_eq_true rfl) (m_give (DL := DL) (G := G) (W := Kw) (T := T) (X := X) (show MT f (fset (fset A 28 (upd (A 28) ws.length (A0 26 k))) 29 (upd (A 29) ws.length (-1))) T DL G Kw from hM) hx (fun v g hv hM2 => ?_))
      show mg _ _ _ 45 _ [] _ _
      refine m_ald (pc' := 46) cd_Mo_tell rfl (Or.inr ⟨_, rfl, rfl, rfl⟩) l0 rfl rfl ?_
      refine m_pure (pc' := 47) (st' := [.ref 1482, .ref 1482]) cd_Mo_tell rfl rfl (fun _ _ => rfl) ?_
      refine m_fI (k := 40) (x := (nI ws.length)) (pc' := 50) cd_Mo_tell rfl rfl rfl rfl rfl h40 ?_
      refine m_k1 (v := 1) (pc' := 51) cd_Mo_tell rfl (by decide) rfl ?_
      refine m_pure (pc' := 52) (st' := [.int ((nI ws.length) + 1), .ref 1482]) cd_Mo_tell rfl rfl (fun _ _ => rfl) ?_
      refine m_eq (show ((nI ws.length) + 1 : Int32) = nI (ws.length + 1) from nI_add ws.length 1) ?_
      refine m_pI (k := 40) (pc' := 55) cd_Mo_tell rfl rfl rfl rfl (by simp [tm_okV, narrow, fits]) rfl rfl ?_
      refine m_inc (y := nI (k + 1)) (pc' := 58) cd_Mo_tell rfl l2 (by decide) (nI_add k 1) rfl (fun lv el => ?_)
      have l0 := tm_lk el l0 rfl (by decide)
      have l1 := tm_lk el l1 rfl (by decide)
      have l2 : lv.lookup 2 = some (.int (nI (k + 1))) := tm_lks el
      clear el
      refine m_pure (pc' := 2) (st' := []) cd_Mo_tell rfl rfl (fun _ _ => rfl) ?_
      refine ih (k + 1) _ _ (fun y => G y ∨ (y = X ∧ X ≠ tz)) (ws ++ [(X, -1)]) (by omega) hR2 (show MT (fset (fset f 16 v) 40 (nI (ws.length + 1))) _ T DL _ Kw from hM2) (qWi_add hq hx (by omega) rfl rfl rfl) (by simp; omega) (fun k h1 h2 => (fset_ne h2).trans ((fset_ne h1).trans (ef k h1 h2))) (fun j h1 h2 h3 => (fset_ne h1).trans ((fset_ne h3).trans ((fset_ne h2).trans (eA j h1 h2 h3)))) (fun f' A' lv q1 q2 q3 => ?_) lv l0 l1 l2
      have q3 : f' 16 = 1 ∨ (f' 16 = v ∧ ∀ y, y ∈ R → G y ∨ (y = X ∧ X ≠ tz)) := q3
      have q4 : f' 16 = 1 ∨ (f' 16 = f 16 ∧ ∀ y, y ∈ X :: R → G y) := by
        rcases q3 with q3 | ⟨q3, q5⟩
        · exact Or.inl q3
        · rcases hv with hv | ⟨hv, hv2⟩
          · exact Or.inl (q3.trans hv)
          · have gX : G X := hv2.elim (fun e => absurd e hXz) id
            refine Or.inr ⟨q3.trans hv, fun y hy => ?_⟩
            rcases List.mem_cons.mp hy with e | hy
            · exact e ▸ gX
            · exact (q5 y hy).elim id (fun e => e.1 ▸ gX)
      refine kk f' A' lv (MT_G q1 (fun y => ?_) (fun _ => Iff.rfl)) ?_ q4
      · rw [List.mem_cons]
        exact ⟨fun q => q.elim (fun q => q.elim Or.inl (fun q => Or.inr (Or.inl q.1))) (fun q => Or.inr (Or.inr q)), fun q => q.elim (fun q => Or.inl (Or.inl q)) (fun q => q.elim (fun q => Or.inl (Or.inr ⟨q, hXz⟩)) Or.inr)⟩
      · rw [List.map_cons, List.append_cons]
        exact q2
set_option maxRecDepth 100000 in
theorem l_mtellP {sc : tm_X} {d : Nat} {f : Nat → Int32} {A0 : Nat → Nat → Int32} {p n : Nat} {Q : MS → Prop} (hn : n ≤ 700) (h43 : f 43 = nI n) (kk : ∀ A, A 37 = tkW (A0 37) (6 * n) 6 2147483647 → (∀ j, j ≠ 37 → A j = A0 j) → Q (fset f 43 (nI (n + 1)), A)) : ∀ (r b : Nat) (A : Nat → Nat → Int32), b + r = 6 → A 37 = tkW (A0 37) (6 * n) b 2147483647 → (∀ j, j ≠ 37 → A j = A0 j) → ∀ lv : tm_L, lv.lookup 0 = some (.ref 1482) → lv.lookup 1 = some (.int (nI p)) → lv.lookup 2 = some (.int (nI b)) →  mg sc (d + 1) 207 202 lv [] (f, A) (fun r s' => r = none ∧ Q s') := by
  intro r
  induction r with
  | zero =>
    intro b A hb e37 eA lv l0 l1 l2
    have hb2 : b = 6 := by omega
    subst hb2
    refine m_ild (pc' := 203) cd_Mo_tell rfl (Or.inr ⟨_, rfl, rfl, rfl⟩) l2 rfl ?_
    refine m_k2 (v := 6) (pc' := 205) cd_Mo_tell rfl (by decide) rfl ?_
    refine m_if2 (t := 231) (pc' := 208) cd_Mo_tell rfl rfl rfl (fun c205 => ?_) (fun c205 => ?_)
    · have c205 : (6 : Int32) ≤ (nI 6) := c205
      refine m_ald (pc' := 232) cd_Mo_tell rfl (Or.inr ⟨_, rfl, rfl, rfl⟩) l0 rfl rfl ?_
      refine m_pure (pc' := 233) (st' := [.ref 1482, .ref 1482]) cd_Mo_tell rfl rfl (fun _ _ => rfl) ?_
      refine m_fI (k := 43) (x := (nI n)) (pc' := 236) cd_Mo_tell rfl rfl rfl rfl rfl h43 ?_
      refine m_k1 (v := 1) (pc' := 237) cd_Mo_tell rfl (by decide) rfl ?_
      refine m_pure (pc' := 238) (st' := [.int ((nI n) + 1), .ref 1482]) cd_Mo_tell rfl rfl (fun _ _ => rfl) ?_
      refine m_eq (show ((nI n) + 1 : Int32) = nI (n + 1) from nI_add n 1) ?_
      refine m_pI (k := 43) (pc' := 241) cd_Mo_tell rfl rfl rfl rfl (by simp [tm_okV, narrow, fits]) rfl rfl ?_
      exact m_retv cd_Mo_tell rfl ⟨rfl, kk A e37 eA⟩
    · have c205 : ¬ (6 : Int32) ≤ (nI 6) := c205
      exact absurd (show (6 : Int32) ≤ nI 6 from by decide) c205
  | succ r ih =>
    intro b A hb e37 eA lv l0 l1 l2
    refine m_ild (pc' := 203) cd_Mo_tell rfl (Or.inr ⟨_, rfl, rfl, rfl⟩) l2 rfl ?_
    refine m_k2 (v := 6) (pc' := 205) cd_Mo_tell rfl (by decide) rfl ?_
    refine m_if2 (t := 231) (pc' := 208) cd_Mo_tell rfl rfl rfl (fun c205 => ?_) (fun c205 => ?_)
    · have c205 : (6 : Int32) ≤ (nI b) := c205
      exact absurd c205 (nI_ge (b := 6) (by omega) (by decide))
    · have c205 : ¬ (6 : Int32) ≤ (nI b) := c205
      refine m_ald (pc' := 209) cd_Mo_tell rfl (Or.inr ⟨_, rfl, rfl, rfl⟩) l0 rfl rfl ?_
      refine m_fR (r := 36) (a := 37) (ad := 1519) (pc' := 212) rfl rfl cd_Mo_tell rfl rfl rfl rfl rfl ?_
      refine m_k2 (v := 6) (pc' := 214) cd_Mo_tell rfl (by decide) rfl ?_
      refine m_ald (pc' := 215) cd_Mo_tell rfl (Or.inr ⟨_, rfl, rfl, rfl⟩) l0 rfl rfl ?_
      refine m_fI (k := 43) (x := (nI n)) (pc' := 218) cd_Mo_tell rfl rfl rfl rfl rfl h43 ?_
      refine m_pure (pc' := 219) (st' := [.int ((6 : Int32) * (nI n)), .ref 1519]) cd_Mo_tell rfl rfl (fun _ _ => rfl) ?_
      refine m_eq (show ((6 : Int32) * (nI n) : Int32) = nI (6 * n) from pk_mul 6 n) ?_
      refine m_ild (pc' := 220) cd_Mo_tell rfl (Or.inr ⟨_, rfl, rfl, rfl⟩) l2 rfl ?_
      refine m_pure (pc' := 221) (st' := [.int ((nI (6 * n)) + (nI b)), .ref 1519]) cd_Mo_tell rfl rfl (fun _ _ => rfl) ?_
      refine m_eq (show ((nI (6 * n)) + (nI b) : Int32) = nI ((6 * n) + b) from nI_add (6 * n) b) ?_
      refine m_ldcw (pc' := 224) cd_Mo_tell rfl rfl rfl ?_
      refine m_aS (r := 36) (a := 37) (g := (A 37)) (p := ((6 * n) + b)) (pc' := 225) rfl rfl cd_Mo_tell rfl rfl rfl (vp_in_nI (by omega) (by decide)) (nI_clamp (by omega)) ?_
      refine m_inc (y := nI (b + 1)) (pc' := 228) cd_Mo_tell rfl l2 (by decide) (nI_add b 1) rfl (fun lv el => ?_)
      have l0 := tm_lk el l0 rfl (by decide)
      have l1 := tm_lk el l1 rfl (by decide)
      have l2 : lv.lookup 2 = some (.int (nI (b + 1))) := tm_lks el
      clear el
      refine m_pure (pc' := 202) (st' := []) cd_Mo_tell rfl rfl (fun _ _ => rfl) ?_
      refine ih (b + 1) _ (by omega) ?_ (fun j h1 => (fset_ne h1).trans (eA j h1)) lv l0 l1 l2
      show upd (A 37) (6 * n + b) 2147483647 = _
      rw [e37, tkW_s]
set_option maxRecDepth 100000 in
theorem m_tell0 {sc : tm_X} {d : Nat} {f : Nat → Int32} {A : Nat → Nat → Int32} {T : List Tm} {DL : List (Int32 × Int32)} {G Kw : Tm → Prop} {p : Nat} {NW : List Tm} {ws : List (Tm × Int32)} {Q : MS → Prop} (hM : MT f A T DL G Kw) (h30 : f 30 = nI NW.length) (hnw : NW.length ≤ 16) (h26 : ∀ (i : Nat) (X : Tm), NW[i]? = some X → tv T (A 26 i) X) (hz : ∀ X, X ∈ NW → X ≠ tz) (hq : qWi f A T ws) (hl : ws.length + NW.length ≤ 700) (h32 : f 32 = 0) (kk : ∀ f1 A1, MT (mjTf f1 f) (mjTA A1 A) T DL (fun y => G y ∨ y ∈ NW) Kw → qWi (mjTf f1 f) (mjTA A1 A) T (ws ++ NW.map (fun X => (X, -1))) → (mjTf f1 f 16 = 1 ∨ (mjTf f1 f 16 = f 16 ∧ ∀ y, y ∈ NW → G y)) → f1 43 = f 43 → (∀ j, j ≠ 5 → j ≠ 28 → j ≠ 29 → A1 j = A j) → Q (mjTf f1 f, mjTA A1 A)) : mGv sc (d + 1) 207 [.ref 1482, .int (nI p)] (f, A) Q := by
  show mg sc (d + 1) 207 0 [(0, .ref 1482), (1, .int (nI p))] [] (f, A) _
  generalize elv : ([(0, .ref 1482), (1, .int (nI p))] : tm_L) = lv
  have l0 : lv.lookup 0 = some (.ref 1482) := by rw [← elv]; rfl
  have l1 : lv.lookup 1 = some (.int (nI p)) := by rw [← elv]; rfl
  clear elv
  refine m_k1 (v := 0) (pc' := 1) cd_Mo_tell rfl (by decide) rfl ?_
  refine m_ist (pc' := 2) cd_Mo_tell rfl (Or.inr ⟨_, rfl, rfl, rfl⟩) (by decide) rfl (fun lv el => ?_)
  have l0 := tm_lk el l0 rfl (by decide)
  have l1 := tm_lk el l1 rfl (by decide)
  have l2 : lv.lookup 2 = some (.int 0) := tm_lks el
  clear el
  refine l_mtell (f0 := f) (A0 := A) h30 hnw h26 hz NW 0 f A G ws (by omega) rfl hM hq hl (fun _ _ _ => rfl) (fun _ _ _ _ => rfl) (fun f1 A1 lv hM1 hq1 hst1 ef eA l0 l1 => ?_) lv l0 l1 l2
  refine m_ald (pc' := 62) cd_Mo_tell rfl (Or.inr ⟨_, rfl, rfl, rfl⟩) l0 rfl rfl ?_
  refine m_fI (k := 32) (x := (0 : Int32)) (pc' := 65) cd_Mo_tell rfl rfl rfl rfl rfl ((ef 32 (by decide) (by decide)).trans h32) ?_
  refine m_if1 (t := 69) (pc' := 68) cd_Mo_tell rfl rfl rfl (fun c65 => ?_) (fun c65 => ?_)
  · have c65 : ¬ (0 : Int32) = 0 := c65
    exact absurd rfl c65
  · have c65 : (0 : Int32) = 0 := Classical.not_not.mp c65
    exact m_retv cd_Mo_tell rfl ⟨rfl, (by have k2 := kk f1 A1; rw [mjTf_of (fun k q => ef k (by omega) (by omega)), mjTA_of (fun j q => eA j (by omega) (by omega) (by omega))] at k2; exact k2 hM1 hq1 hst1 (ef 43 (by decide) (by decide)) eA)⟩
theorem tell_last {f f' : Nat → Int32} {A A' : Nat → Nat → Int32} {T : List Tm} {ws : List (Tm × Int32)} {NW : List Tm} {Y : Tm} {v : Int32} (h : qWi f A T (ws ++ (NW ++ [Y]).map (fun X => (X, -1)))) (e28 : A' 28 = A 28) (e29 : A' 29 = upd (A 29) (ws.length + NW.length) v) (e40 : f' 40 = f 40) : qWi f' A' T (ws ++ NW.map (fun X => (X, -1)) ++ [(Y, v)]) := by
  have e0 : ws ++ (NW ++ [Y]).map (fun X => (X, (-1 : Int32))) = (ws ++ NW.map (fun X => (X, -1))) ++ [(Y, -1)] := by simp
  rw [e0] at h
  have hl : (ws ++ NW.map (fun X => (X, (-1 : Int32)))).length = ws.length + NW.length := by simp
  refine ⟨⟨by rw [e40, h.1.1]; simp, by have := h.1.2; simp at this ⊢; omega⟩, fun i e he => ?_⟩
  rw [e28, e29]
  by_cases c : i < ws.length + NW.length
  · rw [List.getElem?_append_left (by omega)] at he
    rw [upd_ne (by omega)]
    exact h.2 i e (by rw [List.getElem?_append_left (by omega)]; exact he)
  · rw [List.getElem?_append_right (by omega)] at he
    by_cases c2 : i = ws.length + NW.length
    · rw [c2, hl, Nat.sub_self] at he
      cases he
      rw [c2, upd_same]
      exact ⟨(h.2 (ws.length + NW.length) (Y, -1) (by rw [List.getElem?_append_right (by omega), hl, Nat.sub_self]; rfl)).1, rfl⟩
    · rw [List.getElem?_eq_none (by simp; omega)] at he
      cases he
theorem qL1_c {A A' : Nat → Nat → Int32} {T T' : List Tm} {i : Nat} {e : RL} (hT : T <+: T') (h : qL1 A T i e) (e0 : ∀ j, 30 ≤ j → j ≤ 38 → j ≠ 37 → A' j i = A j i) (e37 : ∀ p, p < 6 → A' 37 (6 * i + p) = A 37 (6 * i + p)) : qL1 A' T' i e := by
  obtain ⟨h1, h2, h3, h4, h5, h6, h7, h8, h9⟩ := h
  refine ⟨?_, ?_, ?_, ?_, ?_, ?_, ?_, ?_, fun p hp => by rw [e37 p hp]; exact h9 p hp⟩
  · rw [e0 30 (by decide) (by decide) (by decide)]; exact tv_mono hT h1
  · rw [e0 31 (by decide) (by decide) (by decide)]; exact h2
  · rw [e0 32 (by decide) (by decide) (by decide)]; exact h3
  · rw [e0 33 (by decide) (by decide) (by decide)]; exact h4
  · rw [e0 34 (by decide) (by decide) (by decide)]; exact tv_mono hT h5
  · rw [e0 35 (by decide) (by decide) (by decide)]; exact tv_mono hT h6
  · rw [e0 36 (by decide) (by decide) (by decide)]; exact h7
  · rw [e0 38 (by decide) (by decide) (by decide)]; exact h8
theorem tell_ls {f f' : Nat → Int32} {A A' : Nat → Nat → Int32} {T : List Tm} {ls : List RL} {e : RL} (h : qLs f A T ls) (hl : ls.length < 700) (h43 : f' 43 = nI (ls.length + 1)) (h0 : ∀ i, i < ls.length → (∀ j, 30 ≤ j → j ≤ 38 → j ≠ 37 → A' j i = A j i) ∧ ∀ p, p < 6 → A' 37 (6 * i + p) = A 37 (6 * i + p)) (h1 : qL1 A' T ls.length e) : qLs f' A' T (ls ++ [e]) := by
  refine ⟨⟨by rw [h43]; simp, by simp; omega⟩, fun i e' he => ?_⟩
  by_cases c : i < ls.length
  · rw [List.getElem?_append_left c] at he
    exact qL1_c (List.prefix_refl T) (h.2 i e' he) (h0 i c).1 (h0 i c).2
  · rw [List.getElem?_append_right (by omega)] at he
    by_cases c2 : i = ls.length
    · rw [c2, Nat.sub_self] at he
      cases he
      rw [c2]; exact h1
    · rw [List.getElem?_eq_none (by simp; omega)] at he
      cases he
set_option maxRecDepth 100000 in
theorem m_tell1 {sc : tm_X} {d : Nat} {f : Nat → Int32} {A : Nat → Nat → Int32} {T : List Tm} {DL : List (Int32 × Int32)} {G Kw : Tm → Prop} {p : Nat} {NW : List Tm} {ws : List (Tm × Int32)} {Y S mi th : Tm} {on : Bool} {m : Nat} {ls : List RL} {Q : MS → Prop} (hM : MT f A T DL G Kw) (h30 : f 30 = nI (NW ++ [Y]).length) (hnw : (NW ++ [Y]).length ≤ 16) (h26 : ∀ (i : Nat) (X : Tm), (NW ++ [Y])[i]? = some X → tv T (A 26 i) X) (hz : ∀ X, X ∈ (NW ++ [Y]) → X ≠ tz) (hq : qWi f A T ws) (hl : ws.length + (NW ++ [Y]).length ≤ 700) (hls : qLs f A T ls) (hls7 : ls.length < 700) (h32 : tv T (f 32) S) (hS : kd S = 1) (hSm : mk S = nI m) (hm : m < 3000) (h34 : f 34 = bz on) (h35 : tv T (f 35) mi) (h36 : tv T (f 36) th) (kk : ∀ f1 A1, MT (mjTf f1 f) (mjTA A1 A) T DL (fun y => G y ∨ y ∈ NW ++ [Y]) Kw → qWi (mjTf f1 f) (mjTA A1 A) T (ws ++ NW.map (fun X => (X, -1)) ++ [(Y, nI ls.length)]) → (mjTf f1 f 16 = 1 ∨ (mjTf f1 f 16 = f 16 ∧ ∀ y, y ∈ NW ++ [Y] → G y)) → qLs (mjTf f1 f) (mjTA A1 A) T (ls ++ [(S, nI p, f 33, on, mi, th, f 37, 0, fun _ => 2147483647)]) → mjTA A1 A 13 = upd (A 13) m (nI ls.length) → Q (mjTf f1 f, mjTA A1 A)) : mGv sc (d + 1) 207 [.ref 1482, .int (nI p)] (f, A) Q := by
  obtain ⟨iS, eS, hiS⟩ := h32
  have hST := MT_len hM
  have hiSl := tv_lt hiS
  have hSz : S ≠ tz := fun e => by rw [e] at hS; exact absurd hS (by decide)
  have hi0 := MT_pos hM hiS hSz
  show mg sc (d + 1) 207 0 [(0, .ref 1482), (1, .int (nI p))] [] (f, A) _
  generalize elv : ([(0, .ref 1482), (1, .int (nI p))] : tm_L) = lv
  have l0 : lv.lookup 0 = some (.ref 1482) := by rw [← elv]; rfl
  have l1 : lv.lookup 1 = some (.int (nI p)) := by rw [← elv]; rfl
  clear elv
  refine m_k1 (v := 0) (pc' := 1) cd_Mo_tell rfl (by decide) rfl ?_
  refine m_ist (pc' := 2) cd_Mo_tell rfl (Or.inr ⟨_, rfl, rfl, rfl⟩) (by decide) rfl (fun lv el => ?_)
  have l0 := tm_lk el l0 rfl (by decide)
  have l1 := tm_lk el l1 rfl (by decide)
  have l2 : lv.lookup 2 = some (.int 0) := tm_lks el
  clear el
  have hl0 := hl
  rw [List.length_append] at hl0
  simp only [List.length_cons, List.length_nil] at hl0
  refine l_mtell (f0 := f) (A0 := A) h30 hnw h26 hz (NW ++ [Y]) 0 f A G ws (by omega) rfl hM hq hl (fun _ _ _ => rfl) (fun _ _ _ _ => rfl) (fun f1 A1 lv hM1 hq1 hst1 ef eA l0 l1 => ?_) lv l0 l1 l2
  refine m_ald (pc' := 62) cd_Mo_tell rfl (Or.inr ⟨_, rfl, rfl, rfl⟩) l0 rfl rfl ?_
  refine m_fI (k := 32) (x := (nI iS)) (pc' := 65) cd_Mo_tell rfl rfl rfl rfl rfl ((ef 32 (by decide) (by decide)).trans eS) ?_
  refine m_if1 (t := 69) (pc' := 68) cd_Mo_tell rfl rfl rfl (fun c65 => ?_) (fun c65 => ?_)
  · have c65 : ¬ (nI iS) = 0 := c65
    refine m_ald (pc' := 70) cd_Mo_tell rfl (Or.inr ⟨_, rfl, rfl, rfl⟩) l0 rfl rfl ?_
    refine m_fR (r := 28) (a := 29) (ad := 1511) (pc' := 73) rfl rfl cd_Mo_tell rfl rfl rfl rfl rfl ?_
    refine m_ald (pc' := 74) cd_Mo_tell rfl (Or.inr ⟨_, rfl, rfl, rfl⟩) l0 rfl rfl ?_
    refine m_fI (k := 40) (x := (nI ((ws.length + NW.length) + 1))) (pc' := 77) cd_Mo_tell rfl rfl rfl rfl rfl (hq1.1.1.trans (by congr 1; simp; omega)) ?_
    refine m_k1 (v := 1) (pc' := 78) cd_Mo_tell rfl (by decide) rfl ?_
    refine m_pure (pc' := 79) (st' := [.int ((nI ((ws.length + NW.length) + 1)) - 1), .ref 1511]) cd_Mo_tell rfl rfl (fun _ _ => rfl) ?_
    refine m_eq (show ((nI ((ws.length + NW.length) + 1)) - 1 : Int32) = nI (ws.length + NW.length) from pk_sub (a := (ws.length + NW.length) + 1) (b := 1) (by omega)) ?_
    refine m_ald (pc' := 80) cd_Mo_tell rfl (Or.inr ⟨_, rfl, rfl, rfl⟩) l0 rfl rfl ?_
    refine m_fI (k := 43) (x := (nI ls.length)) (pc' := 83) cd_Mo_tell rfl rfl rfl rfl rfl ((ef 43 (by decide) (by decide)).trans hls.1.1) ?_
    refine m_aS (r := 28) (a := 29) (g := (A1 29)) (p := (ws.length + NW.length)) (pc' := 84) rfl rfl cd_Mo_tell rfl rfl rfl (vp_in_nI (by omega) (by decide)) (nI_clamp (by omega)) ?_
    refine m_ald (pc' := 85) cd_Mo_tell rfl (Or.inr ⟨_, rfl, rfl, rfl⟩) l0 rfl rfl ?_
    refine m_fR (r := 12) (a := 13) (ad := 1495) (pc' := 88) rfl rfl cd_Mo_tell rfl rfl rfl rfl rfl ?_
    refine m_ald (pc' := 89) cd_Mo_tell rfl (Or.inr ⟨_, rfl, rfl, rfl⟩) l0 rfl rfl ?_
    refine m_fR (r := 1) (a := 2) (ad := 1484) (pc' := 92) rfl rfl cd_Mo_tell rfl rfl rfl rfl rfl ?_
    refine m_ald (pc' := 93) cd_Mo_tell rfl (Or.inr ⟨_, rfl, rfl, rfl⟩) l0 rfl rfl ?_
    refine m_fI (k := 32) (x := (nI iS)) (pc' := 96) cd_Mo_tell rfl rfl rfl rfl rfl ((ef 32 (by decide) (by decide)).trans eS) ?_
    refine m_aI (r := 1) (a := 2) (g := (A1 2)) (x := (nI m)) (pc' := 97) rfl rfl cd_Mo_tell rfl rfl rfl (vp_in_nI (by omega) (by decide)) ((congrArg (A1 2) (nI_clamp (by omega))).trans ((congrFun (eA 2 (by decide) (by decide) (by decide)) iS).trans ((MT_mk hM hiS (Or.inl hS)).trans hSm))) ?_
    refine m_ald (pc' := 98) cd_Mo_tell rfl (Or.inr ⟨_, rfl, rfl, rfl⟩) l0 rfl rfl ?_
    refine m_fI (k := 43) (x := (nI ls.length)) (pc' := 101) cd_Mo_tell rfl rfl rfl rfl rfl ((ef 43 (by decide) (by decide)).trans hls.1.1) ?_
    refine m_aS (r := 12) (a := 13) (g := (A1 13)) (p := m) (pc' := 102) rfl rfl cd_Mo_tell rfl rfl rfl (vp_in_nI (by omega) (by decide)) (nI_clamp (by omega)) ?_
    refine m_ald (pc' := 103) cd_Mo_tell rfl (Or.inr ⟨_, rfl, rfl, rfl⟩) l0 rfl rfl ?_
    refine m_fR (r := 29) (a := 30) (ad := 1512) (pc' := 106) rfl rfl cd_Mo_tell rfl rfl rfl rfl rfl ?_
    refine m_ald (pc' := 107) cd_Mo_tell rfl (Or.inr ⟨_, rfl, rfl, rfl⟩) l0 rfl rfl ?_
    refine m_fI (k := 43) (x := (nI ls.length)) (pc' := 110) cd_Mo_tell rfl rfl rfl rfl rfl ((ef 43 (by decide) (by decide)).trans hls.1.1) ?_
    refine m_ald (pc' := 111) cd_Mo_tell rfl (Or.inr ⟨_, rfl, rfl, rfl⟩) l0 rfl rfl ?_
    refine m_fI (k := 32) (x := (nI iS)) (pc' := 114) cd_Mo_tell rfl rfl rfl rfl rfl ((ef 32 (by decide) (by decide)).trans eS) ?_
    refine m_aS (r := 29) (a := 30) (g := (A1 30)) (p := ls.length) (pc' := 115) rfl rfl cd_Mo_tell rfl rfl rfl (vp_in_nI (by omega) (by decide)) (nI_clamp (by omega)) ?_
    refine m_ald (pc' := 116) cd_Mo_tell rfl (Or.inr ⟨_, rfl, rfl, rfl⟩) l0 rfl rfl ?_
    refine m_fR (r := 30) (a := 31) (ad := 1513) (pc' := 119) rfl rfl cd_Mo_tell rfl rfl rfl rfl rfl ?_
    refine m_ald (pc' := 120) cd_Mo_tell rfl (Or.inr ⟨_, rfl, rfl, rfl⟩) l0 rfl rfl ?_
    refine m_fI (k := 43) (x := (nI ls.length)) (pc' := 123) cd_Mo_tell rfl rfl rfl rfl rfl ((ef 43 (by decide) (by decide)).trans hls.1.1) ?_
    refine m_ild (pc' := 124) cd_Mo_tell rfl (Or.inr ⟨_, rfl, rfl, rfl⟩) l1 rfl ?_
    refine m_aS (r := 30) (a := 31) (g := (A1 31)) (p := ls.length) (pc' := 125) rfl rfl cd_Mo_tell rfl rfl rfl (vp_in_nI (by omega) (by decide)) (nI_clamp (by omega)) ?_
    refine m_ald (pc' := 126) cd_Mo_tell rfl (Or.inr ⟨_, rfl, rfl, rfl⟩) l0 rfl rfl ?_
    refine m_fR (r := 31) (a := 32) (ad := 1514) (pc' := 129) rfl rfl cd_Mo_tell rfl rfl rfl rfl rfl ?_
    refine m_ald (pc' := 130) cd_Mo_tell rfl (Or.inr ⟨_, rfl, rfl, rfl⟩) l0 rfl rfl ?_
    refine m_fI (k := 43) (x := (nI ls.length)) (pc' := 133) cd_Mo_tell rfl rfl rfl rfl rfl ((ef 43 (by decide) (by decide)).trans hls.1.1) ?_
    refine m_ald (pc' := 134) cd_Mo_tell rfl (Or.inr ⟨_, rfl, rfl, rfl⟩) l0 rfl rfl ?_
    refine m_fI (k := 33) (x := (f 33)) (pc' := 137) cd_Mo_tell rfl rfl rfl rfl rfl (ef 33 (by decide) (by decide)) ?_
    refine m_aS (r := 31) (a := 32) (g := (A1 32)) (p := ls.length) (pc' := 138) rfl rfl cd_Mo_tell rfl rfl rfl (vp_in_nI (by omega) (by decide)) (nI_clamp (by omega)) ?_
    refine m_ald (pc' := 139) cd_Mo_tell rfl (Or.inr ⟨_, rfl, rfl, rfl⟩) l0 rfl rfl ?_
    refine m_fR (r := 32) (a := 33) (ad := 1515) (pc' := 142) rfl rfl cd_Mo_tell rfl rfl rfl rfl rfl ?_
    refine m_ald (pc' := 143) cd_Mo_tell rfl (Or.inr ⟨_, rfl, rfl, rfl⟩) l0 rfl rfl ?_
    refine m_fI (k := 43) (x := (nI ls.length)) (pc' := 146) cd_Mo_tell rfl rfl rfl rfl rfl ((ef 43 (by decide) (by decide)).trans hls.1.1) ?_
    refine m_ald (pc' := 147) cd_Mo_tell rfl (Or.inr ⟨_, rfl, rfl, rfl⟩) l0 rfl rfl ?_
    refine m_fI (k := 34) (x := (bz on)) (pc' := 150) cd_Mo_tell rfl rfl rfl rfl rfl ((ef 34 (by decide) (by decide)).trans h34) ?_
    refine m_bS (r := 32) (a := 33) (g := (A1 33)) (p := ls.length) (pc' := 151) rfl rfl cd_Mo_tell rfl rfl rfl (vp_in_nI (by omega) (by decide)) (nI_clamp (by omega)) (by cases on <;> decide) ?_
    refine m_ald (pc' := 152) cd_Mo_tell rfl (Or.inr ⟨_, rfl, rfl, rfl⟩) l0 rfl rfl ?_
    refine m_fR (r := 33) (a := 34) (ad := 1516) (pc' := 155) rfl rfl cd_Mo_tell rfl rfl rfl rfl rfl ?_
    refine m_ald (pc' := 156) cd_Mo_tell rfl (Or.inr ⟨_, rfl, rfl, rfl⟩) l0 rfl rfl ?_
    refine m_fI (k := 43) (x := (nI ls.length)) (pc' := 159) cd_Mo_tell rfl rfl rfl rfl rfl ((ef 43 (by decide) (by decide)).trans hls.1.1) ?_
    refine m_ald (pc' := 160) cd_Mo_tell rfl (Or.inr ⟨_, rfl, rfl, rfl⟩) l0 rfl rfl ?_
    refine m_fI (k := 35) (x := (f 35)) (pc' := 163) cd_Mo_tell rfl rfl rfl rfl rfl (ef 35 (by decide) (by decide)) ?_
    refine m_aS (r := 33) (a := 34) (g := (A1 34)) (p := ls.length) (pc' := 164) rfl rfl cd_Mo_tell rfl rfl rfl (vp_in_nI (by omega) (by decide)) (nI_clamp (by omega)) ?_
    refine m_ald (pc' := 165) cd_Mo_tell rfl (Or.inr ⟨_, rfl, rfl, rfl⟩) l0 rfl rfl ?_
    refine m_fR (r := 34) (a := 35) (ad := 1517) (pc' := 168) rfl rfl cd_Mo_tell rfl rfl rfl rfl rfl ?_
    refine m_ald (pc' := 169) cd_Mo_tell rfl (Or.inr ⟨_, rfl, rfl, rfl⟩) l0 rfl rfl ?_
    refine m_fI (k := 43) (x := (nI ls.length)) (pc' := 172) cd_Mo_tell rfl rfl rfl rfl rfl ((ef 43 (by decide) (by decide)).trans hls.1.1) ?_
    refine m_ald (pc' := 173) cd_Mo_tell rfl (Or.inr ⟨_, rfl, rfl, rfl⟩) l0 rfl rfl ?_
    refine m_fI (k := 36) (x := (f 36)) (pc' := 176) cd_Mo_tell rfl rfl rfl rfl rfl (ef 36 (by decide) (by decide)) ?_
    refine m_aS (r := 34) (a := 35) (g := (A1 35)) (p := ls.length) (pc' := 177) rfl rfl cd_Mo_tell rfl rfl rfl (vp_in_nI (by omega) (by decide)) (nI_clamp (by omega)) ?_
    refine m_ald (pc' := 178) cd_Mo_tell rfl (Or.inr ⟨_, rfl, rfl, rfl⟩) l0 rfl rfl ?_
    refine m_fR (r := 35) (a := 36) (ad := 1518) (pc' := 181) rfl rfl cd_Mo_tell rfl rfl rfl rfl rfl ?_
    refine m_ald (pc' := 182) cd_Mo_tell rfl (Or.inr ⟨_, rfl, rfl, rfl⟩) l0 rfl rfl ?_
    refine m_fI (k := 43) (x := (nI ls.length)) (pc' := 185) cd_Mo_tell rfl rfl rfl rfl rfl ((ef 43 (by decide) (by decide)).trans hls.1.1) ?_
    refine m_ald (pc' := 186) cd_Mo_tell rfl (Or.inr ⟨_, rfl, rfl, rfl⟩) l0 rfl rfl ?_
    refine m_fI (k := 37) (x := (f 37)) (pc' := 189) cd_Mo_tell rfl rfl rfl rfl rfl (ef 37 (by decide) (by decide)) ?_
    refine m_aS (r := 35) (a := 36) (g := (A1 36)) (p := ls.length) (pc' := 190) rfl rfl cd_Mo_tell rfl rfl rfl (vp_in_nI (by omega) (by decide)) (nI_clamp (by omega)) ?_
    refine m_ald (pc' := 191) cd_Mo_tell rfl (Or.inr ⟨_, rfl, rfl, rfl⟩) l0 rfl rfl ?_
    refine m_fR (r := 37) (a := 38) (ad := 1520) (pc' := 194) rfl rfl cd_Mo_tell rfl rfl rfl rfl rfl ?_
    refine m_ald (pc' := 195) cd_Mo_tell rfl (Or.inr ⟨_, rfl, rfl, rfl⟩) l0 rfl rfl ?_
    refine m_fI (k := 43) (x := (nI ls.length)) (pc' := 198) cd_Mo_tell rfl rfl rfl rfl rfl ((ef 43 (by decide) (by decide)).trans hls.1.1) ?_
    refine m_k1 (v := 0) (pc' := 199) cd_Mo_tell rfl (by decide) rfl ?_
    refine m_aS (r := 37) (a := 38) (g := (A1 38)) (p := ls.length) (pc' := 200) rfl rfl cd_Mo_tell rfl rfl rfl (vp_in_nI (by omega) (by decide)) (nI_clamp (by omega)) ?_
    refine m_k1 (v := 0) (pc' := 201) cd_Mo_tell rfl (by decide) rfl ?_
    refine m_ist (pc' := 202) cd_Mo_tell rfl (Or.inr ⟨_, rfl, rfl, rfl⟩) (by decide) rfl (fun lv el => ?_)
    have l0 := tm_lk el l0 rfl (by decide)
    have l1 := tm_lk el l1 rfl (by decide)
    have l2 : lv.lookup 2 = some (.int 0) := tm_lks el
    clear el
    refine l_mtellP (n := ls.length) (A0 := (fset (fset (fset (fset (fset (fset (fset (fset (fset (fset A1 29 (upd (A1 29) (ws.length + NW.length) (nI ls.length))) 13 (upd (A1 13) m (nI ls.length))) 30 (upd (A1 30) ls.length (nI iS))) 31 (upd (A1 31) ls.length (nI p))) 32 (upd (A1 32) ls.length (f 33))) 33 (upd (A1 33) ls.length (bz on))) 34 (upd (A1 34) ls.length (f 35))) 35 (upd (A1 35) ls.length (f 36))) 36 (upd (A1 36) ls.length (f 37))) 38 (upd (A1 38) ls.length 0))) (by omega) ((ef 43 (by decide) (by decide)).trans hls.1.1) (fun A2 e37 e2 => ?_) 6 0 _ rfl (by rw [tkW_0]) (fun _ _ => rfl) lv l0 l1 l2
    have g13 : A2 13 = upd (A 13) m (nI ls.length) := (e2 13 (by decide)).trans (show upd (A1 13) m (nI ls.length) = _ by rw [eA 13 (by decide) (by decide) (by decide)])
    have g30 : A2 30 = upd (A 30) ls.length (nI iS) := (e2 30 (by decide)).trans (show upd (A1 30) ls.length (nI iS) = _ by rw [eA 30 (by decide) (by decide) (by decide)])
    have g31 : A2 31 = upd (A 31) ls.length (nI p) := (e2 31 (by decide)).trans (show upd (A1 31) ls.length (nI p) = _ by rw [eA 31 (by decide) (by decide) (by decide)])
    have g32 : A2 32 = upd (A 32) ls.length (f 33) := (e2 32 (by decide)).trans (show upd (A1 32) ls.length (f 33) = _ by rw [eA 32 (by decide) (by decide) (by decide)])
    have g33 : A2 33 = upd (A 33) ls.length (bz on) := (e2 33 (by decide)).trans (show upd (A1 33) ls.length (bz on) = _ by rw [eA 33 (by decide) (by decide) (by decide)])
    have g34 : A2 34 = upd (A 34) ls.length (f 35) := (e2 34 (by decide)).trans (show upd (A1 34) ls.length (f 35) = _ by rw [eA 34 (by decide) (by decide) (by decide)])
    have g35 : A2 35 = upd (A 35) ls.length (f 36) := (e2 35 (by decide)).trans (show upd (A1 35) ls.length (f 36) = _ by rw [eA 35 (by decide) (by decide) (by decide)])
    have g36 : A2 36 = upd (A 36) ls.length (f 37) := (e2 36 (by decide)).trans (show upd (A1 36) ls.length (f 37) = _ by rw [eA 36 (by decide) (by decide) (by decide)])
    have g38 : A2 38 = upd (A 38) ls.length 0 := (e2 38 (by decide)).trans (show upd (A1 38) ls.length 0 = _ by rw [eA 38 (by decide) (by decide) (by decide)])
    have g37 : A2 37 = tkW (A 37) (6 * ls.length) 6 2147483647 := e37.trans (show tkW (A1 37) _ _ _ = _ by rw [eA 37 (by decide) (by decide) (by decide)])
    have eA2 : ∀ j, ¬ (j = 5 ∨ j = 13 ∨ (28 ≤ j ∧ j ≤ 38)) → A2 j = A j := fun j q => (e2 j (by omega)).trans ((fset_ne (by omega)).trans ((fset_ne (by omega)).trans ((fset_ne (by omega)).trans ((fset_ne (by omega)).trans ((fset_ne (by omega)).trans ((fset_ne (by omega)).trans ((fset_ne (by omega)).trans ((fset_ne (by omega)).trans ((fset_ne (by omega)).trans ((fset_ne (by omega)).trans ((eA j (by omega) (by omega) (by omega)))))))))))))
    have ef2 : ∀ k, ¬ (k = 16 ∨ k = 40 ∨ k = 43) → fset f1 43 (nI (ls.length + 1)) k = f k := fun k q => (fset_ne (by omega)).trans (ef k (by omega) (by omega))
    have k2 := kk (fset f1 43 (nI (ls.length + 1))) A2
    rw [mjTf_of ef2, mjTA_of eA2] at k2
    refine k2 ?_ (tell_last hq1 ((e2 28 (by decide)).trans rfl) ((e2 29 (by decide)).trans rfl) rfl) hst1 (tell_ls hls (by omega) rfl (fun i hi => ⟨fun j h1 h2 h3 => ?_, fun q hq => ?_⟩) ?_) g13
    · unfold MT
      rw [e2 1 (by decide), e2 2 (by decide), e2 3 (by decide), e2 4 (by decide), e2 5 (by decide), e2 6 (by decide), e2 7 (by decide), e2 8 (by decide)]
      exact hM1
    · rcases (show j = 30 ∨ j = 31 ∨ j = 32 ∨ j = 33 ∨ j = 34 ∨ j = 35 ∨ j = 36 ∨ j = 38 by omega) with q | q | q | q | q | q | q | q <;> subst q
      · rw [g30, upd_ne (by omega)]
      · rw [g31, upd_ne (by omega)]
      · rw [g32, upd_ne (by omega)]
      · rw [g33, upd_ne (by omega)]
      · rw [g34, upd_ne (by omega)]
      · rw [g35, upd_ne (by omega)]
      · rw [g36, upd_ne (by omega)]
      · rw [g38, upd_ne (by omega)]
    · rw [g37]
      exact if_neg (by omega)
    · refine ⟨?_, ?_, ?_, ?_, ?_, ?_, ?_, ?_, fun q hq => ?_⟩
      · rw [g30, upd_same]; exact ⟨iS, rfl, hiS⟩
      · rw [g31, upd_same]
      · rw [g32, upd_same]
      · rw [g33, upd_same]
      · rw [g34, upd_same]; exact h35
      · rw [g35, upd_same]; exact h36
      · rw [g36, upd_same]
      · rw [g38, upd_same]
      · rw [g37]
        exact if_pos (by omega)
  · have c65 : (nI iS) = 0 := Classical.not_not.mp c65
    exact absurd ((MT_0 hM ⟨iS, rfl, hiS⟩).mp c65) hSz
