/-! The reference: blocks written -/
def thW (th : Nat → Int32) (H b : Nat) (v : Int32) : Nat → Int32 := fun j => if 75 * H ≤ j ∧ j < 75 * H + b then v else th j
def stW (st en : Nat → Int32) (H n : Nat) : Nat → Int32 := fun i => if 1200 * H ≤ i ∧ i < 1200 * H + n then en (i - 1200 * H) else st i
theorem thW_0 (th : Nat → Int32) (H : Nat) (v : Int32) : thW th H 0 v = th := funext fun j => if_neg (by omega)
theorem thW_s (th : Nat → Int32) (H b : Nat) (v : Int32) : upd (thW th H b v) (75 * H + b) v = thW th H (b + 1) v := funext fun j => by
  show (if j = 75 * H + b then v else thW th H b v j) = _
  unfold thW
  by_cases c : j = 75 * H + b
  · rw [if_pos c, if_pos (by omega)]
  · rw [if_neg c]
    by_cases c2 : 75 * H ≤ j ∧ j < 75 * H + b
    · rw [if_pos c2, if_pos (by omega)]
    · rw [if_neg c2, if_neg (by omega)]
theorem stW_0 (st en : Nat → Int32) (H : Nat) : stW st en H 0 = st := funext fun j => if_neg (by omega)
theorem stW_s (st en : Nat → Int32) (H n : Nat) : upd (stW st en H n) (1200 * H + n) (en n) = stW st en H (n + 1) := funext fun j => by
  show (if j = 1200 * H + n then en n else stW st en H n j) = _
  unfold stW
  by_cases c : j = 1200 * H + n
  · rw [if_pos c, if_pos (by omega), c, Nat.add_sub_cancel_left]
  · rw [if_neg c]
    by_cases c2 : 1200 * H ≤ j ∧ j < 1200 * H + n
    · rw [if_pos c2, if_pos (by omega)]
    · rw [if_neg c2, if_neg (by omega)]
def mjW (B A : Nat → Nat → Int32) : Nat → Nat → Int32 := fun j => if 18 ≤ j ∧ j ≤ 23 then B j else A j
theorem mjW_of {B A : Nat → Nat → Int32} (h : ∀ j, ¬ (18 ≤ j ∧ j ≤ 23) → B j = A j) : mjW B A = B := by
  funext j
  unfold mjW
  split
  · rfl
  · rename_i q; exact (h j q).symm
set_option maxRecDepth 100000 in
theorem l_wrI {sc : tm_X} {d : Nat} {f : Nat → Int32} {A0 : Nat → Nat → Int32} {p o N m n0 : Nat} {b : Nat} {Q : Option Value → MS → Prop} (hp : p < 6) (ho : o < 2) (hN : N ≤ 536) (hm : m ≤ 1000) (hn0 : n0 ≤ 536) (h38 : f 38 = nI N) (hb : b < bk N) (kk : ∀ A (lv : tm_L), A 19 = thW (A0 19) (2 * p + (1 - o)) (b + 1) 1 → A 18 = stW (A0 18) (A0 27) (2 * p + (1 - o)) (min (16 * b + 16) (2 * N)) → (∀ j, j ≠ 18 → j ≠ 19 → A j = A0 j) →  lv.lookup 0 = some (.ref 1482) → lv.lookup 1 = some (.int (nI p)) → lv.lookup 2 = some (.int (nI m)) → lv.lookup 3 = some (.int (nI o)) → lv.lookup 4 = some (.int (nI (1 - o))) → lv.lookup 5 = some (.int (nI (bk N))) → lv.lookup 6 = some (.int (nI (1200 * (2 * p + (1 - o))))) →  lv.lookup 7 = some (.int (nI b)) → mg sc (d + 1) 205 136 lv [] (f, A) Q) : ∀ (r k : Nat) (A : Nat → Nat → Int32), k + r = min (16 * b + 16) (2 * N) → A 19 = thW (A0 19) (2 * p + (1 - o)) (b + 1) 1 → A 18 = stW (A0 18) (A0 27) (2 * p + (1 - o)) k → (∀ j, j ≠ 18 → j ≠ 19 → A j = A0 j) →  ∀ lv : tm_L, lv.lookup 0 = some (.ref 1482) → lv.lookup 1 = some (.int (nI p)) → lv.lookup 2 = some (.int (nI m)) → lv.lookup 3 = some (.int (nI o)) → lv.lookup 4 = some (.int (nI (1 - o))) → lv.lookup 5 = some (.int (nI (bk N))) → lv.lookup 6 = some (.int (nI (1200 * (2 * p + (1 - o))))) →  lv.lookup 7 = some (.int (nI b)) → lv.lookup 8 = some (.int (nI k)) → mg sc (d + 1) 205 89 lv [] (f, A) Q := by
  have hbk : bk N ≤ 67 := by unfold bk; omega
  have hb2 : 16 * b < 2 * N := by unfold bk at hb; omega
  intro r
  induction r with
  | zero =>
    intro k A hk e19 e18 eA lv l0 l1 l2 l3 l4 l5 l6 l7 l8
    have hk2 : k = min (16 * b + 16) (2 * N) := by omega
    refine m_ild (pc' := 91) cd_Mo_write rfl (Or.inl ⟨rfl, rfl⟩) l8 rfl ?_
    refine m_k2 (v := 16) (pc' := 93) cd_Mo_write rfl (by decide) rfl ?_
    refine m_ild (pc' := 95) cd_Mo_write rfl (Or.inl ⟨rfl, rfl⟩) l7 rfl ?_
    refine m_pure (pc' := 96) (st' := [.int ((16 : Int32) * (nI b)), .int (nI k)]) cd_Mo_write rfl rfl (fun _ _ => rfl) ?_
    refine m_eq (show ((16 : Int32) * (nI b) : Int32) = nI (16 * b) from pk_mul 16 b) ?_
    refine m_k2 (v := 16) (pc' := 98) cd_Mo_write rfl (by decide) rfl ?_
    refine m_pure (pc' := 99) (st' := [.int ((nI (16 * b)) + 16), .int (nI k)]) cd_Mo_write rfl rfl (fun _ _ => rfl) ?_
    refine m_eq (show ((nI (16 * b)) + 16 : Int32) = nI ((16 * b) + 16) from nI_add (16 * b) 16) ?_
    refine m_if2 (t := 136) (pc' := 102) cd_Mo_write rfl rfl rfl (fun c99 => ?_) (fun c99 => ?_)
    · have c99 : (nI ((16 * b) + 16)) ≤ (nI k) := c99
      rw [hk2] at e18
      exact kk A lv e19 e18 eA l0 l1 l2 l3 l4 l5 l6 l7
    · have c99 : ¬ (nI ((16 * b) + 16)) ≤ (nI k) := c99
      refine m_ild (pc' := 104) cd_Mo_write rfl (Or.inl ⟨rfl, rfl⟩) l8 rfl ?_
      refine m_k1 (v := 2) (pc' := 105) cd_Mo_write rfl (by decide) rfl ?_
      refine m_ald (pc' := 106) cd_Mo_write rfl (Or.inr ⟨_, rfl, rfl, rfl⟩) l0 rfl rfl ?_
      refine m_fI (k := 38) (x := (nI N)) (pc' := 109) cd_Mo_write rfl rfl rfl rfl rfl h38 ?_
      refine m_pure (pc' := 110) (st' := [.int ((2 : Int32) * (nI N)), .int (nI k)]) cd_Mo_write rfl rfl (fun _ _ => rfl) ?_
      refine m_eq (show ((2 : Int32) * (nI N) : Int32) = nI (2 * N) from pk_mul 2 N) ?_
      refine m_if2 (t := 136) (pc' := 113) cd_Mo_write rfl rfl rfl (fun c110 => ?_) (fun c110 => ?_)
      · have c110 : (nI (2 * N)) ≤ (nI k) := c110
        rw [hk2] at e18
        exact kk A lv e19 e18 eA l0 l1 l2 l3 l4 l5 l6 l7
      · have c110 : ¬ (nI (2 * N)) ≤ (nI k) := c110
        exact absurd (show False from by rw [nI_leI (by omega) (by omega)] at c99 c110; omega) id
  | succ r ih =>
    intro k A hk e19 e18 eA lv l0 l1 l2 l3 l4 l5 l6 l7 l8
    refine m_ild (pc' := 91) cd_Mo_write rfl (Or.inl ⟨rfl, rfl⟩) l8 rfl ?_
    refine m_k2 (v := 16) (pc' := 93) cd_Mo_write rfl (by decide) rfl ?_
    refine m_ild (pc' := 95) cd_Mo_write rfl (Or.inl ⟨rfl, rfl⟩) l7 rfl ?_
    refine m_pure (pc' := 96) (st' := [.int ((16 : Int32) * (nI b)), .int (nI k)]) cd_Mo_write rfl rfl (fun _ _ => rfl) ?_
    refine m_eq (show ((16 : Int32) * (nI b) : Int32) = nI (16 * b) from pk_mul 16 b) ?_
    refine m_k2 (v := 16) (pc' := 98) cd_Mo_write rfl (by decide) rfl ?_
    refine m_pure (pc' := 99) (st' := [.int ((nI (16 * b)) + 16), .int (nI k)]) cd_Mo_write rfl rfl (fun _ _ => rfl) ?_
    refine m_eq (show ((nI (16 * b)) + 16 : Int32) = nI ((16 * b) + 16) from nI_add (16 * b) 16) ?_
    refine m_if2 (t := 136) (pc' := 102) cd_Mo_write rfl rfl rfl (fun c99 => ?_) (fun c99 => ?_)
    · have c99 : (nI ((16 * b) + 16)) ≤ (nI k) := c99
      exact absurd c99 (nI_ge (by omega) (by omega))
    · have c99 : ¬ (nI ((16 * b) + 16)) ≤ (nI k) := c99
      refine m_ild (pc' := 104) cd_Mo_write rfl (Or.inl ⟨rfl, rfl⟩) l8 rfl ?_
      refine m_k1 (v := 2) (pc' := 105) cd_Mo_write rfl (by decide) rfl ?_
      refine m_ald (pc' := 106) cd_Mo_write rfl (Or.inr ⟨_, rfl, rfl, rfl⟩) l0 rfl rfl ?_
      refine m_fI (k := 38) (x := (nI N)) (pc' := 109) cd_Mo_write rfl rfl rfl rfl rfl h38 ?_
      refine m_pure (pc' := 110) (st' := [.int ((2 : Int32) * (nI N)), .int (nI k)]) cd_Mo_write rfl rfl (fun _ _ => rfl) ?_
      refine m_eq (show ((2 : Int32) * (nI N) : Int32) = nI (2 * N) from pk_mul 2 N) ?_
      refine m_if2 (t := 136) (pc' := 113) cd_Mo_write rfl rfl rfl (fun c110 => ?_) (fun c110 => ?_)
      · have c110 : (nI (2 * N)) ≤ (nI k) := c110
        exact absurd c110 (nI_ge (by omega) (by omega))
      · have c110 : ¬ (nI (2 * N)) ≤ (nI k) := c110
        refine m_ald (pc' := 114) cd_Mo_write rfl (Or.inr ⟨_, rfl, rfl, rfl⟩) l0 rfl rfl ?_
        refine m_fR (r := 17) (a := 18) (ad := 1500) (pc' := 117) rfl rfl cd_Mo_write rfl rfl rfl rfl rfl ?_
        refine m_ild (pc' := 119) cd_Mo_write rfl (Or.inl ⟨rfl, rfl⟩) l6 rfl ?_
        refine m_ild (pc' := 121) cd_Mo_write rfl (Or.inl ⟨rfl, rfl⟩) l8 rfl ?_
        refine m_pure (pc' := 122) (st' := [.int ((nI (1200 * (2 * p + (1 - o)))) + (nI k)), .ref 1500]) cd_Mo_write rfl rfl (fun _ _ => rfl) ?_
        refine m_eq (show ((nI (1200 * (2 * p + (1 - o)))) + (nI k) : Int32) = nI ((1200 * (2 * p + (1 - o))) + k) from nI_add (1200 * (2 * p + (1 - o))) k) ?_
        refine m_ald (pc' := 123) cd_Mo_write rfl (Or.inr ⟨_, rfl, rfl, rfl⟩) l0 rfl rfl ?_
        refine m_fR (r := 26) (a := 27) (ad := 1509) (pc' := 126) rfl rfl cd_Mo_write rfl rfl rfl rfl rfl ?_
        refine m_ild (pc' := 128) cd_Mo_write rfl (Or.inl ⟨rfl, rfl⟩) l8 rfl ?_
        refine m_aI (r := 26) (a := 27) (g := (A 27)) (x := (A0 27 k)) (pc' := 129) rfl rfl cd_Mo_write rfl rfl rfl (vp_in_nI (by omega) (by decide)) ((congrArg (A 27) (nI_clamp (by omega))).trans (congrFun (eA 27 (by decide) (by decide)) k)) ?_
        refine m_aS (r := 17) (a := 18) (g := (A 18)) (p := ((1200 * (2 * p + (1 - o))) + k)) (pc' := 130) rfl rfl cd_Mo_write rfl rfl rfl (vp_in_nI (by omega) (by decide)) (nI_clamp (by omega)) ?_
        refine m_inc (y := nI (k + 1)) (pc' := 133) cd_Mo_write rfl l8 (by decide) (nI_add k 1) rfl (fun lv el => ?_)
        have l0 := tm_lk el l0 rfl (by decide)
        have l1 := tm_lk el l1 rfl (by decide)
        have l2 := tm_lk el l2 rfl (by decide)
        have l3 := tm_lk el l3 rfl (by decide)
        have l4 := tm_lk el l4 rfl (by decide)
        have l5 := tm_lk el l5 rfl (by decide)
        have l6 := tm_lk el l6 rfl (by decide)
        have l7 := tm_lk el l7 rfl (by decide)
        have l8 : lv.lookup 8 = some (.int (nI (k + 1))) := tm_lks el
        clear el
        refine m_pure (pc' := 89) (st' := []) cd_Mo_write rfl rfl (fun _ _ => rfl) ?_
        refine ih (k + 1) _ (by omega) (show fset A 18 _ 19 = _ from e19) (show fset A 18 _ 18 = _ from ?_) (fun j h1 h2 => (fset_ne h1).trans (eA j h1 h2)) lv l0 l1 l2 l3 l4 l5 l6 l7 l8
        show upd (A 18) (1200 * (2 * p + (1 - o)) + k) (A0 27 k) = _
        rw [e18, stW_s]
set_option maxRecDepth 100000 in
theorem l_wrO {sc : tm_X} {d : Nat} {f : Nat → Int32} {A0 : Nat → Nat → Int32} {p o N m n0 : Nat} {Q : Option Value → MS → Prop} (hp : p < 6) (ho : o < 2) (hN : N ≤ 536) (hm : m ≤ 1000) (hn0 : n0 ≤ 536) (h38 : f 38 = nI N) (kk : ∀ A (lv : tm_L), A 19 = thW (A0 19) (2 * p + (1 - o)) (min (bk N) m) 1 → A 18 = stW (A0 18) (A0 27) (2 * p + (1 - o)) (min (16 * min (bk N) m) (2 * N)) → (∀ j, j ≠ 18 → j ≠ 19 → A j = A0 j) →  lv.lookup 0 = some (.ref 1482) → lv.lookup 1 = some (.int (nI p)) → lv.lookup 2 = some (.int (nI m)) → lv.lookup 3 = some (.int (nI o)) → lv.lookup 4 = some (.int (nI (1 - o))) → lv.lookup 5 = some (.int (nI (bk N))) → lv.lookup 6 = some (.int (nI (1200 * (2 * p + (1 - o))))) →  mg sc (d + 1) 205 142 lv [] (f, A) Q) : ∀ (r b : Nat) (A : Nat → Nat → Int32), b + r = min (bk N) m → A 19 = thW (A0 19) (2 * p + (1 - o)) b 1 → A 18 = stW (A0 18) (A0 27) (2 * p + (1 - o)) (min (16 * b) (2 * N)) → (∀ j, j ≠ 18 → j ≠ 19 → A j = A0 j) →  ∀ lv : tm_L, lv.lookup 0 = some (.ref 1482) → lv.lookup 1 = some (.int (nI p)) → lv.lookup 2 = some (.int (nI m)) → lv.lookup 3 = some (.int (nI o)) → lv.lookup 4 = some (.int (nI (1 - o))) → lv.lookup 5 = some (.int (nI (bk N))) → lv.lookup 6 = some (.int (nI (1200 * (2 * p + (1 - o))))) →  lv.lookup 7 = some (.int (nI b)) → mg sc (d + 1) 205 51 lv [] (f, A) Q := by
  have hbk : bk N ≤ 67 := by unfold bk; omega
  intro r
  induction r with
  | zero =>
    intro b A hb e19 e18 eA lv l0 l1 l2 l3 l4 l5 l6 l7
    have hb2 : b = min (bk N) m := by omega
    refine m_ild (pc' := 53) cd_Mo_write rfl (Or.inl ⟨rfl, rfl⟩) l7 rfl ?_
    refine m_ild (pc' := 55) cd_Mo_write rfl (Or.inl ⟨rfl, rfl⟩) l5 rfl ?_
    refine m_if2 (t := 142) (pc' := 58) cd_Mo_write rfl rfl rfl (fun c55 => ?_) (fun c55 => ?_)
    · have c55 : (nI (bk N)) ≤ (nI b) := c55
      rw [hb2] at e19 e18
      exact kk A lv e19 e18 eA l0 l1 l2 l3 l4 l5 l6
    · have c55 : ¬ (nI (bk N)) ≤ (nI b) := c55
      refine m_ild (pc' := 60) cd_Mo_write rfl (Or.inl ⟨rfl, rfl⟩) l7 rfl ?_
      refine m_ild (pc' := 61) cd_Mo_write rfl (Or.inr ⟨_, rfl, rfl, rfl⟩) l2 rfl ?_
      refine m_if2 (t := 142) (pc' := 64) cd_Mo_write rfl rfl rfl (fun c61 => ?_) (fun c61 => ?_)
      · have c61 : (nI m) ≤ (nI b) := c61
        rw [hb2] at e19 e18
        exact kk A lv e19 e18 eA l0 l1 l2 l3 l4 l5 l6
      · have c61 : ¬ (nI m) ≤ (nI b) := c61
        exact absurd (show False from by rw [nI_leI (by omega) (by omega)] at c55 c61; omega) id
  | succ r ih =>
    intro b A hb e19 e18 eA lv l0 l1 l2 l3 l4 l5 l6 l7
    have h16 : 16 * b < 2 * N := (by have hq : b < bk N := (by omega); unfold bk at hq; omega)
    refine m_ild (pc' := 53) cd_Mo_write rfl (Or.inl ⟨rfl, rfl⟩) l7 rfl ?_
    refine m_ild (pc' := 55) cd_Mo_write rfl (Or.inl ⟨rfl, rfl⟩) l5 rfl ?_
    refine m_if2 (t := 142) (pc' := 58) cd_Mo_write rfl rfl rfl (fun c55 => ?_) (fun c55 => ?_)
    · have c55 : (nI (bk N)) ≤ (nI b) := c55
      exact absurd c55 (nI_ge (by omega) (by omega))
    · have c55 : ¬ (nI (bk N)) ≤ (nI b) := c55
      refine m_ild (pc' := 60) cd_Mo_write rfl (Or.inl ⟨rfl, rfl⟩) l7 rfl ?_
      refine m_ild (pc' := 61) cd_Mo_write rfl (Or.inr ⟨_, rfl, rfl, rfl⟩) l2 rfl ?_
      refine m_if2 (t := 142) (pc' := 64) cd_Mo_write rfl rfl rfl (fun c61 => ?_) (fun c61 => ?_)
      · have c61 : (nI m) ≤ (nI b) := c61
        exact absurd c61 (nI_ge (by omega) (by omega))
      · have c61 : ¬ (nI m) ≤ (nI b) := c61
        refine m_ald (pc' := 65) cd_Mo_write rfl (Or.inr ⟨_, rfl, rfl, rfl⟩) l0 rfl rfl ?_
        refine m_fR (r := 18) (a := 19) (ad := 1501) (pc' := 68) rfl rfl cd_Mo_write rfl rfl rfl rfl rfl ?_
        refine m_k2 (v := 75) (pc' := 70) cd_Mo_write rfl (by decide) rfl ?_
        refine m_k1 (v := 2) (pc' := 71) cd_Mo_write rfl (by decide) rfl ?_
        refine m_ild (pc' := 72) cd_Mo_write rfl (Or.inr ⟨_, rfl, rfl, rfl⟩) l1 rfl ?_
        refine m_pure (pc' := 73) (st' := [.int ((2 : Int32) * (nI p)), .int 75, .ref 1501]) cd_Mo_write rfl rfl (fun _ _ => rfl) ?_
        refine m_eq (show ((2 : Int32) * (nI p) : Int32) = nI (2 * p) from pk_mul 2 p) ?_
        refine m_ild (pc' := 75) cd_Mo_write rfl (Or.inl ⟨rfl, rfl⟩) l4 rfl ?_
        refine m_pure (pc' := 76) (st' := [.int ((nI (2 * p)) + (nI (1 - o))), .int 75, .ref 1501]) cd_Mo_write rfl rfl (fun _ _ => rfl) ?_
        refine m_eq (show ((nI (2 * p)) + (nI (1 - o)) : Int32) = nI ((2 * p) + (1 - o)) from nI_add (2 * p) (1 - o)) ?_
        refine m_pure (pc' := 77) (st' := [.int ((75 : Int32) * (nI ((2 * p) + (1 - o)))), .ref 1501]) cd_Mo_write rfl rfl (fun _ _ => rfl) ?_
        refine m_eq (show ((75 : Int32) * (nI ((2 * p) + (1 - o))) : Int32) = nI (75 * ((2 * p) + (1 - o))) from pk_mul 75 ((2 * p) + (1 - o))) ?_
        refine m_ild (pc' := 79) cd_Mo_write rfl (Or.inl ⟨rfl, rfl⟩) l7 rfl ?_
        refine m_pure (pc' := 80) (st' := [.int ((nI (75 * ((2 * p) + (1 - o)))) + (nI b)), .ref 1501]) cd_Mo_write rfl rfl (fun _ _ => rfl) ?_
        refine m_eq (show ((nI (75 * ((2 * p) + (1 - o)))) + (nI b) : Int32) = nI ((75 * ((2 * p) + (1 - o))) + b) from nI_add (75 * ((2 * p) + (1 - o))) b) ?_
        refine m_k1 (v := 1) (pc' := 81) cd_Mo_write rfl (by decide) rfl ?_
        refine m_bS (r := 18) (a := 19) (g := (A 19)) (p := ((75 * ((2 * p) + (1 - o))) + b)) (pc' := 82) rfl rfl cd_Mo_write rfl rfl rfl (vp_in_nI (by omega) (by decide)) (nI_clamp (by omega)) (by decide) ?_
        refine m_k2 (v := 16) (pc' := 84) cd_Mo_write rfl (by decide) rfl ?_
        refine m_ild (pc' := 86) cd_Mo_write rfl (Or.inl ⟨rfl, rfl⟩) l7 rfl ?_
        refine m_pure (pc' := 87) (st' := [.int ((16 : Int32) * (nI b))]) cd_Mo_write rfl rfl (fun _ _ => rfl) ?_
        refine m_eq (show ((16 : Int32) * (nI b) : Int32) = nI (16 * b) from pk_mul 16 b) ?_
        refine m_ist (pc' := 89) cd_Mo_write rfl (Or.inl ⟨rfl, rfl⟩) (by decide) rfl (fun lv el => ?_)
        have l0 := tm_lk el l0 rfl (by decide)
        have l1 := tm_lk el l1 rfl (by decide)
        have l2 := tm_lk el l2 rfl (by decide)
        have l3 := tm_lk el l3 rfl (by decide)
        have l4 := tm_lk el l4 rfl (by decide)
        have l5 := tm_lk el l5 rfl (by decide)
        have l6 := tm_lk el l6 rfl (by decide)
        have l7 := tm_lk el l7 rfl (by decide)
        have l8 : lv.lookup 8 = some (.int (nI (16 * b))) := tm_lks el
        clear el
        refine l_wrI (A0 := A0) (n0 := n0) (b := b) hp ho hN hm hn0 h38 (by omega) (fun A lv e19 e18 eA l0 l1 l2 l3 l4 l5 l6 l7 => ?_) (min (16 * b + 16) (2 * N) - 16 * b) (16 * b) _ (by omega) ?_ (show fset A 19 _ 18 = _ from by rw [show min (16 * b) (2 * N) = 16 * b by omega] at e18; exact e18) (fun j h1 h2 => (fset_ne h2).trans (eA j h1 h2)) lv l0 l1 l2 l3 l4 l5 l6 l7 l8
        · skip
          refine m_inc (y := nI (b + 1)) (pc' := 139) cd_Mo_write rfl l7 (by decide) (nI_add b 1) rfl (fun lv el => ?_)
          have l0 := tm_lk el l0 rfl (by decide)
          have l1 := tm_lk el l1 rfl (by decide)
          have l2 := tm_lk el l2 rfl (by decide)
          have l3 := tm_lk el l3 rfl (by decide)
          have l4 := tm_lk el l4 rfl (by decide)
          have l5 := tm_lk el l5 rfl (by decide)
          have l6 := tm_lk el l6 rfl (by decide)
          have l7 : lv.lookup 7 = some (.int (nI (b + 1))) := tm_lks el
          clear el
          refine m_pure (pc' := 51) (st' := []) cd_Mo_write rfl rfl (fun _ _ => rfl) ?_
          exact ih (b + 1) A (by omega) e19 (by rw [show 16 * (b + 1) = 16 * b + 16 by omega]; exact e18) eA lv l0 l1 l2 l3 l4 l5 l6 l7
        · show upd (A 19) (75 * (2 * p + (1 - o)) + b) 1 = _
          rw [e19, thW_s]
set_option maxRecDepth 100000 in
theorem l_wrE {sc : tm_X} {d : Nat} {f : Nat → Int32} {A0 : Nat → Nat → Int32} {p o N m n0 : Nat} {Q : Int32 → MS → Prop} (hp : p < 6) (ho : o < 2) (hN : N ≤ 536) (hm : m ≤ 1000) (hn0 : n0 ≤ 536) (h38 : f 38 = nI N) (h20 : A0 20 (2 * p + o) = nI n0) (hmb : bk N < m) (kk : ∀ A, A 19 = thW (A0 19) (2 * p + o) (min (bk n0) (m - bk N - 1)) 0 → (∀ j, j ≠ 19 → A j = A0 j) → Q 1 (f, A)) : ∀ (r b : Nat) (A : Nat → Nat → Int32), b + r = (min (bk n0) (m - bk N - 1)) → A 19 = thW (A0 19) (2 * p + o) b 0 → (∀ j, j ≠ 19 → A j = A0 j) → ∀ lv : tm_L, lv.lookup 0 = some (.ref 1482) → lv.lookup 1 = some (.int (nI p)) → lv.lookup 2 = some (.int (nI m)) → lv.lookup 3 = some (.int (nI o)) → lv.lookup 4 = some (.int (nI (1 - o))) → lv.lookup 5 = some (.int (nI (bk N))) → lv.lookup 6 = some (.int (nI (1200 * (2 * p + (1 - o))))) →  lv.lookup 7 = some (.int (nI b)) → mg sc (d + 1) 205 161 lv [] (f, A) (fun r s' => ∃ x, r = some (.int x) ∧ Q x s') := by
  have hbk : bk N ≤ 67 := by unfold bk; omega
  have hbk0 : bk n0 ≤ 67 := by unfold bk; omega
  intro r
  induction r with
  | zero =>
    intro b A hb e19 eA lv l0 l1 l2 l3 l4 l5 l6 l7
    have hb2 : b = (min (bk n0) (m - bk N - 1)) := by omega
    refine m_ild (pc' := 163) cd_Mo_write rfl (Or.inl ⟨rfl, rfl⟩) l7 rfl ?_
    refine m_ald (pc' := 164) cd_Mo_write rfl (Or.inr ⟨_, rfl, rfl, rfl⟩) l0 rfl rfl ?_
    refine m_fR (r := 19) (a := 20) (ad := 1502) (pc' := 167) rfl rfl cd_Mo_write rfl rfl rfl rfl rfl ?_
    refine m_k1 (v := 2) (pc' := 168) cd_Mo_write rfl (by decide) rfl ?_
    refine m_ild (pc' := 169) cd_Mo_write rfl (Or.inr ⟨_, rfl, rfl, rfl⟩) l1 rfl ?_
    refine m_pure (pc' := 170) (st' := [.int ((2 : Int32) * (nI p)), .ref 1502, .int (nI b)]) cd_Mo_write rfl rfl (fun _ _ => rfl) ?_
    refine m_eq (show ((2 : Int32) * (nI p) : Int32) = nI (2 * p) from pk_mul 2 p) ?_
    refine m_ild (pc' := 171) cd_Mo_write rfl (Or.inr ⟨_, rfl, rfl, rfl⟩) l3 rfl ?_
    refine m_pure (pc' := 172) (st' := [.int ((nI (2 * p)) + (nI o)), .ref 1502, .int (nI b)]) cd_Mo_write rfl rfl (fun _ _ => rfl) ?_
    refine m_eq (show ((nI (2 * p)) + (nI o) : Int32) = nI ((2 * p) + o) from nI_add (2 * p) o) ?_
    refine m_aI (r := 19) (a := 20) (g := (A 20)) (x := (nI n0)) (pc' := 173) rfl rfl cd_Mo_write rfl rfl rfl (vp_in_nI (by omega) (by decide)) ((congrArg (A 20) (nI_clamp (by omega))).trans ((congrFun (eA 20 (by decide)) (2 * p + o)).trans h20)) ?_
    refine m_si (pc' := 176) cd_Mo_write rfl rfl rfl rfl rfl cd_Mo_blocksOf rfl (Nat.le_of_ble_eq_true rfl) (m_blocksOf (by omega) ?_)
    show mg _ _ _ 176 _ [.int (nI (bk n0)), .int (nI b)] _ _
    refine m_if2 (t := 213) (pc' := 179) cd_Mo_write rfl rfl rfl (fun c176 => ?_) (fun c176 => ?_)
    · have c176 : (nI (bk n0)) ≤ (nI b) := c176
      refine m_k1 (v := 1) (pc' := 214) cd_Mo_write rfl (by decide) rfl ?_
      exact m_retz cd_Mo_write rfl (Or.inr rfl) ⟨_, rfl, (kk A (by rw [hb2] at e19; exact e19) eA)⟩
    · have c176 : ¬ (nI (bk n0)) ≤ (nI b) := c176
      refine m_ild (pc' := 181) cd_Mo_write rfl (Or.inl ⟨rfl, rfl⟩) l7 rfl ?_
      refine m_ild (pc' := 182) cd_Mo_write rfl (Or.inr ⟨_, rfl, rfl, rfl⟩) l2 rfl ?_
      refine m_ild (pc' := 184) cd_Mo_write rfl (Or.inl ⟨rfl, rfl⟩) l5 rfl ?_
      refine m_pure (pc' := 185) (st' := [.int ((nI m) - (nI (bk N))), .int (nI b)]) cd_Mo_write rfl rfl (fun _ _ => rfl) ?_
      refine m_eq (show ((nI m) - (nI (bk N)) : Int32) = nI (m - (bk N)) from pk_sub (a := m) (b := (bk N)) (by omega)) ?_
      refine m_k1 (v := 1) (pc' := 186) cd_Mo_write rfl (by decide) rfl ?_
      refine m_pure (pc' := 187) (st' := [.int ((nI (m - (bk N))) - 1), .int (nI b)]) cd_Mo_write rfl rfl (fun _ _ => rfl) ?_
      refine m_eq (show ((nI (m - (bk N))) - 1 : Int32) = nI ((m - (bk N)) - 1) from pk_sub (a := (m - (bk N))) (b := 1) (by omega)) ?_
      refine m_if2 (t := 213) (pc' := 190) cd_Mo_write rfl rfl rfl (fun c187 => ?_) (fun c187 => ?_)
      · have c187 : (nI ((m - (bk N)) - 1)) ≤ (nI b) := c187
        refine m_k1 (v := 1) (pc' := 214) cd_Mo_write rfl (by decide) rfl ?_
        exact m_retz cd_Mo_write rfl (Or.inr rfl) ⟨_, rfl, (kk A (by rw [hb2] at e19; exact e19) eA)⟩
      · have c187 : ¬ (nI ((m - (bk N)) - 1)) ≤ (nI b) := c187
        exact absurd (show False from by rw [nI_leI (by omega) (by omega)] at c176 c187; omega) id
  | succ r ih =>
    intro b A hb e19 eA lv l0 l1 l2 l3 l4 l5 l6 l7
    refine m_ild (pc' := 163) cd_Mo_write rfl (Or.inl ⟨rfl, rfl⟩) l7 rfl ?_
    refine m_ald (pc' := 164) cd_Mo_write rfl (Or.inr ⟨_, rfl, rfl, rfl⟩) l0 rfl rfl ?_
    refine m_fR (r := 19) (a := 20) (ad := 1502) (pc' := 167) rfl rfl cd_Mo_write rfl rfl rfl rfl rfl ?_
    refine m_k1 (v := 2) (pc' := 168) cd_Mo_write rfl (by decide) rfl ?_
    refine m_ild (pc' := 169) cd_Mo_write rfl (Or.inr ⟨_, rfl, rfl, rfl⟩) l1 rfl ?_
    refine m_pure (pc' := 170) (st' := [.int ((2 : Int32) * (nI p)), .ref 1502, .int (nI b)]) cd_Mo_write rfl rfl (fun _ _ => rfl) ?_
    refine m_eq (show ((2 : Int32) * (nI p) : Int32) = nI (2 * p) from pk_mul 2 p) ?_
    refine m_ild (pc' := 171) cd_Mo_write rfl (Or.inr ⟨_, rfl, rfl, rfl⟩) l3 rfl ?_
    refine m_pure (pc' := 172) (st' := [.int ((nI (2 * p)) + (nI o)), .ref 1502, .int (nI b)]) cd_Mo_write rfl rfl (fun _ _ => rfl) ?_
    refine m_eq (show ((nI (2 * p)) + (nI o) : Int32) = nI ((2 * p) + o) from nI_add (2 * p) o) ?_
    refine m_aI (r := 19) (a := 20) (g := (A 20)) (x := (nI n0)) (pc' := 173) rfl rfl cd_Mo_write rfl rfl rfl (vp_in_nI (by omega) (by decide)) ((congrArg (A 20) (nI_clamp (by omega))).trans ((congrFun (eA 20 (by decide)) (2 * p + o)).trans h20)) ?_
    refine m_si (pc' := 176) cd_Mo_write rfl rfl rfl rfl rfl cd_Mo_blocksOf rfl (Nat.le_of_ble_eq_true rfl) (m_blocksOf (by omega) ?_)
    show mg _ _ _ 176 _ [.int (nI (bk n0)), .int (nI b)] _ _
    refine m_if2 (t := 213) (pc' := 179) cd_Mo_write rfl rfl rfl (fun c176 => ?_) (fun c176 => ?_)
    · have c176 : (nI (bk n0)) ≤ (nI b) := c176
      exact absurd c176 (nI_ge (by omega) (by omega))
    · have c176 : ¬ (nI (bk n0)) ≤ (nI b) := c176
      refine m_ild (pc' := 181) cd_Mo_write rfl (Or.inl ⟨rfl, rfl⟩) l7 rfl ?_
      refine m_ild (pc' := 182) cd_Mo_write rfl (Or.inr ⟨_, rfl, rfl, rfl⟩) l2 rfl ?_
      refine m_ild (pc' := 184) cd_Mo_write rfl (Or.inl ⟨rfl, rfl⟩) l5 rfl ?_
      refine m_pure (pc' := 185) (st' := [.int ((nI m) - (nI (bk N))), .int (nI b)]) cd_Mo_write rfl rfl (fun _ _ => rfl) ?_
      refine m_eq (show ((nI m) - (nI (bk N)) : Int32) = nI (m - (bk N)) from pk_sub (a := m) (b := (bk N)) (by omega)) ?_
      refine m_k1 (v := 1) (pc' := 186) cd_Mo_write rfl (by decide) rfl ?_
      refine m_pure (pc' := 187) (st' := [.int ((nI (m - (bk N))) - 1), .int (nI b)]) cd_Mo_write rfl rfl (fun _ _ => rfl) ?_
      refine m_eq (show ((nI (m - (bk N))) - 1 : Int32) = nI ((m - (bk N)) - 1) from pk_sub (a := (m - (bk N))) (b := 1) (by omega)) ?_
      refine m_if2 (t := 213) (pc' := 190) cd_Mo_write rfl rfl rfl (fun c187 => ?_) (fun c187 => ?_)
      · have c187 : (nI ((m - (bk N)) - 1)) ≤ (nI b) := c187
        exact absurd c187 (nI_ge (by omega) (by omega))
      · have c187 : ¬ (nI ((m - (bk N)) - 1)) ≤ (nI b) := c187
        refine m_ald (pc' := 191) cd_Mo_write rfl (Or.inr ⟨_, rfl, rfl, rfl⟩) l0 rfl rfl ?_
        refine m_fR (r := 18) (a := 19) (ad := 1501) (pc' := 194) rfl rfl cd_Mo_write rfl rfl rfl rfl rfl ?_
        refine m_k2 (v := 75) (pc' := 196) cd_Mo_write rfl (by decide) rfl ?_
        refine m_k1 (v := 2) (pc' := 197) cd_Mo_write rfl (by decide) rfl ?_
        refine m_ild (pc' := 198) cd_Mo_write rfl (Or.inr ⟨_, rfl, rfl, rfl⟩) l1 rfl ?_
        refine m_pure (pc' := 199) (st' := [.int ((2 : Int32) * (nI p)), .int 75, .ref 1501]) cd_Mo_write rfl rfl (fun _ _ => rfl) ?_
        refine m_eq (show ((2 : Int32) * (nI p) : Int32) = nI (2 * p) from pk_mul 2 p) ?_
        refine m_ild (pc' := 200) cd_Mo_write rfl (Or.inr ⟨_, rfl, rfl, rfl⟩) l3 rfl ?_
        refine m_pure (pc' := 201) (st' := [.int ((nI (2 * p)) + (nI o)), .int 75, .ref 1501]) cd_Mo_write rfl rfl (fun _ _ => rfl) ?_
        refine m_eq (show ((nI (2 * p)) + (nI o) : Int32) = nI ((2 * p) + o) from nI_add (2 * p) o) ?_
        refine m_pure (pc' := 202) (st' := [.int ((75 : Int32) * (nI ((2 * p) + o))), .ref 1501]) cd_Mo_write rfl rfl (fun _ _ => rfl) ?_
        refine m_eq (show ((75 : Int32) * (nI ((2 * p) + o)) : Int32) = nI (75 * ((2 * p) + o)) from pk_mul 75 ((2 * p) + o)) ?_
        refine m_ild (pc' := 204) cd_Mo_write rfl (Or.inl ⟨rfl, rfl⟩) l7 rfl ?_
        refine m_pure (pc' := 205) (st' := [.int ((nI (75 * ((2 * p) + o))) + (nI b)), .ref 1501]) cd_Mo_write rfl rfl (fun _ _ => rfl) ?_
        refine m_eq (show ((nI (75 * ((2 * p) + o))) + (nI b) : Int32) = nI ((75 * ((2 * p) + o)) + b) from nI_add (75 * ((2 * p) + o)) b) ?_
        refine m_k1 (v := 0) (pc' := 206) cd_Mo_write rfl (by decide) rfl ?_
        refine m_bS (r := 18) (a := 19) (g := (A 19)) (p := ((75 * ((2 * p) + o)) + b)) (pc' := 207) rfl rfl cd_Mo_write rfl rfl rfl (vp_in_nI (by omega) (by decide)) (nI_clamp (by omega)) (by decide) ?_
        refine m_inc (y := nI (b + 1)) (pc' := 210) cd_Mo_write rfl l7 (by decide) (nI_add b 1) rfl (fun lv el => ?_)
        have l0 := tm_lk el l0 rfl (by decide)
        have l1 := tm_lk el l1 rfl (by decide)
        have l2 := tm_lk el l2 rfl (by decide)
        have l3 := tm_lk el l3 rfl (by decide)
        have l4 := tm_lk el l4 rfl (by decide)
        have l5 := tm_lk el l5 rfl (by decide)
        have l6 := tm_lk el l6 rfl (by decide)
        have l7 : lv.lookup 7 = some (.int (nI (b + 1))) := tm_lks el
        clear el
        refine m_pure (pc' := 161) (st' := []) cd_Mo_write rfl rfl (fun _ _ => rfl) ?_
        refine ih (b + 1) _ (by omega) ?_ (fun j h1 => (fset_ne h1).trans (eA j h1)) lv l0 l1 l2 l3 l4 l5 l6 l7
        show upd (A 19) (75 * (2 * p + o) + b) 0 = _
        rw [e19, thW_s]
set_option maxRecDepth 100000 in
theorem m_write {sc : tm_X} {d : Nat} {f : Nat → Int32} {A : Nat → Nat → Int32} {p o N m n0 : Nat} {Q : Int32 → MS → Prop} (hp : p < 6) (ho : o < 2) (hN : N ≤ 536) (hm : m ≤ 1000) (hn0 : n0 ≤ 536) (h38 : f 38 = nI N) (h21 : A 21 p = nI o) (h20 : A 20 (2 * p + o) = nI n0) (k0 : m ≤ bk N → ∀ A1, A1 18 = stW (A 18) (A 27) (2 * p + (1 - o)) (min (16 * m) (2 * N)) → A1 19 = thW (A 19) (2 * p + (1 - o)) m 1 → A1 20 = upd (A 20) (2 * p + (1 - o)) (nI N) → (∀ j, j ≠ 18 → j ≠ 19 → j ≠ 20 → A1 j = A j) → Q 0 (f, mjW A1 A)) (k1 : bk N < m → ∀ A1, A1 18 = stW (A 18) (A 27) (2 * p + (1 - o)) (2 * N) → A1 19 = thW (thW (A 19) (2 * p + (1 - o)) (bk N) 1) (2 * p + o) (min (bk n0) (m - bk N - 1)) 0 → A1 20 = upd (A 20) (2 * p + (1 - o)) (nI N) → A1 21 = upd (A 21) p (nI (1 - o)) → (∀ j, j ≠ 18 → j ≠ 19 → j ≠ 20 → j ≠ 21 → A1 j = A j) → Q 1 (f, mjW A1 A)) : mGi sc (d + 1) 205 [.ref 1482, .int (nI p), .int (nI m)] (f, A) Q := by
  have hbk : bk N ≤ 67 := by unfold bk; omega
  show mg sc (d + 1) 205 0 [(0, .ref 1482), (1, .int (nI p)), (2, .int (nI m))] [] (f, A) _
  generalize elv : ([(0, .ref 1482), (1, .int (nI p)), (2, .int (nI m))] : tm_L) = lv
  have l0 : lv.lookup 0 = some (.ref 1482) := by rw [← elv]; rfl
  have l1 : lv.lookup 1 = some (.int (nI p)) := by rw [← elv]; rfl
  have l2 : lv.lookup 2 = some (.int (nI m)) := by rw [← elv]; rfl
  clear elv
  refine m_ald (pc' := 1) cd_Mo_write rfl (Or.inr ⟨_, rfl, rfl, rfl⟩) l0 rfl rfl ?_
  refine m_fR (r := 20) (a := 21) (ad := 1503) (pc' := 4) rfl rfl cd_Mo_write rfl rfl rfl rfl rfl ?_
  refine m_ild (pc' := 5) cd_Mo_write rfl (Or.inr ⟨_, rfl, rfl, rfl⟩) l1 rfl ?_
  refine m_aI (r := 20) (a := 21) (g := (A 21)) (x := (nI o)) (pc' := 6) rfl rfl cd_Mo_write rfl rfl rfl (vp_in_nI (by omega) (by decide)) ((congrArg (A 21) (nI_clamp (by omega))).trans h21) ?_
  refine m_ist (pc' := 7) cd_Mo_write rfl (Or.inr ⟨_, rfl, rfl, rfl⟩) (by decide) rfl (fun lv el => ?_)
  have l0 := tm_lk el l0 rfl (by decide)
  have l1 := tm_lk el l1 rfl (by decide)
  have l2 := tm_lk el l2 rfl (by decide)
  have l3 : lv.lookup 3 = some (.int ((nI o))) := tm_lks el
  clear el
  refine m_k1 (v := 1) (pc' := 8) cd_Mo_write rfl (by decide) rfl ?_
  refine m_ild (pc' := 9) cd_Mo_write rfl (Or.inr ⟨_, rfl, rfl, rfl⟩) l3 rfl ?_
  refine m_pure (pc' := 10) (st' := [.int ((1 : Int32) - (nI o))]) cd_Mo_write rfl rfl (fun _ _ => rfl) ?_
  refine m_eq (show ((1 : Int32) - (nI o) : Int32) = nI (1 - o) from pk_sub (a := 1) (b := o) (by omega)) ?_
  refine m_ist (pc' := 12) cd_Mo_write rfl (Or.inl ⟨rfl, rfl⟩) (by decide) rfl (fun lv el => ?_)
  have l0 := tm_lk el l0 rfl (by decide)
  have l1 := tm_lk el l1 rfl (by decide)
  have l2 := tm_lk el l2 rfl (by decide)
  have l3 := tm_lk el l3 rfl (by decide)
  have l4 : lv.lookup 4 = some (.int (nI (1 - o))) := tm_lks el
  clear el
  refine m_ald (pc' := 13) cd_Mo_write rfl (Or.inr ⟨_, rfl, rfl, rfl⟩) l0 rfl rfl ?_
  refine m_fI (k := 38) (x := (nI N)) (pc' := 16) cd_Mo_write rfl rfl rfl rfl rfl h38 ?_
  refine m_si (pc' := 19) cd_Mo_write rfl rfl rfl rfl rfl cd_Mo_blocksOf rfl (Nat.le_of_ble_eq_true rfl) (m_blocksOf (by omega) ?_)
  show mg _ _ _ 19 _ [.int (nI (bk N))] _ _
  refine m_ist (pc' := 21) cd_Mo_write rfl (Or.inl ⟨rfl, rfl⟩) (by decide) rfl (fun lv el => ?_)
  have l0 := tm_lk el l0 rfl (by decide)
  have l1 := tm_lk el l1 rfl (by decide)
  have l2 := tm_lk el l2 rfl (by decide)
  have l3 := tm_lk el l3 rfl (by decide)
  have l4 := tm_lk el l4 rfl (by decide)
  have l5 : lv.lookup 5 = some (.int (nI (bk N))) := tm_lks el
  clear el
  refine m_k3 (v := 1200) (pc' := 24) cd_Mo_write rfl (by decide) rfl ?_
  refine m_k1 (v := 2) (pc' := 25) cd_Mo_write rfl (by decide) rfl ?_
  refine m_ild (pc' := 26) cd_Mo_write rfl (Or.inr ⟨_, rfl, rfl, rfl⟩) l1 rfl ?_
  refine m_pure (pc' := 27) (st' := [.int ((2 : Int32) * (nI p)), .int 1200]) cd_Mo_write rfl rfl (fun _ _ => rfl) ?_
  refine m_eq (show ((2 : Int32) * (nI p) : Int32) = nI (2 * p) from pk_mul 2 p) ?_
  refine m_ild (pc' := 29) cd_Mo_write rfl (Or.inl ⟨rfl, rfl⟩) l4 rfl ?_
  refine m_pure (pc' := 30) (st' := [.int ((nI (2 * p)) + (nI (1 - o))), .int 1200]) cd_Mo_write rfl rfl (fun _ _ => rfl) ?_
  refine m_eq (show ((nI (2 * p)) + (nI (1 - o)) : Int32) = nI ((2 * p) + (1 - o)) from nI_add (2 * p) (1 - o)) ?_
  refine m_pure (pc' := 31) (st' := [.int ((1200 : Int32) * (nI ((2 * p) + (1 - o))))]) cd_Mo_write rfl rfl (fun _ _ => rfl) ?_
  refine m_eq (show ((1200 : Int32) * (nI ((2 * p) + (1 - o))) : Int32) = nI (1200 * ((2 * p) + (1 - o))) from pk_mul 1200 ((2 * p) + (1 - o))) ?_
  refine m_ist (pc' := 33) cd_Mo_write rfl (Or.inl ⟨rfl, rfl⟩) (by decide) rfl (fun lv el => ?_)
  have l0 := tm_lk el l0 rfl (by decide)
  have l1 := tm_lk el l1 rfl (by decide)
  have l2 := tm_lk el l2 rfl (by decide)
  have l3 := tm_lk el l3 rfl (by decide)
  have l4 := tm_lk el l4 rfl (by decide)
  have l5 := tm_lk el l5 rfl (by decide)
  have l6 : lv.lookup 6 = some (.int (nI (1200 * ((2 * p) + (1 - o))))) := tm_lks el
  clear el
  refine m_ald (pc' := 34) cd_Mo_write rfl (Or.inr ⟨_, rfl, rfl, rfl⟩) l0 rfl rfl ?_
  refine m_fR (r := 19) (a := 20) (ad := 1502) (pc' := 37) rfl rfl cd_Mo_write rfl rfl rfl rfl rfl ?_
  refine m_k1 (v := 2) (pc' := 38) cd_Mo_write rfl (by decide) rfl ?_
  refine m_ild (pc' := 39) cd_Mo_write rfl (Or.inr ⟨_, rfl, rfl, rfl⟩) l1 rfl ?_
  refine m_pure (pc' := 40) (st' := [.int ((2 : Int32) * (nI p)), .ref 1502]) cd_Mo_write rfl rfl (fun _ _ => rfl) ?_
  refine m_eq (show ((2 : Int32) * (nI p) : Int32) = nI (2 * p) from pk_mul 2 p) ?_
  refine m_ild (pc' := 42) cd_Mo_write rfl (Or.inl ⟨rfl, rfl⟩) l4 rfl ?_
  refine m_pure (pc' := 43) (st' := [.int ((nI (2 * p)) + (nI (1 - o))), .ref 1502]) cd_Mo_write rfl rfl (fun _ _ => rfl) ?_
  refine m_eq (show ((nI (2 * p)) + (nI (1 - o)) : Int32) = nI ((2 * p) + (1 - o)) from nI_add (2 * p) (1 - o)) ?_
  refine m_ald (pc' := 44) cd_Mo_write rfl (Or.inr ⟨_, rfl, rfl, rfl⟩) l0 rfl rfl ?_
  refine m_fI (k := 38) (x := (nI N)) (pc' := 47) cd_Mo_write rfl rfl rfl rfl rfl h38 ?_
  refine m_aS (r := 19) (a := 20) (g := (A 20)) (p := ((2 * p) + (1 - o))) (pc' := 48) rfl rfl cd_Mo_write rfl rfl rfl (vp_in_nI (by omega) (by decide)) (nI_clamp (by omega)) ?_
  refine m_k1 (v := 0) (pc' := 49) cd_Mo_write rfl (by decide) rfl ?_
  refine m_ist (pc' := 51) cd_Mo_write rfl (Or.inl ⟨rfl, rfl⟩) (by decide) rfl (fun lv el => ?_)
  have l0 := tm_lk el l0 rfl (by decide)
  have l1 := tm_lk el l1 rfl (by decide)
  have l2 := tm_lk el l2 rfl (by decide)
  have l3 := tm_lk el l3 rfl (by decide)
  have l4 := tm_lk el l4 rfl (by decide)
  have l5 := tm_lk el l5 rfl (by decide)
  have l6 := tm_lk el l6 rfl (by decide)
  have l7 : lv.lookup 7 = some (.int 0) := tm_lks el
  clear el
  refine l_wrO (A0 := (fset A 20 (upd (A 20) (2 * p + (1 - o)) (nI N)))) (n0 := n0) hp ho hN hm hn0 h38 (fun A1 lv e19 e18 eA l0 l1 l2 l3 l4 l5 l6 => ?_) (min (bk N) m) 0 _ (by omega) (by rw [thW_0]) (by rw [show min (16 * 0) (2 * N) = 0 by omega, stW_0]) (fun _ _ _ => rfl) lv l0 l1 l2 l3 l4 l5 l6 l7
  have e18 : A1 18 = stW (A 18) (A 27) (2 * p + (1 - o)) (min (16 * min (bk N) m) (2 * N)) := e18
  have e19 : A1 19 = thW (A 19) (2 * p + (1 - o)) (min (bk N) m) 1 := e19
  have e20 : A1 20 = upd (A 20) (2 * p + (1 - o)) (nI N) := eA 20 (by decide) (by decide)
  have eA1 : ∀ j, j ≠ 18 → j ≠ 19 → j ≠ 20 → A1 j = A j := fun j h1 h2 h3 => (eA j h1 h2).trans (fset_ne h3)
  refine m_ild (pc' := 143) cd_Mo_write rfl (Or.inr ⟨_, rfl, rfl, rfl⟩) l2 rfl ?_
  refine m_ild (pc' := 145) cd_Mo_write rfl (Or.inl ⟨rfl, rfl⟩) l5 rfl ?_
  refine m_if2 (t := 150) (pc' := 148) cd_Mo_write rfl rfl rfl (fun c145 => ?_) (fun c145 => ?_)
  · have c145 : (nI (bk N)) < (nI m) := c145
    refine m_ald (pc' := 151) cd_Mo_write rfl (Or.inr ⟨_, rfl, rfl, rfl⟩) l0 rfl rfl ?_
    refine m_fR (r := 20) (a := 21) (ad := 1503) (pc' := 154) rfl rfl cd_Mo_write rfl rfl rfl rfl rfl ?_
    refine m_ild (pc' := 155) cd_Mo_write rfl (Or.inr ⟨_, rfl, rfl, rfl⟩) l1 rfl ?_
    refine m_ild (pc' := 157) cd_Mo_write rfl (Or.inl ⟨rfl, rfl⟩) l4 rfl ?_
    refine m_aS (r := 20) (a := 21) (g := (A1 21)) (p := p) (pc' := 158) rfl rfl cd_Mo_write rfl rfl rfl (vp_in_nI (by omega) (by decide)) (nI_clamp (by omega)) ?_
    refine m_k1 (v := 0) (pc' := 159) cd_Mo_write rfl (by decide) rfl ?_
    refine m_ist (pc' := 161) cd_Mo_write rfl (Or.inl ⟨rfl, rfl⟩) (by decide) rfl (fun lv el => ?_)
    have l0 := tm_lk el l0 rfl (by decide)
    have l1 := tm_lk el l1 rfl (by decide)
    have l2 := tm_lk el l2 rfl (by decide)
    have l3 := tm_lk el l3 rfl (by decide)
    have l4 := tm_lk el l4 rfl (by decide)
    have l5 := tm_lk el l5 rfl (by decide)
    have l6 := tm_lk el l6 rfl (by decide)
    have l7 : lv.lookup 7 = some (.int 0) := tm_lks el
    clear el
    have hmb : bk N < m := (nI_ltI (by omega) (by omega)).mp c145
    rw [show min (bk N) m = bk N by omega] at e18 e19
    have h16 : min (16 * bk N) (2 * N) = 2 * N := by unfold bk; omega
    rw [h16] at e18
    have e21 : A1 21 = A 21 := eA1 21 (by decide) (by decide) (by decide)
    refine l_wrE (A0 := (fset A1 21 (upd (A1 21) p (nI (1 - o))))) (n0 := n0) hp ho hN hm hn0 h38 ?_ hmb (fun A3 q19 qA => ?_) (min (bk n0) (m - bk N - 1)) 0 _ (by omega) (by rw [thW_0]) (fun _ _ => rfl) lv l0 l1 l2 l3 l4 l5 l6 l7
    · show A1 20 (2 * p + o) = nI n0
      rw [e20, upd_ne (by omega)]
      exact h20
    · have k2 := k1 hmb A3 ((qA 18 (by decide)).trans e18) (by rw [q19]; show thW (A1 19) _ _ 0 = _; rw [e19]) ((qA 20 (by decide)).trans e20) ((qA 21 (by decide)).trans (show upd (A1 21) p (nI (1 - o)) = _ by rw [e21])) (fun j h1 h2 h3 h4 => ((qA j h2).trans (fset_ne h4)).trans (eA1 j h1 h2 h3))
      rw [mjW_of (fun j q => ((qA j (by omega)).trans (fset_ne (by omega))).trans (eA1 j (by omega) (by omega) (by omega)))] at k2
      exact k2
  · have c145 : ¬ (nI (bk N)) < (nI m) := c145
    refine m_k1 (v := 0) (pc' := 149) cd_Mo_write rfl (by decide) rfl ?_
    have hmb : m ≤ bk N := by
      rcases Nat.lt_or_ge (bk N) m with q | q
      · exact absurd ((nI_ltI (by omega) (by omega)).mpr q) c145
      · exact q
    rw [show min (bk N) m = m by omega] at e18 e19
    have k2 := k0 hmb A1 e18 e19 e20 eA1
    rw [mjW_of (fun j q => eA1 j (by omega) (by omega) (by omega))] at k2
    exact m_retz cd_Mo_write rfl (Or.inl rfl) ⟨_, rfl, k2⟩
