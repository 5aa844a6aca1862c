/-! The reference: lying -/
def vis (lo hi : Nat) : Nat → EN2 → EN2
  | _, [] => []
  | i, e :: R => (if lo ≤ i / 8 ∧ i / 8 < hi then [e] else []) ++ vis lo hi (i + 1) R
theorem vis_eq (lo hi : Nat) : ∀ (R : EN2) (i : Nat), vis lo hi i R = (R.take (8 * hi - i)).drop (8 * lo - i)
  | [], i => by simp [vis]
  | e :: R, i => by
    show (if lo ≤ i / 8 ∧ i / 8 < hi then [e] else []) ++ vis lo hi (i + 1) R = _
    rw [vis_eq lo hi R (i + 1)]
    by_cases c : i < 8 * hi
    · rw [show 8 * hi - i = (8 * hi - (i + 1)) + 1 by omega, List.take_succ_cons]
      by_cases c2 : 8 * lo ≤ i
      · rw [if_pos ⟨by omega, by omega⟩, show 8 * lo - i = 0 by omega, show 8 * lo - (i + 1) = 0 by omega]
        rfl
      · rw [if_neg (by omega), show 8 * lo - i = (8 * lo - (i + 1)) + 1 by omega, List.drop_succ_cons]
        rfl
    · rw [if_neg (by omega), show 8 * hi - i = 0 by omega, show 8 * hi - (i + 1) = 0 by omega]
      simp
theorem nz_app (a b : List Tm) : nz (a ++ b) = nz a ++ nz b := List.filter_append ..
theorem fl_cons (e : Tm × Tm) (R : EN2) : fl (e :: R) = [e.1, e.2] ++ fl R := rfl
theorem fl_app (a b : EN2) : fl (a ++ b) = fl a ++ fl b := List.flatMap_append ..
theorem FLg_add {g : Nat → Int32} {T : List Tm} {W : List Tm} {x : Int32} {X : Tm} (h : FLg g T W 0) (hx : tv T x X) : FLg (upd g W.length x) T (W ++ [X]) 0 := by
  intro j Y hj
  by_cases c : j < W.length
  · rw [List.getElem?_append_left c] at hj
    rw [upd_ne (by omega)]
    exact h j Y hj
  · rw [List.getElem?_append_right (by omega)] at hj
    by_cases c2 : j - W.length = 0
    · rw [c2] at hj
      cases hj
      rw [show 0 + j = W.length by omega, upd_same]
      exact hx
    · rw [List.getElem?_eq_none (by simp; omega)] at hj
      cases hj
theorem len_s1 (W : List Tm) (X : Tm) : nI W.length + 1 = nI (W ++ [X]).length := by
  rw [List.length_append, List.length_singleton]
  exact nI_add _ 1
theorem vis_len (lo hi : Nat) (R : EN2) (i : Nat) : (vis lo hi i R).length ≤ R.length := by
  rw [vis_eq, List.length_drop, List.length_take]
  omega
theorem nzfl_len (R : EN2) : (nz (fl R)).length ≤ 2 * R.length := by
  have := nz_le (fl R)
  rw [fl_len] at this
  exact this
theorem gw_add {G : Tm → Prop} {W : List Tm} {X : Tm} (h : X ≠ tz) (y : Tm) : ((G y ∨ y ∈ W) ∨ (y = X ∧ X ≠ tz)) ↔ (G y ∨ y ∈ W ++ [X]) := by
  rw [List.mem_append, List.mem_singleton]
  exact ⟨fun q => q.elim (fun q => q.elim Or.inl (fun q => Or.inr (Or.inl q))) (fun q => Or.inr (Or.inr q.1)), fun q => q.elim (fun q => Or.inl (Or.inl q)) (fun q => q.elim (fun q => Or.inl (Or.inr q)) (fun q => Or.inr ⟨q, h⟩))⟩
theorem st_add {f0 v s : Int32} {G : Tm → Prop} {W : List Tm} {X : Tm} (hX : X ≠ tz) (h : s = 1 ∨ (s = f0 ∧ ∀ y, y ∈ W → G y)) (hv : v = 1 ∨ (v = s ∧ (X = tz ∨ (G X ∨ X ∈ W)))) : v = 1 ∨ (v = f0 ∧ ∀ y, y ∈ W ++ [X] → G y) := by
  rcases hv with hv | ⟨hv, h2⟩
  · exact Or.inl hv
  · rcases h with h | ⟨h, h3⟩
    · exact Or.inl (hv.trans h)
    · refine Or.inr ⟨hv.trans h, fun y hy => ?_⟩
      rw [List.mem_append, List.mem_singleton] at hy
      rcases hy with hy | hy
      · exact h3 y hy
      · rw [hy]
        exact h2.elim (fun q => absurd q hX) (fun q => q.elim (fun z => z) (h3 X))
set_option maxRecDepth 100000 in
theorem l_lyE0 {sc : tm_X} {d : Nat} {f0 : Nat → Int32} {A0 : Nat → Nat → Int32} {T : List Tm} {DL : List (Int32 × Int32)} {G Kw : Tm → Prop} {p h i : Nat} {x4 : Int32} {e : Tm × Tm} {Q : Option Value → MS → Prop} (h0 : MT f0 A0 T DL G Kw) (hp : p < 6) (hh : h < 2) (hi : i < 536) (t1 : tv T (A0 18 (1200 * (2 * p + h) + 2 * i)) e.1) (t2 : tv T (A0 18 (1200 * (2 * p + h) + 2 * i + 1)) e.2) {W : List Tm} (hW : W.length ≤ 2142) (kk : ∀ f A (lv : tm_L), f = f0 → A = A0 →  lv.lookup 0 = some (.ref 1482) → lv.lookup 1 = some (.int (nI p)) → lv.lookup 2 = some (.int 0) → lv.lookup 3 = some (.int (nI (W ++ nz [e.1, e.2]).length)) → lv.lookup 4 = some (.int x4) → lv.lookup 5 = some (.int (nI (2 * p + h))) → lv.lookup 6 = some (.int (nI i)) → mg sc (d + 1) 266 121 lv [] (f, A) Q) : ∀ f A (lv : tm_L), f = f0 → A = A0 →  lv.lookup 0 = some (.ref 1482) → lv.lookup 1 = some (.int (nI p)) → lv.lookup 2 = some (.int 0) → lv.lookup 3 = some (.int (nI W.length)) → lv.lookup 4 = some (.int x4) → lv.lookup 5 = some (.int (nI (2 * p + h))) → lv.lookup 6 = some (.int (nI i)) → mg sc (d + 1) 266 56 lv [] (f, A) Q := by
  intro f A lv ef eA l0 l1 l2 l3 l4 l5 l6
  subst ef
  subst eA
  refine m_k1 (v := 0) (pc' := 57) cd_Mo_lying rfl (by decide) rfl ?_
  refine m_ist (pc' := 59) cd_Mo_lying rfl (Or.inl ⟨rfl, rfl⟩) (by decide) rfl (fun lv el => ?_)
  have l0 := tm_lk el l0 rfl (by decide)
  have l1 := tm_lk el l1 rfl (by decide)
  have l2 := tm_lk el l2 rfl (by decide)
  have l3 := tm_lk el l3 rfl (by decide)
  have l4 := tm_lk el l4 rfl (by decide)
  have l5 := tm_lk el l5 rfl (by decide)
  have l6 := tm_lk el l6 rfl (by decide)
  have l7 : lv.lookup 7 = some (.int 0) := tm_lks el
  clear el
  refine m_ild (pc' := 61) cd_Mo_lying rfl (Or.inl ⟨rfl, rfl⟩) l7 rfl ?_
  refine m_k1 (v := 2) (pc' := 62) cd_Mo_lying rfl (by decide) rfl ?_
  refine m_if2 (t := 121) (pc' := 65) cd_Mo_lying rfl rfl rfl (fun c62 => ?_) (fun c62 => ?_)
  · exact absurd (show (2 : Int32) ≤ 0 from c62) (by decide)
  · have c62 : ¬ (2 : Int32) ≤ 0 := c62
    refine m_ald (pc' := 66) cd_Mo_lying rfl (Or.inr ⟨_, rfl, rfl, rfl⟩) l0 rfl rfl ?_
    refine m_fR (r := 17) (a := 18) (ad := 1500) (pc' := 69) rfl rfl cd_Mo_lying rfl rfl rfl rfl rfl ?_
    refine m_k3 (v := 1200) (pc' := 72) cd_Mo_lying rfl (by decide) rfl ?_
    refine m_ild (pc' := 74) cd_Mo_lying rfl (Or.inl ⟨rfl, rfl⟩) l5 rfl ?_
    refine m_pure (pc' := 75) (st' := [.int ((1200 : Int32) * (nI (2 * p + h))), .ref 1500]) cd_Mo_lying rfl rfl (fun _ _ => rfl) ?_
    refine m_eq (show ((1200 : Int32) * (nI (2 * p + h)) : Int32) = nI (1200 * (2 * p + h)) from pk_mul 1200 (2 * p + h)) ?_
    refine m_k1 (v := 2) (pc' := 76) cd_Mo_lying rfl (by decide) rfl ?_
    refine m_ild (pc' := 78) cd_Mo_lying rfl (Or.inl ⟨rfl, rfl⟩) l6 rfl ?_
    refine m_pure (pc' := 79) (st' := [.int ((2 : Int32) * (nI i)), .int (nI (1200 * (2 * p + h))), .ref 1500]) cd_Mo_lying rfl rfl (fun _ _ => rfl) ?_
    refine m_eq (show ((2 : Int32) * (nI i) : Int32) = nI (2 * i) from pk_mul 2 i) ?_
    refine m_pure (pc' := 80) (st' := [.int ((nI (1200 * (2 * p + h))) + (nI (2 * i))), .ref 1500]) cd_Mo_lying rfl rfl (fun _ _ => rfl) ?_
    refine m_eq (show ((nI (1200 * (2 * p + h))) + (nI (2 * i)) : Int32) = nI ((1200 * (2 * p + h)) + (2 * i)) from nI_add (1200 * (2 * p + h)) (2 * i)) ?_
    refine m_ild (pc' := 82) cd_Mo_lying rfl (Or.inl ⟨rfl, rfl⟩) l7 rfl ?_
    refine m_pure (pc' := 83) (st' := [.int ((nI ((1200 * (2 * p + h)) + (2 * i))) + 0), .ref 1500]) cd_Mo_lying rfl rfl (fun _ _ => rfl) ?_
    refine m_eq (show ((nI ((1200 * (2 * p + h)) + (2 * i))) + 0 : Int32) = nI (((1200 * (2 * p + h)) + (2 * i)) + 0) from nI_add ((1200 * (2 * p + h)) + (2 * i)) 0) ?_
    refine m_aI (r := 17) (a := 18) (g := (A 18)) (x := (A 18 (1200 * (2 * p + h) + 2 * i))) (pc' := 84) rfl rfl cd_Mo_lying rfl rfl rfl (vp_in_nI (by omega) (by decide)) (congrArg (A 18) (nI_clamp (by omega))) ?_
    refine m_ist (pc' := 86) cd_Mo_lying rfl (Or.inl ⟨rfl, rfl⟩) (by decide) rfl (fun lv el => ?_)
    have l0 := tm_lk el l0 rfl (by decide)
    have l1 := tm_lk el l1 rfl (by decide)
    have l2 := tm_lk el l2 rfl (by decide)
    have l3 := tm_lk el l3 rfl (by decide)
    have l4 := tm_lk el l4 rfl (by decide)
    have l5 := tm_lk el l5 rfl (by decide)
    have l6 := tm_lk el l6 rfl (by decide)
    have l7 := tm_lk el l7 rfl (by decide)
    have l8 : lv.lookup 8 = some (.int ((A 18 (1200 * (2 * p + h) + 2 * i)))) := tm_lks el
    clear el
    refine m_ild (pc' := 88) cd_Mo_lying rfl (Or.inl ⟨rfl, rfl⟩) l8 rfl ?_
    refine m_if1 (t := 94) (pc' := 91) cd_Mo_lying rfl rfl rfl (fun c88 => ?_) (fun c88 => ?_)
    · have c88 : ¬ (A 18 (1200 * (2 * p + h) + 2 * i)) = 0 := c88
      refine m_ild (pc' := 95) cd_Mo_lying rfl (Or.inr ⟨_, rfl, rfl, rfl⟩) l2 rfl ?_
      refine m_if1 (t := 112) (pc' := 98) cd_Mo_lying rfl rfl rfl (fun c95 => ?_) (fun c95 => ?_)
      · have c95 : (0 : Int32) = 0 := c95
        have nz1 : e.1 ≠ tz := fun q => c88 ((MT_0 h0 t1).mpr q)
        have hWl0 : (W ++ [e.1]).length = W.length + 1 := by rw [List.length_append]; rfl
        refine m_inc (y := nI (W ++ [e.1]).length) (pc' := 115) cd_Mo_lying rfl l3 (by decide) (len_s1 _ _) rfl (fun lv el => ?_)
        have l0 := tm_lk el l0 rfl (by decide)
        have l1 := tm_lk el l1 rfl (by decide)
        have l2 := tm_lk el l2 rfl (by decide)
        have l4 := tm_lk el l4 rfl (by decide)
        have l5 := tm_lk el l5 rfl (by decide)
        have l6 := tm_lk el l6 rfl (by decide)
        have l7 := tm_lk el l7 rfl (by decide)
        have l8 := tm_lk el l8 rfl (by decide)
        have l3 : lv.lookup 3 = some (.int (nI (W ++ [e.1]).length)) := tm_lks el
        clear el
        refine m_inc (y := 1) (pc' := 118) cd_Mo_lying rfl l7 (by decide) (by decide) rfl (fun lv el => ?_)
        have l0 := tm_lk el l0 rfl (by decide)
        have l1 := tm_lk el l1 rfl (by decide)
        have l2 := tm_lk el l2 rfl (by decide)
        have l3 := tm_lk el l3 rfl (by decide)
        have l4 := tm_lk el l4 rfl (by decide)
        have l5 := tm_lk el l5 rfl (by decide)
        have l6 := tm_lk el l6 rfl (by decide)
        have l8 := tm_lk el l8 rfl (by decide)
        have l7 : lv.lookup 7 = some (.int 1) := tm_lks el
        clear el
        refine m_pure (pc' := 59) (st' := []) cd_Mo_lying rfl rfl (fun _ _ => rfl) ?_
        refine m_ild (pc' := 61) cd_Mo_lying rfl (Or.inl ⟨rfl, rfl⟩) l7 rfl ?_
        refine m_k1 (v := 2) (pc' := 62) cd_Mo_lying rfl (by decide) rfl ?_
        refine m_if2 (t := 121) (pc' := 65) cd_Mo_lying rfl rfl rfl (fun c62 => ?_) (fun c62 => ?_)
        · exact absurd (show (2 : Int32) ≤ 1 from c62) (by decide)
        · have c62 : ¬ (2 : Int32) ≤ 1 := c62
          refine m_ald (pc' := 66) cd_Mo_lying rfl (Or.inr ⟨_, rfl, rfl, rfl⟩) l0 rfl rfl ?_
          refine m_fR (r := 17) (a := 18) (ad := 1500) (pc' := 69) rfl rfl cd_Mo_lying rfl rfl rfl rfl rfl ?_
          refine m_k3 (v := 1200) (pc' := 72) cd_Mo_lying rfl (by decide) rfl ?_
          refine m_ild (pc' := 74) cd_Mo_lying rfl (Or.inl ⟨rfl, rfl⟩) l5 rfl ?_
          refine m_pure (pc' := 75) (st' := [.int ((1200 : Int32) * (nI (2 * p + h))), .ref 1500]) cd_Mo_lying rfl rfl (fun _ _ => rfl) ?_
          refine m_eq (show ((1200 : Int32) * (nI (2 * p + h)) : Int32) = nI (1200 * (2 * p + h)) from pk_mul 1200 (2 * p + h)) ?_
          refine m_k1 (v := 2) (pc' := 76) cd_Mo_lying rfl (by decide) rfl ?_
          refine m_ild (pc' := 78) cd_Mo_lying rfl (Or.inl ⟨rfl, rfl⟩) l6 rfl ?_
          refine m_pure (pc' := 79) (st' := [.int ((2 : Int32) * (nI i)), .int (nI (1200 * (2 * p + h))), .ref 1500]) cd_Mo_lying rfl rfl (fun _ _ => rfl) ?_
          refine m_eq (show ((2 : Int32) * (nI i) : Int32) = nI (2 * i) from pk_mul 2 i) ?_
          refine m_pure (pc' := 80) (st' := [.int ((nI (1200 * (2 * p + h))) + (nI (2 * i))), .ref 1500]) cd_Mo_lying rfl rfl (fun _ _ => rfl) ?_
          refine m_eq (show ((nI (1200 * (2 * p + h))) + (nI (2 * i)) : Int32) = nI ((1200 * (2 * p + h)) + (2 * i)) from nI_add (1200 * (2 * p + h)) (2 * i)) ?_
          refine m_ild (pc' := 82) cd_Mo_lying rfl (Or.inl ⟨rfl, rfl⟩) l7 rfl ?_
          refine m_pure (pc' := 83) (st' := [.int ((nI ((1200 * (2 * p + h)) + (2 * i))) + 1), .ref 1500]) cd_Mo_lying rfl rfl (fun _ _ => rfl) ?_
          refine m_eq (show ((nI ((1200 * (2 * p + h)) + (2 * i))) + 1 : Int32) = nI (((1200 * (2 * p + h)) + (2 * i)) + 1) from nI_add ((1200 * (2 * p + h)) + (2 * i)) 1) ?_
          refine m_aI (r := 17) (a := 18) (g := (A 18)) (x := (A 18 (1200 * (2 * p + h) + 2 * i + 1))) (pc' := 84) rfl rfl cd_Mo_lying rfl rfl rfl (vp_in_nI (by omega) (by decide)) (congrArg (A 18) (nI_clamp (by omega))) ?_
          refine m_ist (pc' := 86) cd_Mo_lying rfl (Or.inl ⟨rfl, rfl⟩) (by decide) rfl (fun lv el => ?_)
          have l0 := tm_lk el l0 rfl (by decide)
          have l1 := tm_lk el l1 rfl (by decide)
          have l2 := tm_lk el l2 rfl (by decide)
          have l3 := tm_lk el l3 rfl (by decide)
          have l4 := tm_lk el l4 rfl (by decide)
          have l5 := tm_lk el l5 rfl (by decide)
          have l6 := tm_lk el l6 rfl (by decide)
          have l7 := tm_lk el l7 rfl (by decide)
          have l8 : lv.lookup 8 = some (.int ((A 18 (1200 * (2 * p + h) + 2 * i + 1)))) := tm_lks el
          clear el
          refine m_ild (pc' := 88) cd_Mo_lying rfl (Or.inl ⟨rfl, rfl⟩) l8 rfl ?_
          refine m_if1 (t := 94) (pc' := 91) cd_Mo_lying rfl rfl rfl (fun c88 => ?_) (fun c88 => ?_)
          · have c88 : ¬ (A 18 (1200 * (2 * p + h) + 2 * i + 1)) = 0 := c88
            refine m_ild (pc' := 95) cd_Mo_lying rfl (Or.inr ⟨_, rfl, rfl, rfl⟩) l2 rfl ?_
            refine m_if1 (t := 112) (pc' := 98) cd_Mo_lying rfl rfl rfl (fun c95 => ?_) (fun c95 => ?_)
            · have c95 : (0 : Int32) = 0 := c95
              have nz2 : e.2 ≠ tz := fun q => c88 ((MT_0 h0 t2).mpr q)
              have hWl1 : ((W ++ [e.1]) ++ [e.2]).length = (W ++ [e.1]).length + 1 := by rw [List.length_append]; rfl
              refine m_inc (y := nI ((W ++ [e.1]) ++ [e.2]).length) (pc' := 115) cd_Mo_lying rfl l3 (by decide) (len_s1 _ _) rfl (fun lv el => ?_)
              have l0 := tm_lk el l0 rfl (by decide)
              have l1 := tm_lk el l1 rfl (by decide)
              have l2 := tm_lk el l2 rfl (by decide)
              have l4 := tm_lk el l4 rfl (by decide)
              have l5 := tm_lk el l5 rfl (by decide)
              have l6 := tm_lk el l6 rfl (by decide)
              have l7 := tm_lk el l7 rfl (by decide)
              have l8 := tm_lk el l8 rfl (by decide)
              have l3 : lv.lookup 3 = some (.int (nI ((W ++ [e.1]) ++ [e.2]).length)) := tm_lks el
              clear el
              refine m_inc (y := 2) (pc' := 118) cd_Mo_lying rfl l7 (by decide) (by decide) rfl (fun lv el => ?_)
              have l0 := tm_lk el l0 rfl (by decide)
              have l1 := tm_lk el l1 rfl (by decide)
              have l2 := tm_lk el l2 rfl (by decide)
              have l3 := tm_lk el l3 rfl (by decide)
              have l4 := tm_lk el l4 rfl (by decide)
              have l5 := tm_lk el l5 rfl (by decide)
              have l6 := tm_lk el l6 rfl (by decide)
              have l8 := tm_lk el l8 rfl (by decide)
              have l7 : lv.lookup 7 = some (.int 2) := tm_lks el
              clear el
              refine m_pure (pc' := 59) (st' := []) cd_Mo_lying rfl rfl (fun _ _ => rfl) ?_
              refine m_ild (pc' := 61) cd_Mo_lying rfl (Or.inl ⟨rfl, rfl⟩) l7 rfl ?_
              refine m_k1 (v := 2) (pc' := 62) cd_Mo_lying rfl (by decide) rfl ?_
              refine m_if2 (t := 121) (pc' := 65) cd_Mo_lying rfl rfl rfl (fun c62 => ?_) (fun c62 => ?_)
              · have c62 : (2 : Int32) ≤ 2 := c62
                have enz : W ++ nz [e.1, e.2] = ((W ++ [e.1]) ++ [e.2]) := by rw [nz_n nz1, nz_n nz2, show nz [] = [] from rfl]; try simp
                rw [enz] at kk
                exact kk _ _ lv rfl rfl l0 l1 l2 l3 l4 l5 l6
              · exact absurd (show ¬ (2 : Int32) ≤ 2 from c62) (by decide)
            · exact absurd (show ¬ (0 : Int32) = 0 from c95) (by decide)
          · have c88 : (A 18 (1200 * (2 * p + h) + 2 * i + 1)) = 0 := Classical.not_not.mp c88
            refine m_pure (pc' := 115) (st' := []) cd_Mo_lying rfl rfl (fun _ _ => rfl) ?_
            refine m_inc (y := 2) (pc' := 118) cd_Mo_lying rfl l7 (by decide) (by decide) rfl (fun lv el => ?_)
            have l0 := tm_lk el l0 rfl (by decide)
            have l1 := tm_lk el l1 rfl (by decide)
            have l2 := tm_lk el l2 rfl (by decide)
            have l3 := tm_lk el l3 rfl (by decide)
            have l4 := tm_lk el l4 rfl (by decide)
            have l5 := tm_lk el l5 rfl (by decide)
            have l6 := tm_lk el l6 rfl (by decide)
            have l8 := tm_lk el l8 rfl (by decide)
            have l7 : lv.lookup 7 = some (.int 2) := tm_lks el
            clear el
            refine m_pure (pc' := 59) (st' := []) cd_Mo_lying rfl rfl (fun _ _ => rfl) ?_
            refine m_ild (pc' := 61) cd_Mo_lying rfl (Or.inl ⟨rfl, rfl⟩) l7 rfl ?_
            refine m_k1 (v := 2) (pc' := 62) cd_Mo_lying rfl (by decide) rfl ?_
            refine m_if2 (t := 121) (pc' := 65) cd_Mo_lying rfl rfl rfl (fun c62 => ?_) (fun c62 => ?_)
            · have c62 : (2 : Int32) ≤ 2 := c62
              have enz : W ++ nz [e.1, e.2] = (W ++ [e.1]) := by rw [nz_n nz1, nz_z ((MT_0 h0 t2).mp c88), show nz [] = [] from rfl]; try simp
              rw [enz] at kk
              exact kk _ _ lv rfl rfl l0 l1 l2 l3 l4 l5 l6
            · exact absurd (show ¬ (2 : Int32) ≤ 2 from c62) (by decide)
      · exact absurd (show ¬ (0 : Int32) = 0 from c95) (by decide)
    · have c88 : (A 18 (1200 * (2 * p + h) + 2 * i)) = 0 := Classical.not_not.mp c88
      refine m_pure (pc' := 115) (st' := []) cd_Mo_lying rfl rfl (fun _ _ => rfl) ?_
      have c88_0 := c88
      refine m_inc (y := 1) (pc' := 118) cd_Mo_lying rfl l7 (by decide) (by decide) rfl (fun lv el => ?_)
      have l0 := tm_lk el l0 rfl (by decide)
      have l1 := tm_lk el l1 rfl (by decide)
      have l2 := tm_lk el l2 rfl (by decide)
      have l3 := tm_lk el l3 rfl (by decide)
      have l4 := tm_lk el l4 rfl (by decide)
      have l5 := tm_lk el l5 rfl (by decide)
      have l6 := tm_lk el l6 rfl (by decide)
      have l8 := tm_lk el l8 rfl (by decide)
      have l7 : lv.lookup 7 = some (.int 1) := tm_lks el
      clear el
      refine m_pure (pc' := 59) (st' := []) cd_Mo_lying rfl rfl (fun _ _ => rfl) ?_
      refine m_ild (pc' := 61) cd_Mo_lying rfl (Or.inl ⟨rfl, rfl⟩) l7 rfl ?_
      refine m_k1 (v := 2) (pc' := 62) cd_Mo_lying rfl (by decide) rfl ?_
      refine m_if2 (t := 121) (pc' := 65) cd_Mo_lying rfl rfl rfl (fun c62 => ?_) (fun c62 => ?_)
      · exact absurd (show (2 : Int32) ≤ 1 from c62) (by decide)
      · have c62 : ¬ (2 : Int32) ≤ 1 := c62
        refine m_ald (pc' := 66) cd_Mo_lying rfl (Or.inr ⟨_, rfl, rfl, rfl⟩) l0 rfl rfl ?_
        refine m_fR (r := 17) (a := 18) (ad := 1500) (pc' := 69) rfl rfl cd_Mo_lying rfl rfl rfl rfl rfl ?_
        refine m_k3 (v := 1200) (pc' := 72) cd_Mo_lying rfl (by decide) rfl ?_
        refine m_ild (pc' := 74) cd_Mo_lying rfl (Or.inl ⟨rfl, rfl⟩) l5 rfl ?_
        refine m_pure (pc' := 75) (st' := [.int ((1200 : Int32) * (nI (2 * p + h))), .ref 1500]) cd_Mo_lying rfl rfl (fun _ _ => rfl) ?_
        refine m_eq (show ((1200 : Int32) * (nI (2 * p + h)) : Int32) = nI (1200 * (2 * p + h)) from pk_mul 1200 (2 * p + h)) ?_
        refine m_k1 (v := 2) (pc' := 76) cd_Mo_lying rfl (by decide) rfl ?_
        refine m_ild (pc' := 78) cd_Mo_lying rfl (Or.inl ⟨rfl, rfl⟩) l6 rfl ?_
        refine m_pure (pc' := 79) (st' := [.int ((2 : Int32) * (nI i)), .int (nI (1200 * (2 * p + h))), .ref 1500]) cd_Mo_lying rfl rfl (fun _ _ => rfl) ?_
        refine m_eq (show ((2 : Int32) * (nI i) : Int32) = nI (2 * i) from pk_mul 2 i) ?_
        refine m_pure (pc' := 80) (st' := [.int ((nI (1200 * (2 * p + h))) + (nI (2 * i))), .ref 1500]) cd_Mo_lying rfl rfl (fun _ _ => rfl) ?_
        refine m_eq (show ((nI (1200 * (2 * p + h))) + (nI (2 * i)) : Int32) = nI ((1200 * (2 * p + h)) + (2 * i)) from nI_add (1200 * (2 * p + h)) (2 * i)) ?_
        refine m_ild (pc' := 82) cd_Mo_lying rfl (Or.inl ⟨rfl, rfl⟩) l7 rfl ?_
        refine m_pure (pc' := 83) (st' := [.int ((nI ((1200 * (2 * p + h)) + (2 * i))) + 1), .ref 1500]) cd_Mo_lying rfl rfl (fun _ _ => rfl) ?_
        refine m_eq (show ((nI ((1200 * (2 * p + h)) + (2 * i))) + 1 : Int32) = nI (((1200 * (2 * p + h)) + (2 * i)) + 1) from nI_add ((1200 * (2 * p + h)) + (2 * i)) 1) ?_
        refine m_aI (r := 17) (a := 18) (g := (A 18)) (x := (A 18 (1200 * (2 * p + h) + 2 * i + 1))) (pc' := 84) rfl rfl cd_Mo_lying rfl rfl rfl (vp_in_nI (by omega) (by decide)) (congrArg (A 18) (nI_clamp (by omega))) ?_
        refine m_ist (pc' := 86) cd_Mo_lying rfl (Or.inl ⟨rfl, rfl⟩) (by decide) rfl (fun lv el => ?_)
        have l0 := tm_lk el l0 rfl (by decide)
        have l1 := tm_lk el l1 rfl (by decide)
        have l2 := tm_lk el l2 rfl (by decide)
        have l3 := tm_lk el l3 rfl (by decide)
        have l4 := tm_lk el l4 rfl (by decide)
        have l5 := tm_lk el l5 rfl (by decide)
        have l6 := tm_lk el l6 rfl (by decide)
        have l7 := tm_lk el l7 rfl (by decide)
        have l8 : lv.lookup 8 = some (.int ((A 18 (1200 * (2 * p + h) + 2 * i + 1)))) := tm_lks el
        clear el
        refine m_ild (pc' := 88) cd_Mo_lying rfl (Or.inl ⟨rfl, rfl⟩) l8 rfl ?_
        refine m_if1 (t := 94) (pc' := 91) cd_Mo_lying rfl rfl rfl (fun c88 => ?_) (fun c88 => ?_)
        · have c88 : ¬ (A 18 (1200 * (2 * p + h) + 2 * i + 1)) = 0 := c88
          refine m_ild (pc' := 95) cd_Mo_lying rfl (Or.inr ⟨_, rfl, rfl, rfl⟩) l2 rfl ?_
          refine m_if1 (t := 112) (pc' := 98) cd_Mo_lying rfl rfl rfl (fun c95 => ?_) (fun c95 => ?_)
          · have c95 : (0 : Int32) = 0 := c95
            have nz2 : e.2 ≠ tz := fun q => c88 ((MT_0 h0 t2).mpr q)
            have hWl1 : (W ++ [e.2]).length = W.length + 1 := by rw [List.length_append]; rfl
            refine m_inc (y := nI (W ++ [e.2]).length) (pc' := 115) cd_Mo_lying rfl l3 (by decide) (len_s1 _ _) rfl (fun lv el => ?_)
            have l0 := tm_lk el l0 rfl (by decide)
            have l1 := tm_lk el l1 rfl (by decide)
            have l2 := tm_lk el l2 rfl (by decide)
            have l4 := tm_lk el l4 rfl (by decide)
            have l5 := tm_lk el l5 rfl (by decide)
            have l6 := tm_lk el l6 rfl (by decide)
            have l7 := tm_lk el l7 rfl (by decide)
            have l8 := tm_lk el l8 rfl (by decide)
            have l3 : lv.lookup 3 = some (.int (nI (W ++ [e.2]).length)) := tm_lks el
            clear el
            refine m_inc (y := 2) (pc' := 118) cd_Mo_lying rfl l7 (by decide) (by decide) rfl (fun lv el => ?_)
            have l0 := tm_lk el l0 rfl (by decide)
            have l1 := tm_lk el l1 rfl (by decide)
            have l2 := tm_lk el l2 rfl (by decide)
            have l3 := tm_lk el l3 rfl (by decide)
            have l4 := tm_lk el l4 rfl (by decide)
            have l5 := tm_lk el l5 rfl (by decide)
            have l6 := tm_lk el l6 rfl (by decide)
            have l8 := tm_lk el l8 rfl (by decide)
            have l7 : lv.lookup 7 = some (.int 2) := tm_lks el
            clear el
            refine m_pure (pc' := 59) (st' := []) cd_Mo_lying rfl rfl (fun _ _ => rfl) ?_
            refine m_ild (pc' := 61) cd_Mo_lying rfl (Or.inl ⟨rfl, rfl⟩) l7 rfl ?_
            refine m_k1 (v := 2) (pc' := 62) cd_Mo_lying rfl (by decide) rfl ?_
            refine m_if2 (t := 121) (pc' := 65) cd_Mo_lying rfl rfl rfl (fun c62 => ?_) (fun c62 => ?_)
            · have c62 : (2 : Int32) ≤ 2 := c62
              have enz : W ++ nz [e.1, e.2] = (W ++ [e.2]) := by rw [nz_z ((MT_0 h0 t1).mp c88_0), nz_n nz2, show nz [] = [] from rfl]; try simp
              rw [enz] at kk
              exact kk _ _ lv rfl rfl l0 l1 l2 l3 l4 l5 l6
            · exact absurd (show ¬ (2 : Int32) ≤ 2 from c62) (by decide)
          · exact absurd (show ¬ (0 : Int32) = 0 from c95) (by decide)
        · have c88 : (A 18 (1200 * (2 * p + h) + 2 * i + 1)) = 0 := Classical.not_not.mp c88
          refine m_pure (pc' := 115) (st' := []) cd_Mo_lying rfl rfl (fun _ _ => rfl) ?_
          refine m_inc (y := 2) (pc' := 118) cd_Mo_lying rfl l7 (by decide) (by decide) rfl (fun lv el => ?_)
          have l0 := tm_lk el l0 rfl (by decide)
          have l1 := tm_lk el l1 rfl (by decide)
          have l2 := tm_lk el l2 rfl (by decide)
          have l3 := tm_lk el l3 rfl (by decide)
          have l4 := tm_lk el l4 rfl (by decide)
          have l5 := tm_lk el l5 rfl (by decide)
          have l6 := tm_lk el l6 rfl (by decide)
          have l8 := tm_lk el l8 rfl (by decide)
          have l7 : lv.lookup 7 = some (.int 2) := tm_lks el
          clear el
          refine m_pure (pc' := 59) (st' := []) cd_Mo_lying rfl rfl (fun _ _ => rfl) ?_
          refine m_ild (pc' := 61) cd_Mo_lying rfl (Or.inl ⟨rfl, rfl⟩) l7 rfl ?_
          refine m_k1 (v := 2) (pc' := 62) cd_Mo_lying rfl (by decide) rfl ?_
          refine m_if2 (t := 121) (pc' := 65) cd_Mo_lying rfl rfl rfl (fun c62 => ?_) (fun c62 => ?_)
          · have c62 : (2 : Int32) ≤ 2 := c62
            have enz : W ++ nz [e.1, e.2] = W := by rw [nz_z ((MT_0 h0 t1).mp c88_0), nz_z ((MT_0 h0 t2).mp c88), show nz [] = [] from rfl]; try simp
            rw [enz] at kk
            exact kk _ _ lv rfl rfl l0 l1 l2 l3 l4 l5 l6
          · exact absurd (show ¬ (2 : Int32) ≤ 2 from c62) (by decide)
set_option maxRecDepth 100000 in
theorem l_lyR0 {sc : tm_X} {d : Nat} {f0 : Nat → Int32} {A0 : Nat → Nat → Int32} {T : List Tm} {DL : List (Int32 × Int32)} {G Kw : Tm → Prop} {p h lo hi : Nat} {x4 : Int32} {L : EN2} {Q : Option Value → MS → Prop} (h0 : MT f0 A0 T DL G Kw) (hp : p < 6) (hh : h < 2) (hq : qHf A0 T (2 * p + h) L lo hi) : ∀ (R : EN2) (i : Nat) (W : List Tm), L.drop i = R → i ≤ 536 → W.length + 2 * R.length ≤ 2144 → (∀ f A (lv : tm_L), f = f0 → A = A0 →  lv.lookup 0 = some (.ref 1482) → lv.lookup 1 = some (.int (nI p)) → lv.lookup 2 = some (.int 0) → lv.lookup 3 = some (.int (nI (W ++ nz (fl (vis lo hi i R))).length)) → lv.lookup 4 = some (.int x4) → lv.lookup 5 = some (.int (nI (2 * p + h))) → mg sc (d + 1) 266 127 lv [] (f, A) Q) → ∀ f A (lv : tm_L), f = f0 → A = A0 →  lv.lookup 0 = some (.ref 1482) → lv.lookup 1 = some (.int (nI p)) → lv.lookup 2 = some (.int 0) → lv.lookup 3 = some (.int (nI W.length)) → lv.lookup 4 = some (.int x4) → lv.lookup 5 = some (.int (nI (2 * p + h))) → lv.lookup 6 = some (.int (nI i)) → mg sc (d + 1) 266 22 lv [] (f, A) Q := by
  have h20 := hq.1.1
  have hL := hq.1.2.1
  intro R
  induction R with
  | nil =>
    intro i W hR hi5 hW kk f A lv ef eA l0 l1 l2 l3 l4 l5 l6
    have hd := drop_n hR
    subst ef
    subst eA
    refine m_ild (pc' := 24) cd_Mo_lying rfl (Or.inl ⟨rfl, rfl⟩) l6 rfl ?_
    refine m_ald (pc' := 25) cd_Mo_lying rfl (Or.inr ⟨_, rfl, rfl, rfl⟩) l0 rfl rfl ?_
    refine m_fR (r := 19) (a := 20) (ad := 1502) (pc' := 28) rfl rfl cd_Mo_lying rfl rfl rfl rfl rfl ?_
    refine m_ild (pc' := 30) cd_Mo_lying rfl (Or.inl ⟨rfl, rfl⟩) l5 rfl ?_
    refine m_aI (r := 19) (a := 20) (g := (A 20)) (x := nI L.length) (pc' := 31) rfl rfl cd_Mo_lying rfl rfl rfl (vp_in_nI (by omega) (by decide)) (by rw [(nI_clamp (by omega))]; exact h20) ?_
    refine m_if2 (t := 127) (pc' := 34) cd_Mo_lying rfl rfl rfl (fun c31 => ?_) (fun c31 => ?_)
    · have c31 : (nI L.length) ≤ (nI i) := c31
      have e0 : W ++ nz (fl (vis lo hi i [])) = W := by simp [vis, fl, nz]
      rw [e0] at kk
      exact kk _ _ lv rfl rfl l0 l1 l2 l3 l4 l5
    · have c31 : ¬ (nI L.length) ≤ (nI i) := c31
      exact absurd (nI_le hd (by omega)) c31
  | cons e R ih =>
    intro i W hR hi5 hW kk f A lv ef eA l0 l1 l2 l3 l4 l5 l6
    obtain ⟨he, hR2, hil⟩ := drop_c hR
    rw [List.length_cons] at hW
    subst ef
    subst eA
    refine m_ild (pc' := 24) cd_Mo_lying rfl (Or.inl ⟨rfl, rfl⟩) l6 rfl ?_
    refine m_ald (pc' := 25) cd_Mo_lying rfl (Or.inr ⟨_, rfl, rfl, rfl⟩) l0 rfl rfl ?_
    refine m_fR (r := 19) (a := 20) (ad := 1502) (pc' := 28) rfl rfl cd_Mo_lying rfl rfl rfl rfl rfl ?_
    refine m_ild (pc' := 30) cd_Mo_lying rfl (Or.inl ⟨rfl, rfl⟩) l5 rfl ?_
    refine m_aI (r := 19) (a := 20) (g := (A 20)) (x := nI L.length) (pc' := 31) rfl rfl cd_Mo_lying rfl rfl rfl (vp_in_nI (by omega) (by decide)) (by rw [(nI_clamp (by omega))]; exact h20) ?_
    refine m_if2 (t := 127) (pc' := 34) cd_Mo_lying rfl rfl rfl (fun c31 => ?_) (fun c31 => ?_)
    · have c31 : (nI L.length) ≤ (nI i) := c31
      exact absurd c31 (nI_ge hil (by omega))
    · have c31 : ¬ (nI L.length) ≤ (nI i) := c31
      refine m_ald (pc' := 35) cd_Mo_lying rfl (Or.inr ⟨_, rfl, rfl, rfl⟩) l0 rfl rfl ?_
      refine m_fR (r := 18) (a := 19) (ad := 1501) (pc' := 38) rfl rfl cd_Mo_lying rfl rfl rfl rfl rfl ?_
      refine m_k2 (v := 75) (pc' := 40) cd_Mo_lying rfl (by decide) rfl ?_
      refine m_ild (pc' := 42) cd_Mo_lying rfl (Or.inl ⟨rfl, rfl⟩) l5 rfl ?_
      refine m_pure (pc' := 43) (st' := [.int ((75 : Int32) * (nI (2 * p + h))), .ref 1501]) cd_Mo_lying rfl rfl (fun _ _ => rfl) ?_
      refine m_eq (show ((75 : Int32) * (nI (2 * p + h)) : Int32) = nI (75 * (2 * p + h)) from pk_mul 75 (2 * p + h)) ?_
      refine m_ild (pc' := 45) cd_Mo_lying rfl (Or.inl ⟨rfl, rfl⟩) l6 rfl ?_
      refine m_k2 (v := 8) (pc' := 47) cd_Mo_lying rfl (by decide) rfl ?_
      refine m_div (z := nI (i / 8)) (pc' := 48) cd_Mo_lying rfl rfl (by decide) (nI_div i 8 (by omega) (by decide) (by decide)) ?_
      refine m_pure (pc' := 49) (st' := [.int ((nI (75 * (2 * p + h))) + (nI (i / 8))), .ref 1501]) cd_Mo_lying rfl rfl (fun _ _ => rfl) ?_
      refine m_eq (show ((nI (75 * (2 * p + h))) + (nI (i / 8)) : Int32) = nI ((75 * (2 * p + h)) + (i / 8)) from nI_add (75 * (2 * p + h)) (i / 8)) ?_
      refine m_bI (r := 18) (a := 19) (g := (A 19)) (x := bz (decide (lo ≤ i / 8 ∧ i / 8 < hi))) (pc' := 50) rfl rfl cd_Mo_lying rfl rfl rfl (vp_in_nI (by omega) (by decide)) (by rw [(nI_clamp (by omega))]; exact hq.2.1 (i / 8) (by omega)) ?_
      refine m_if1 (t := 56) (pc' := 53) cd_Mo_lying rfl rfl rfl (fun c50 => ?_) (fun c50 => ?_)
      · have c50 : (decide (lo ≤ i / 8 ∧ i / 8 < hi)) = true := bz_t c50
        have cv := of_decide_eq_true c50
        have t12 := hq.2.2 i e he (by omega)
        have ev : W ++ nz (fl (vis lo hi i (e :: R))) = (W ++ nz [e.1, e.2]) ++ nz (fl (vis lo hi (i + 1) R)) := by
          show W ++ nz (fl ((if lo ≤ i / 8 ∧ i / 8 < hi then [e] else []) ++ vis lo hi (i + 1) R)) = _
          rw [if_pos cv, fl_app, nz_app, List.append_assoc]
          rfl
        rw [ev] at kk
        refine l_lyE0 h0 hp hh (by omega) t12.1 t12.2 (by omega) (fun f A lv ef eA l0 l1 l2 l3 l4 l5 l6 => ?_) _ _ lv rfl rfl l0 l1 l2 l3 l4 l5 l6
        subst ef
        subst eA
        refine m_inc (y := nI (i + 1)) (pc' := 124) cd_Mo_lying rfl l6 (by decide) (nI_add i 1) rfl (fun lv el => ?_)
        have l0 := tm_lk el l0 rfl (by decide)
        have l1 := tm_lk el l1 rfl (by decide)
        have l2 := tm_lk el l2 rfl (by decide)
        have l3 := tm_lk el l3 rfl (by decide)
        have l4 := tm_lk el l4 rfl (by decide)
        have l5 := tm_lk el l5 rfl (by decide)
        have l6 : lv.lookup 6 = some (.int (nI (i + 1))) := tm_lks el
        clear el
        refine m_pure (pc' := 22) (st' := []) cd_Mo_lying rfl rfl (fun _ _ => rfl) ?_
        refine ih (i + 1) (W ++ nz [e.1, e.2]) hR2 (by omega) (by have q := nzfl_len [e]; simp only [List.length_append]; have q2 : (nz [e.1, e.2]).length ≤ 2 := q; omega) kk _ _ lv rfl rfl l0 l1 l2 l3 l4 l5 l6
      · have c50 : (decide (lo ≤ i / 8 ∧ i / 8 < hi)) = false := bz_f (Classical.not_not.mp c50)
        refine m_pure (pc' := 121) (st' := []) cd_Mo_lying rfl rfl (fun _ _ => rfl) ?_
        refine m_inc (y := nI (i + 1)) (pc' := 124) cd_Mo_lying rfl l6 (by decide) (nI_add i 1) rfl (fun lv el => ?_)
        have l0 := tm_lk el l0 rfl (by decide)
        have l1 := tm_lk el l1 rfl (by decide)
        have l2 := tm_lk el l2 rfl (by decide)
        have l3 := tm_lk el l3 rfl (by decide)
        have l4 := tm_lk el l4 rfl (by decide)
        have l5 := tm_lk el l5 rfl (by decide)
        have l6 : lv.lookup 6 = some (.int (nI (i + 1))) := tm_lks el
        clear el
        refine m_pure (pc' := 22) (st' := []) cd_Mo_lying rfl rfl (fun _ _ => rfl) ?_
        have ev : vis lo hi i (e :: R) = vis lo hi (i + 1) R := by show (if lo ≤ i / 8 ∧ i / 8 < hi then [e] else []) ++ _ = _; rw [if_neg (of_decide_eq_false c50)]; rfl
        rw [ev] at kk
        exact ih (i + 1) W hR2 (by omega) (by omega) kk _ _ lv rfl rfl l0 l1 l2 l3 l4 l5 l6
set_option maxRecDepth 100000 in
theorem l_lyE1 {sc : tm_X} {d : Nat} {f0 : Nat → Int32} {A0 : Nat → Nat → Int32} {T : List Tm} {DL : List (Int32 × Int32)} {G Kw : Tm → Prop} {p h i : Nat} {x4 : Int32} {e : Tm × Tm} {Q : Option Value → MS → Prop} (h0 : MT f0 A0 T DL G Kw) (hp : p < 6) (hh : h < 2) (hi : i < 536) (t1 : tv T (A0 18 (1200 * (2 * p + h) + 2 * i)) e.1) (t2 : tv T (A0 18 (1200 * (2 * p + h) + 2 * i + 1)) e.2) {W : List Tm} (hW : W.length ≤ 2142) (kk : ∀ f A (lv : tm_L), MT f A T DL (fun y => G y ∨ y ∈ W ++ nz [e.1, e.2]) Kw → FLg (A 46) T (W ++ nz [e.1, e.2]) 0 → (f 16 = 1 ∨ (f 16 = f0 16 ∧ ∀ y, y ∈ W ++ nz [e.1, e.2] → G y)) → (∀ k, k ≠ 16 → f k = f0 k) → (∀ j, j ≠ 5 → j ≠ 46 → A j = A0 j) →  lv.lookup 0 = some (.ref 1482) → lv.lookup 1 = some (.int (nI p)) → lv.lookup 2 = some (.int 1) → lv.lookup 3 = some (.int (nI (W ++ nz [e.1, e.2]).length)) → lv.lookup 4 = some (.int x4) → lv.lookup 5 = some (.int (nI (2 * p + h))) → lv.lookup 6 = some (.int (nI i)) → mg sc (d + 1) 266 121 lv [] (f, A) Q) : ∀ f A (lv : tm_L), MT f A T DL (fun y => G y ∨ y ∈ W) Kw → FLg (A 46) T (W) 0 → (f 16 = 1 ∨ (f 16 = f0 16 ∧ ∀ y, y ∈ W → G y)) → (∀ k, k ≠ 16 → f k = f0 k) → (∀ j, j ≠ 5 → j ≠ 46 → A j = A0 j) →  lv.lookup 0 = some (.ref 1482) → lv.lookup 1 = some (.int (nI p)) → lv.lookup 2 = some (.int 1) → lv.lookup 3 = some (.int (nI W.length)) → lv.lookup 4 = some (.int x4) → lv.lookup 5 = some (.int (nI (2 * p + h))) → lv.lookup 6 = some (.int (nI i)) → mg sc (d + 1) 266 56 lv [] (f, A) Q := by
  intro f A lv hM hF hg ef eA l0 l1 l2 l3 l4 l5 l6
  refine m_k1 (v := 0) (pc' := 57) cd_Mo_lying rfl (by decide) rfl ?_
  refine m_ist (pc' := 59) cd_Mo_lying rfl (Or.inl ⟨rfl, rfl⟩) (by decide) rfl (fun lv el => ?_)
  have l0 := tm_lk el l0 rfl (by decide)
  have l1 := tm_lk el l1 rfl (by decide)
  have l2 := tm_lk el l2 rfl (by decide)
  have l3 := tm_lk el l3 rfl (by decide)
  have l4 := tm_lk el l4 rfl (by decide)
  have l5 := tm_lk el l5 rfl (by decide)
  have l6 := tm_lk el l6 rfl (by decide)
  have l7 : lv.lookup 7 = some (.int 0) := tm_lks el
  clear el
  refine m_ild (pc' := 61) cd_Mo_lying rfl (Or.inl ⟨rfl, rfl⟩) l7 rfl ?_
  refine m_k1 (v := 2) (pc' := 62) cd_Mo_lying rfl (by decide) rfl ?_
  refine m_if2 (t := 121) (pc' := 65) cd_Mo_lying rfl rfl rfl (fun c62 => ?_) (fun c62 => ?_)
  · exact absurd (show (2 : Int32) ≤ 0 from c62) (by decide)
  · have c62 : ¬ (2 : Int32) ≤ 0 := c62
    refine m_ald (pc' := 66) cd_Mo_lying rfl (Or.inr ⟨_, rfl, rfl, rfl⟩) l0 rfl rfl ?_
    refine m_fR (r := 17) (a := 18) (ad := 1500) (pc' := 69) rfl rfl cd_Mo_lying rfl rfl rfl rfl rfl ?_
    refine m_k3 (v := 1200) (pc' := 72) cd_Mo_lying rfl (by decide) rfl ?_
    refine m_ild (pc' := 74) cd_Mo_lying rfl (Or.inl ⟨rfl, rfl⟩) l5 rfl ?_
    refine m_pure (pc' := 75) (st' := [.int ((1200 : Int32) * (nI (2 * p + h))), .ref 1500]) cd_Mo_lying rfl rfl (fun _ _ => rfl) ?_
    refine m_eq (show ((1200 : Int32) * (nI (2 * p + h)) : Int32) = nI (1200 * (2 * p + h)) from pk_mul 1200 (2 * p + h)) ?_
    refine m_k1 (v := 2) (pc' := 76) cd_Mo_lying rfl (by decide) rfl ?_
    refine m_ild (pc' := 78) cd_Mo_lying rfl (Or.inl ⟨rfl, rfl⟩) l6 rfl ?_
    refine m_pure (pc' := 79) (st' := [.int ((2 : Int32) * (nI i)), .int (nI (1200 * (2 * p + h))), .ref 1500]) cd_Mo_lying rfl rfl (fun _ _ => rfl) ?_
    refine m_eq (show ((2 : Int32) * (nI i) : Int32) = nI (2 * i) from pk_mul 2 i) ?_
    refine m_pure (pc' := 80) (st' := [.int ((nI (1200 * (2 * p + h))) + (nI (2 * i))), .ref 1500]) cd_Mo_lying rfl rfl (fun _ _ => rfl) ?_
    refine m_eq (show ((nI (1200 * (2 * p + h))) + (nI (2 * i)) : Int32) = nI ((1200 * (2 * p + h)) + (2 * i)) from nI_add (1200 * (2 * p + h)) (2 * i)) ?_
    refine m_ild (pc' := 82) cd_Mo_lying rfl (Or.inl ⟨rfl, rfl⟩) l7 rfl ?_
    refine m_pure (pc' := 83) (st' := [.int ((nI ((1200 * (2 * p + h)) + (2 * i))) + 0), .ref 1500]) cd_Mo_lying rfl rfl (fun _ _ => rfl) ?_
    refine m_eq (show ((nI ((1200 * (2 * p + h)) + (2 * i))) + 0 : Int32) = nI (((1200 * (2 * p + h)) + (2 * i)) + 0) from nI_add ((1200 * (2 * p + h)) + (2 * i)) 0) ?_
    refine m_aI (r := 17) (a := 18) (g := (A 18)) (x := (A0 18 (1200 * (2 * p + h) + 2 * i))) (pc' := 84) rfl rfl cd_Mo_lying rfl rfl rfl (vp_in_nI (by omega) (by decide)) (by rw [(nI_clamp (by omega))]; exact congrFun (eA 18 (by decide) (by decide)) _) ?_
    refine m_ist (pc' := 86) cd_Mo_lying rfl (Or.inl ⟨rfl, rfl⟩) (by decide) rfl (fun lv el => ?_)
    have l0 := tm_lk el l0 rfl (by decide)
    have l1 := tm_lk el l1 rfl (by decide)
    have l2 := tm_lk el l2 rfl (by decide)
    have l3 := tm_lk el l3 rfl (by decide)
    have l4 := tm_lk el l4 rfl (by decide)
    have l5 := tm_lk el l5 rfl (by decide)
    have l6 := tm_lk el l6 rfl (by decide)
    have l7 := tm_lk el l7 rfl (by decide)
    have l8 : lv.lookup 8 = some (.int ((A0 18 (1200 * (2 * p + h) + 2 * i)))) := tm_lks el
    clear el
    refine m_ild (pc' := 88) cd_Mo_lying rfl (Or.inl ⟨rfl, rfl⟩) l8 rfl ?_
    refine m_if1 (t := 94) (pc' := 91) cd_Mo_lying rfl rfl rfl (fun c88 => ?_) (fun c88 => ?_)
    · have c88 : ¬ (A0 18 (1200 * (2 * p + h) + 2 * i)) = 0 := c88
      refine m_ild (pc' := 95) cd_Mo_lying rfl (Or.inr ⟨_, rfl, rfl, rfl⟩) l2 rfl ?_
      refine m_if1 (t := 112) (pc' := 98) cd_Mo_lying rfl rfl rfl (fun c95 => ?_) (fun c95 => ?_)
      · exact absurd (show (1 : Int32) = 0 from c95) (by decide)
      · have c95 : ¬ (1 : Int32) = 0 := c95
        refine m_ald (pc' := 99) cd_Mo_lying rfl (Or.inr ⟨_, rfl, rfl, rfl⟩) l0 rfl rfl ?_
        refine m_fR (r := 45) (a := 46) (ad := 1528) (pc' := 102) rfl rfl cd_Mo_lying rfl rfl rfl rfl rfl ?_
        refine m_ild (pc' := 103) cd_Mo_lying rfl (Or.inr ⟨_, rfl, rfl, rfl⟩) l3 rfl ?_
        refine m_ild (pc' := 105) cd_Mo_lying rfl (Or.inl ⟨rfl, rfl⟩) l8 rfl ?_
        refine m_aS (r := 45) (a := 46) (g := (A 46)) (p := W.length) (pc' := 106) rfl rfl cd_Mo_lying rfl rfl rfl (vp_in_nI (by omega) (by decide)) (nI_clamp (by omega)) ?_
        refine m_ald (pc' := 107) cd_Mo_lying rfl (Or.inr ⟨_, rfl, rfl, rfl⟩) l0 rfl rfl ?_
        refine m_ild (pc' := 109) cd_Mo_lying rfl (Or.inl ⟨rfl, rfl⟩) l8 rfl ?_
        refine m_cv (pc' := 112) cd_Mo_lying rfl rfl rfl rfl rfl cd_Mo_give rfl (Nat.le_of_ble_eq_true rfl) (m_give (T := T) (DL := DL) (G := fun y => G y ∨ y ∈ W) (W := Kw) (X := e.1) (by exact MT_i hM rfl rfl rfl rfl rfl rfl rfl rfl rfl rfl) t1 (fun v0 g0 hv0 hM0 => ?_))
        show mg _ _ _ 112 _ [] _ _
        have nz1 : e.1 ≠ tz := fun q => c88 ((MT_0 h0 t1).mpr q)
        have hMn0 := MT_G hM0 (fun y => gw_add (G := G) (W := W) nz1 y) (fun _ => Iff.rfl)
        have hFn0 := FLg_add (T := T) hF t1
        have hgn0 := st_add nz1 hg hv0
        have hWl0 : (W ++ [e.1]).length = W.length + 1 := by rw [List.length_append]; rfl
        refine m_inc (y := nI (W ++ [e.1]).length) (pc' := 115) cd_Mo_lying rfl l3 (by decide) (len_s1 _ _) rfl (fun lv el => ?_)
        have l0 := tm_lk el l0 rfl (by decide)
        have l1 := tm_lk el l1 rfl (by decide)
        have l2 := tm_lk el l2 rfl (by decide)
        have l4 := tm_lk el l4 rfl (by decide)
        have l5 := tm_lk el l5 rfl (by decide)
        have l6 := tm_lk el l6 rfl (by decide)
        have l7 := tm_lk el l7 rfl (by decide)
        have l8 := tm_lk el l8 rfl (by decide)
        have l3 : lv.lookup 3 = some (.int (nI (W ++ [e.1]).length)) := tm_lks el
        clear el
        refine m_inc (y := 1) (pc' := 118) cd_Mo_lying rfl l7 (by decide) (by decide) rfl (fun lv el => ?_)
        have l0 := tm_lk el l0 rfl (by decide)
        have l1 := tm_lk el l1 rfl (by decide)
        have l2 := tm_lk el l2 rfl (by decide)
        have l3 := tm_lk el l3 rfl (by decide)
        have l4 := tm_lk el l4 rfl (by decide)
        have l5 := tm_lk el l5 rfl (by decide)
        have l6 := tm_lk el l6 rfl (by decide)
        have l8 := tm_lk el l8 rfl (by decide)
        have l7 : lv.lookup 7 = some (.int 1) := tm_lks el
        clear el
        refine m_pure (pc' := 59) (st' := []) cd_Mo_lying rfl rfl (fun _ _ => rfl) ?_
        refine m_ild (pc' := 61) cd_Mo_lying rfl (Or.inl ⟨rfl, rfl⟩) l7 rfl ?_
        refine m_k1 (v := 2) (pc' := 62) cd_Mo_lying rfl (by decide) rfl ?_
        refine m_if2 (t := 121) (pc' := 65) cd_Mo_lying rfl rfl rfl (fun c62 => ?_) (fun c62 => ?_)
        · exact absurd (show (2 : Int32) ≤ 1 from c62) (by decide)
        · have c62 : ¬ (2 : Int32) ≤ 1 := c62
          refine m_ald (pc' := 66) cd_Mo_lying rfl (Or.inr ⟨_, rfl, rfl, rfl⟩) l0 rfl rfl ?_
          refine m_fR (r := 17) (a := 18) (ad := 1500) (pc' := 69) rfl rfl cd_Mo_lying rfl rfl rfl rfl rfl ?_
          refine m_k3 (v := 1200) (pc' := 72) cd_Mo_lying rfl (by decide) rfl ?_
          refine m_ild (pc' := 74) cd_Mo_lying rfl (Or.inl ⟨rfl, rfl⟩) l5 rfl ?_
          refine m_pure (pc' := 75) (st' := [.int ((1200 : Int32) * (nI (2 * p + h))), .ref 1500]) cd_Mo_lying rfl rfl (fun _ _ => rfl) ?_
          refine m_eq (show ((1200 : Int32) * (nI (2 * p + h)) : Int32) = nI (1200 * (2 * p + h)) from pk_mul 1200 (2 * p + h)) ?_
          refine m_k1 (v := 2) (pc' := 76) cd_Mo_lying rfl (by decide) rfl ?_
          refine m_ild (pc' := 78) cd_Mo_lying rfl (Or.inl ⟨rfl, rfl⟩) l6 rfl ?_
          refine m_pure (pc' := 79) (st' := [.int ((2 : Int32) * (nI i)), .int (nI (1200 * (2 * p + h))), .ref 1500]) cd_Mo_lying rfl rfl (fun _ _ => rfl) ?_
          refine m_eq (show ((2 : Int32) * (nI i) : Int32) = nI (2 * i) from pk_mul 2 i) ?_
          refine m_pure (pc' := 80) (st' := [.int ((nI (1200 * (2 * p + h))) + (nI (2 * i))), .ref 1500]) cd_Mo_lying rfl rfl (fun _ _ => rfl) ?_
          refine m_eq (show ((nI (1200 * (2 * p + h))) + (nI (2 * i)) : Int32) = nI ((1200 * (2 * p + h)) + (2 * i)) from nI_add (1200 * (2 * p + h)) (2 * i)) ?_
          refine m_ild (pc' := 82) cd_Mo_lying rfl (Or.inl ⟨rfl, rfl⟩) l7 rfl ?_
          refine m_pure (pc' := 83) (st' := [.int ((nI ((1200 * (2 * p + h)) + (2 * i))) + 1), .ref 1500]) cd_Mo_lying rfl rfl (fun _ _ => rfl) ?_
          refine m_eq (show ((nI ((1200 * (2 * p + h)) + (2 * i))) + 1 : Int32) = nI (((1200 * (2 * p + h)) + (2 * i)) + 1) from nI_add ((1200 * (2 * p + h)) + (2 * i)) 1) ?_
          refine m_aI (r := 17) (a := 18) (g := (A 18)) (x := (A0 18 (1200 * (2 * p + h) + 2 * i + 1))) (pc' := 84) rfl rfl cd_Mo_lying rfl rfl rfl (vp_in_nI (by omega) (by decide)) (by rw [(nI_clamp (by omega))]; exact congrFun (eA 18 (by decide) (by decide)) _) ?_
          refine m_ist (pc' := 86) cd_Mo_lying rfl (Or.inl ⟨rfl, rfl⟩) (by decide) rfl (fun lv el => ?_)
          have l0 := tm_lk el l0 rfl (by decide)
          have l1 := tm_lk el l1 rfl (by decide)
          have l2 := tm_lk el l2 rfl (by decide)
          have l3 := tm_lk el l3 rfl (by decide)
          have l4 := tm_lk el l4 rfl (by decide)
          have l5 := tm_lk el l5 rfl (by decide)
          have l6 := tm_lk el l6 rfl (by decide)
          have l7 := tm_lk el l7 rfl (by decide)
          have l8 : lv.lookup 8 = some (.int ((A0 18 (1200 * (2 * p + h) + 2 * i + 1)))) := tm_lks el
          clear el
          refine m_ild (pc' := 88) cd_Mo_lying rfl (Or.inl ⟨rfl, rfl⟩) l8 rfl ?_
          refine m_if1 (t := 94) (pc' := 91) cd_Mo_lying rfl rfl rfl (fun c88 => ?_) (fun c88 => ?_)
          · have c88 : ¬ (A0 18 (1200 * (2 * p + h) + 2 * i + 1)) = 0 := c88
            refine m_ild (pc' := 95) cd_Mo_lying rfl (Or.inr ⟨_, rfl, rfl, rfl⟩) l2 rfl ?_
            refine m_if1 (t := 112) (pc' := 98) cd_Mo_lying rfl rfl rfl (fun c95 => ?_) (fun c95 => ?_)
            · exact absurd (show (1 : Int32) = 0 from c95) (by decide)
            · have c95 : ¬ (1 : Int32) = 0 := c95
              refine m_ald (pc' := 99) cd_Mo_lying rfl (Or.inr ⟨_, rfl, rfl, rfl⟩) l0 rfl rfl ?_
              refine m_fR (r := 45) (a := 46) (ad := 1528) (pc' := 102) rfl rfl cd_Mo_lying rfl rfl rfl rfl rfl ?_
              refine m_ild (pc' := 103) cd_Mo_lying rfl (Or.inr ⟨_, rfl, rfl, rfl⟩) l3 rfl ?_
              refine m_ild (pc' := 105) cd_Mo_lying rfl (Or.inl ⟨rfl, rfl⟩) l8 rfl ?_
              refine m_aS (r := 45) (a := 46) (g := (upd (A 46) W.length (A0 18 (1200 * (2 * p + h) + 2 * i)))) (p := (W ++ [e.1]).length) (pc' := 106) rfl rfl cd_Mo_lying rfl rfl rfl (vp_in_nI (by omega) (by decide)) (nI_clamp (by omega)) ?_
              refine m_ald (pc' := 107) cd_Mo_lying rfl (Or.inr ⟨_, rfl, rfl, rfl⟩) l0 rfl rfl ?_
              refine m_ild (pc' := 109) cd_Mo_lying rfl (Or.inl ⟨rfl, rfl⟩) l8 rfl ?_
              refine m_cv (pc' := 112) cd_Mo_lying rfl rfl rfl rfl rfl cd_Mo_give rfl (Nat.le_of_ble_eq_true rfl) (m_give (T := T) (DL := DL) (G := fun y => G y ∨ y ∈ (W ++ [e.1])) (W := Kw) (X := e.2) (by exact MT_i hMn0 rfl rfl rfl rfl rfl rfl rfl rfl rfl rfl) t2 (fun v1 g1 hv1 hM1 => ?_))
              show mg _ _ _ 112 _ [] _ _
              have nz2 : e.2 ≠ tz := fun q => c88 ((MT_0 h0 t2).mpr q)
              have hMn1 := MT_G hM1 (fun y => gw_add (G := G) (W := (W ++ [e.1])) nz2 y) (fun _ => Iff.rfl)
              have hFn1 := FLg_add (T := T) hFn0 t2
              have hgn1 := st_add nz2 hgn0 hv1
              have hWl1 : ((W ++ [e.1]) ++ [e.2]).length = (W ++ [e.1]).length + 1 := by rw [List.length_append]; rfl
              refine m_inc (y := nI ((W ++ [e.1]) ++ [e.2]).length) (pc' := 115) cd_Mo_lying rfl l3 (by decide) (len_s1 _ _) rfl (fun lv el => ?_)
              have l0 := tm_lk el l0 rfl (by decide)
              have l1 := tm_lk el l1 rfl (by decide)
              have l2 := tm_lk el l2 rfl (by decide)
              have l4 := tm_lk el l4 rfl (by decide)
              have l5 := tm_lk el l5 rfl (by decide)
              have l6 := tm_lk el l6 rfl (by decide)
              have l7 := tm_lk el l7 rfl (by decide)
              have l8 := tm_lk el l8 rfl (by decide)
              have l3 : lv.lookup 3 = some (.int (nI ((W ++ [e.1]) ++ [e.2]).length)) := tm_lks el
              clear el
              refine m_inc (y := 2) (pc' := 118) cd_Mo_lying rfl l7 (by decide) (by decide) rfl (fun lv el => ?_)
              have l0 := tm_lk el l0 rfl (by decide)
              have l1 := tm_lk el l1 rfl (by decide)
              have l2 := tm_lk el l2 rfl (by decide)
              have l3 := tm_lk el l3 rfl (by decide)
              have l4 := tm_lk el l4 rfl (by decide)
              have l5 := tm_lk el l5 rfl (by decide)
              have l6 := tm_lk el l6 rfl (by decide)
              have l8 := tm_lk el l8 rfl (by decide)
              have l7 : lv.lookup 7 = some (.int 2) := tm_lks el
              clear el
              refine m_pure (pc' := 59) (st' := []) cd_Mo_lying rfl rfl (fun _ _ => rfl) ?_
              refine m_ild (pc' := 61) cd_Mo_lying rfl (Or.inl ⟨rfl, rfl⟩) l7 rfl ?_
              refine m_k1 (v := 2) (pc' := 62) cd_Mo_lying rfl (by decide) rfl ?_
              refine m_if2 (t := 121) (pc' := 65) cd_Mo_lying rfl rfl rfl (fun c62 => ?_) (fun c62 => ?_)
              · have c62 : (2 : Int32) ≤ 2 := c62
                have enz : W ++ nz [e.1, e.2] = ((W ++ [e.1]) ++ [e.2]) := by rw [nz_n nz1, nz_n nz2, show nz [] = [] from rfl]; try simp
                rw [enz] at kk
                exact kk _ _ lv (by exact MT_i hMn1 rfl rfl rfl rfl rfl rfl rfl rfl rfl rfl) hFn1 hgn1 (fun k k1 => (fset_ne k1).trans ((fset_ne k1).trans (ef k k1))) (fun j j1 j2 => (fset_ne j1).trans ((fset_ne j2).trans ((fset_ne j1).trans ((fset_ne j2).trans (eA j j1 j2))))) l0 l1 l2 l3 l4 l5 l6
              · exact absurd (show ¬ (2 : Int32) ≤ 2 from c62) (by decide)
          · have c88 : (A0 18 (1200 * (2 * p + h) + 2 * i + 1)) = 0 := Classical.not_not.mp c88
            refine m_pure (pc' := 115) (st' := []) cd_Mo_lying rfl rfl (fun _ _ => rfl) ?_
            refine m_inc (y := 2) (pc' := 118) cd_Mo_lying rfl l7 (by decide) (by decide) rfl (fun lv el => ?_)
            have l0 := tm_lk el l0 rfl (by decide)
            have l1 := tm_lk el l1 rfl (by decide)
            have l2 := tm_lk el l2 rfl (by decide)
            have l3 := tm_lk el l3 rfl (by decide)
            have l4 := tm_lk el l4 rfl (by decide)
            have l5 := tm_lk el l5 rfl (by decide)
            have l6 := tm_lk el l6 rfl (by decide)
            have l8 := tm_lk el l8 rfl (by decide)
            have l7 : lv.lookup 7 = some (.int 2) := tm_lks el
            clear el
            refine m_pure (pc' := 59) (st' := []) cd_Mo_lying rfl rfl (fun _ _ => rfl) ?_
            refine m_ild (pc' := 61) cd_Mo_lying rfl (Or.inl ⟨rfl, rfl⟩) l7 rfl ?_
            refine m_k1 (v := 2) (pc' := 62) cd_Mo_lying rfl (by decide) rfl ?_
            refine m_if2 (t := 121) (pc' := 65) cd_Mo_lying rfl rfl rfl (fun c62 => ?_) (fun c62 => ?_)
            · have c62 : (2 : Int32) ≤ 2 := c62
              have enz : W ++ nz [e.1, e.2] = (W ++ [e.1]) := by rw [nz_n nz1, nz_z ((MT_0 h0 t2).mp c88), show nz [] = [] from rfl]; try simp
              rw [enz] at kk
              exact kk _ _ lv (by exact MT_i hMn0 rfl rfl rfl rfl rfl rfl rfl rfl rfl rfl) hFn0 hgn0 (fun k k1 => (fset_ne k1).trans (ef k k1)) (fun j j1 j2 => (fset_ne j1).trans ((fset_ne j2).trans (eA j j1 j2))) l0 l1 l2 l3 l4 l5 l6
            · exact absurd (show ¬ (2 : Int32) ≤ 2 from c62) (by decide)
    · have c88 : (A0 18 (1200 * (2 * p + h) + 2 * i)) = 0 := Classical.not_not.mp c88
      refine m_pure (pc' := 115) (st' := []) cd_Mo_lying rfl rfl (fun _ _ => rfl) ?_
      have c88_0 := c88
      refine m_inc (y := 1) (pc' := 118) cd_Mo_lying rfl l7 (by decide) (by decide) rfl (fun lv el => ?_)
      have l0 := tm_lk el l0 rfl (by decide)
      have l1 := tm_lk el l1 rfl (by decide)
      have l2 := tm_lk el l2 rfl (by decide)
      have l3 := tm_lk el l3 rfl (by decide)
      have l4 := tm_lk el l4 rfl (by decide)
      have l5 := tm_lk el l5 rfl (by decide)
      have l6 := tm_lk el l6 rfl (by decide)
      have l8 := tm_lk el l8 rfl (by decide)
      have l7 : lv.lookup 7 = some (.int 1) := tm_lks el
      clear el
      refine m_pure (pc' := 59) (st' := []) cd_Mo_lying rfl rfl (fun _ _ => rfl) ?_
      refine m_ild (pc' := 61) cd_Mo_lying rfl (Or.inl ⟨rfl, rfl⟩) l7 rfl ?_
      refine m_k1 (v := 2) (pc' := 62) cd_Mo_lying rfl (by decide) rfl ?_
      refine m_if2 (t := 121) (pc' := 65) cd_Mo_lying rfl rfl rfl (fun c62 => ?_) (fun c62 => ?_)
      · exact absurd (show (2 : Int32) ≤ 1 from c62) (by decide)
      · have c62 : ¬ (2 : Int32) ≤ 1 := c62
        refine m_ald (pc' := 66) cd_Mo_lying rfl (Or.inr ⟨_, rfl, rfl, rfl⟩) l0 rfl rfl ?_
        refine m_fR (r := 17) (a := 18) (ad := 1500) (pc' := 69) rfl rfl cd_Mo_lying rfl rfl rfl rfl rfl ?_
        refine m_k3 (v := 1200) (pc' := 72) cd_Mo_lying rfl (by decide) rfl ?_
        refine m_ild (pc' := 74) cd_Mo_lying rfl (Or.inl ⟨rfl, rfl⟩) l5 rfl ?_
        refine m_pure (pc' := 75) (st' := [.int ((1200 : Int32) * (nI (2 * p + h))), .ref 1500]) cd_Mo_lying rfl rfl (fun _ _ => rfl) ?_
        refine m_eq (show ((1200 : Int32) * (nI (2 * p + h)) : Int32) = nI (1200 * (2 * p + h)) from pk_mul 1200 (2 * p + h)) ?_
        refine m_k1 (v := 2) (pc' := 76) cd_Mo_lying rfl (by decide) rfl ?_
        refine m_ild (pc' := 78) cd_Mo_lying rfl (Or.inl ⟨rfl, rfl⟩) l6 rfl ?_
        refine m_pure (pc' := 79) (st' := [.int ((2 : Int32) * (nI i)), .int (nI (1200 * (2 * p + h))), .ref 1500]) cd_Mo_lying rfl rfl (fun _ _ => rfl) ?_
        refine m_eq (show ((2 : Int32) * (nI i) : Int32) = nI (2 * i) from pk_mul 2 i) ?_
        refine m_pure (pc' := 80) (st' := [.int ((nI (1200 * (2 * p + h))) + (nI (2 * i))), .ref 1500]) cd_Mo_lying rfl rfl (fun _ _ => rfl) ?_
        refine m_eq (show ((nI (1200 * (2 * p + h))) + (nI (2 * i)) : Int32) = nI ((1200 * (2 * p + h)) + (2 * i)) from nI_add (1200 * (2 * p + h)) (2 * i)) ?_
        refine m_ild (pc' := 82) cd_Mo_lying rfl (Or.inl ⟨rfl, rfl⟩) l7 rfl ?_
        refine m_pure (pc' := 83) (st' := [.int ((nI ((1200 * (2 * p + h)) + (2 * i))) + 1), .ref 1500]) cd_Mo_lying rfl rfl (fun _ _ => rfl) ?_
        refine m_eq (show ((nI ((1200 * (2 * p + h)) + (2 * i))) + 1 : Int32) = nI (((1200 * (2 * p + h)) + (2 * i)) + 1) from nI_add ((1200 * (2 * p + h)) + (2 * i)) 1) ?_
        refine m_aI (r := 17) (a := 18) (g := (A 18)) (x := (A0 18 (1200 * (2 * p + h) + 2 * i + 1))) (pc' := 84) rfl rfl cd_Mo_lying rfl rfl rfl (vp_in_nI (by omega) (by decide)) (by rw [(nI_clamp (by omega))]; exact congrFun (eA 18 (by decide) (by decide)) _) ?_
        refine m_ist (pc' := 86) cd_Mo_lying rfl (Or.inl ⟨rfl, rfl⟩) (by decide) rfl (fun lv el => ?_)
        have l0 := tm_lk el l0 rfl (by decide)
        have l1 := tm_lk el l1 rfl (by decide)
        have l2 := tm_lk el l2 rfl (by decide)
        have l3 := tm_lk el l3 rfl (by decide)
        have l4 := tm_lk el l4 rfl (by decide)
        have l5 := tm_lk el l5 rfl (by decide)
        have l6 := tm_lk el l6 rfl (by decide)
        have l7 := tm_lk el l7 rfl (by decide)
        have l8 : lv.lookup 8 = some (.int ((A0 18 (1200 * (2 * p + h) + 2 * i + 1)))) := tm_lks el
        clear el
        refine m_ild (pc' := 88) cd_Mo_lying rfl (Or.inl ⟨rfl, rfl⟩) l8 rfl ?_
        refine m_if1 (t := 94) (pc' := 91) cd_Mo_lying rfl rfl rfl (fun c88 => ?_) (fun c88 => ?_)
        · have c88 : ¬ (A0 18 (1200 * (2 * p + h) + 2 * i + 1)) = 0 := c88
          refine m_ild (pc' := 95) cd_Mo_lying rfl (Or.inr ⟨_, rfl, rfl, rfl⟩) l2 rfl ?_
          refine m_if1 (t := 112) (pc' := 98) cd_Mo_lying rfl rfl rfl (fun c95 => ?_) (fun c95 => ?_)
          · exact absurd (show (1 : Int32) = 0 from c95) (by decide)
          · have c95 : ¬ (1 : Int32) = 0 := c95
            refine m_ald (pc' := 99) cd_Mo_lying rfl (Or.inr ⟨_, rfl, rfl, rfl⟩) l0 rfl rfl ?_
            refine m_fR (r := 45) (a := 46) (ad := 1528) (pc' := 102) rfl rfl cd_Mo_lying rfl rfl rfl rfl rfl ?_
            refine m_ild (pc' := 103) cd_Mo_lying rfl (Or.inr ⟨_, rfl, rfl, rfl⟩) l3 rfl ?_
            refine m_ild (pc' := 105) cd_Mo_lying rfl (Or.inl ⟨rfl, rfl⟩) l8 rfl ?_
            refine m_aS (r := 45) (a := 46) (g := (A 46)) (p := W.length) (pc' := 106) rfl rfl cd_Mo_lying rfl rfl rfl (vp_in_nI (by omega) (by decide)) (nI_clamp (by omega)) ?_
            refine m_ald (pc' := 107) cd_Mo_lying rfl (Or.inr ⟨_, rfl, rfl, rfl⟩) l0 rfl rfl ?_
            refine m_ild (pc' := 109) cd_Mo_lying rfl (Or.inl ⟨rfl, rfl⟩) l8 rfl ?_
            refine m_cv (pc' := 112) cd_Mo_lying rfl rfl rfl rfl rfl cd_Mo_give rfl (Nat.le_of_ble_eq_true rfl) (m_give (T := T) (DL := DL) (G := fun y => G y ∨ y ∈ W) (W := Kw) (X := e.2) (by exact MT_i hM rfl rfl rfl rfl rfl rfl rfl rfl rfl rfl) t2 (fun v1 g1 hv1 hM1 => ?_))
            show mg _ _ _ 112 _ [] _ _
            have nz2 : e.2 ≠ tz := fun q => c88 ((MT_0 h0 t2).mpr q)
            have hMn1 := MT_G hM1 (fun y => gw_add (G := G) (W := W) nz2 y) (fun _ => Iff.rfl)
            have hFn1 := FLg_add (T := T) hF t2
            have hgn1 := st_add nz2 hg hv1
            have hWl1 : (W ++ [e.2]).length = W.length + 1 := by rw [List.length_append]; rfl
            refine m_inc (y := nI (W ++ [e.2]).length) (pc' := 115) cd_Mo_lying rfl l3 (by decide) (len_s1 _ _) rfl (fun lv el => ?_)
            have l0 := tm_lk el l0 rfl (by decide)
            have l1 := tm_lk el l1 rfl (by decide)
            have l2 := tm_lk el l2 rfl (by decide)
            have l4 := tm_lk el l4 rfl (by decide)
            have l5 := tm_lk el l5 rfl (by decide)
            have l6 := tm_lk el l6 rfl (by decide)
            have l7 := tm_lk el l7 rfl (by decide)
            have l8 := tm_lk el l8 rfl (by decide)
            have l3 : lv.lookup 3 = some (.int (nI (W ++ [e.2]).length)) := tm_lks el
            clear el
            refine m_inc (y := 2) (pc' := 118) cd_Mo_lying rfl l7 (by decide) (by decide) rfl (fun lv el => ?_)
            have l0 := tm_lk el l0 rfl (by decide)
            have l1 := tm_lk el l1 rfl (by decide)
            have l2 := tm_lk el l2 rfl (by decide)
            have l3 := tm_lk el l3 rfl (by decide)
            have l4 := tm_lk el l4 rfl (by decide)
            have l5 := tm_lk el l5 rfl (by decide)
            have l6 := tm_lk el l6 rfl (by decide)
            have l8 := tm_lk el l8 rfl (by decide)
            have l7 : lv.lookup 7 = some (.int 2) := tm_lks el
            clear el
            refine m_pure (pc' := 59) (st' := []) cd_Mo_lying rfl rfl (fun _ _ => rfl) ?_
            refine m_ild (pc' := 61) cd_Mo_lying rfl (Or.inl ⟨rfl, rfl⟩) l7 rfl ?_
            refine m_k1 (v := 2) (pc' := 62) cd_Mo_lying rfl (by decide) rfl ?_
            refine m_if2 (t := 121) (pc' := 65) cd_Mo_lying rfl rfl rfl (fun c62 => ?_) (fun c62 => ?_)
            · have c62 : (2 : Int32) ≤ 2 := c62
              have enz : W ++ nz [e.1, e.2] = (W ++ [e.2]) := by rw [nz_z ((MT_0 h0 t1).mp c88_0), nz_n nz2, show nz [] = [] from rfl]; try simp
              rw [enz] at kk
              exact kk _ _ lv (by exact MT_i hMn1 rfl rfl rfl rfl rfl rfl rfl rfl rfl rfl) hFn1 hgn1 (fun k k1 => (fset_ne k1).trans (ef k k1)) (fun j j1 j2 => (fset_ne j1).trans ((fset_ne j2).trans (eA j j1 j2))) l0 l1 l2 l3 l4 l5 l6
            · exact absurd (show ¬ (2 : Int32) ≤ 2 from c62) (by decide)
        · have c88 : (A0 18 (1200 * (2 * p + h) + 2 * i + 1)) = 0 := Classical.not_not.mp c88
          refine m_pure (pc' := 115) (st' := []) cd_Mo_lying rfl rfl (fun _ _ => rfl) ?_
          refine m_inc (y := 2) (pc' := 118) cd_Mo_lying rfl l7 (by decide) (by decide) rfl (fun lv el => ?_)
          have l0 := tm_lk el l0 rfl (by decide)
          have l1 := tm_lk el l1 rfl (by decide)
          have l2 := tm_lk el l2 rfl (by decide)
          have l3 := tm_lk el l3 rfl (by decide)
          have l4 := tm_lk el l4 rfl (by decide)
          have l5 := tm_lk el l5 rfl (by decide)
          have l6 := tm_lk el l6 rfl (by decide)
          have l8 := tm_lk el l8 rfl (by decide)
          have l7 : lv.lookup 7 = some (.int 2) := tm_lks el
          clear el
          refine m_pure (pc' := 59) (st' := []) cd_Mo_lying rfl rfl (fun _ _ => rfl) ?_
          refine m_ild (pc' := 61) cd_Mo_lying rfl (Or.inl ⟨rfl, rfl⟩) l7 rfl ?_
          refine m_k1 (v := 2) (pc' := 62) cd_Mo_lying rfl (by decide) rfl ?_
          refine m_if2 (t := 121) (pc' := 65) cd_Mo_lying rfl rfl rfl (fun c62 => ?_) (fun c62 => ?_)
          · have c62 : (2 : Int32) ≤ 2 := c62
            have enz : W ++ nz [e.1, e.2] = W := by rw [nz_z ((MT_0 h0 t1).mp c88_0), nz_z ((MT_0 h0 t2).mp c88), show nz [] = [] from rfl]; try simp
            rw [enz] at kk
            exact kk _ _ lv (by exact MT_i hM rfl rfl rfl rfl rfl rfl rfl rfl rfl rfl) hF hg (fun k k1 => ef k k1) (fun j j1 j2 => eA j j1 j2) l0 l1 l2 l3 l4 l5 l6
          · exact absurd (show ¬ (2 : Int32) ≤ 2 from c62) (by decide)
set_option maxRecDepth 100000 in
theorem l_lyR1 {sc : tm_X} {d : Nat} {f0 : Nat → Int32} {A0 : Nat → Nat → Int32} {T : List Tm} {DL : List (Int32 × Int32)} {G Kw : Tm → Prop} {p h lo hi : Nat} {x4 : Int32} {L : EN2} {Q : Option Value → MS → Prop} (h0 : MT f0 A0 T DL G Kw) (hp : p < 6) (hh : h < 2) (hq : qHf A0 T (2 * p + h) L lo hi) : ∀ (R : EN2) (i : Nat) (W : List Tm), L.drop i = R → i ≤ 536 → W.length + 2 * R.length ≤ 2144 → (∀ f A (lv : tm_L), MT f A T DL (fun y => G y ∨ y ∈ W ++ nz (fl (vis lo hi i R))) Kw → FLg (A 46) T (W ++ nz (fl (vis lo hi i R))) 0 → (f 16 = 1 ∨ (f 16 = f0 16 ∧ ∀ y, y ∈ W ++ nz (fl (vis lo hi i R)) → G y)) → (∀ k, k ≠ 16 → f k = f0 k) → (∀ j, j ≠ 5 → j ≠ 46 → A j = A0 j) →  lv.lookup 0 = some (.ref 1482) → lv.lookup 1 = some (.int (nI p)) → lv.lookup 2 = some (.int 1) → lv.lookup 3 = some (.int (nI (W ++ nz (fl (vis lo hi i R))).length)) → lv.lookup 4 = some (.int x4) → lv.lookup 5 = some (.int (nI (2 * p + h))) → mg sc (d + 1) 266 127 lv [] (f, A) Q) → ∀ f A (lv : tm_L), MT f A T DL (fun y => G y ∨ y ∈ W) Kw → FLg (A 46) T (W) 0 → (f 16 = 1 ∨ (f 16 = f0 16 ∧ ∀ y, y ∈ W → G y)) → (∀ k, k ≠ 16 → f k = f0 k) → (∀ j, j ≠ 5 → j ≠ 46 → A j = A0 j) →  lv.lookup 0 = some (.ref 1482) → lv.lookup 1 = some (.int (nI p)) → lv.lookup 2 = some (.int 1) → lv.lookup 3 = some (.int (nI W.length)) → lv.lookup 4 = some (.int x4) → lv.lookup 5 = some (.int (nI (2 * p + h))) → lv.lookup 6 = some (.int (nI i)) → mg sc (d + 1) 266 22 lv [] (f, A) Q := by
  have h20 := hq.1.1
  have hL := hq.1.2.1
  intro R
  induction R with
  | nil =>
    intro i W hR hi5 hW kk f A lv hM hF hg ef eA l0 l1 l2 l3 l4 l5 l6
    have hd := drop_n hR
    refine m_ild (pc' := 24) cd_Mo_lying rfl (Or.inl ⟨rfl, rfl⟩) l6 rfl ?_
    refine m_ald (pc' := 25) cd_Mo_lying rfl (Or.inr ⟨_, rfl, rfl, rfl⟩) l0 rfl rfl ?_
    refine m_fR (r := 19) (a := 20) (ad := 1502) (pc' := 28) rfl rfl cd_Mo_lying rfl rfl rfl rfl rfl ?_
    refine m_ild (pc' := 30) cd_Mo_lying rfl (Or.inl ⟨rfl, rfl⟩) l5 rfl ?_
    refine m_aI (r := 19) (a := 20) (g := (A 20)) (x := nI L.length) (pc' := 31) rfl rfl cd_Mo_lying rfl rfl rfl (vp_in_nI (by omega) (by decide)) (by rw [(nI_clamp (by omega)), eA 20 (by decide) (by decide)]; exact h20) ?_
    refine m_if2 (t := 127) (pc' := 34) cd_Mo_lying rfl rfl rfl (fun c31 => ?_) (fun c31 => ?_)
    · have c31 : (nI L.length) ≤ (nI i) := c31
      have e0 : W ++ nz (fl (vis lo hi i [])) = W := by simp [vis, fl, nz]
      rw [e0] at kk
      exact kk _ _ lv hM hF hg ef eA l0 l1 l2 l3 l4 l5
    · have c31 : ¬ (nI L.length) ≤ (nI i) := c31
      exact absurd (nI_le hd (by omega)) c31
  | cons e R ih =>
    intro i W hR hi5 hW kk f A lv hM hF hg ef eA l0 l1 l2 l3 l4 l5 l6
    obtain ⟨he, hR2, hil⟩ := drop_c hR
    rw [List.length_cons] at hW
    refine m_ild (pc' := 24) cd_Mo_lying rfl (Or.inl ⟨rfl, rfl⟩) l6 rfl ?_
    refine m_ald (pc' := 25) cd_Mo_lying rfl (Or.inr ⟨_, rfl, rfl, rfl⟩) l0 rfl rfl ?_
    refine m_fR (r := 19) (a := 20) (ad := 1502) (pc' := 28) rfl rfl cd_Mo_lying rfl rfl rfl rfl rfl ?_
    refine m_ild (pc' := 30) cd_Mo_lying rfl (Or.inl ⟨rfl, rfl⟩) l5 rfl ?_
    refine m_aI (r := 19) (a := 20) (g := (A 20)) (x := nI L.length) (pc' := 31) rfl rfl cd_Mo_lying rfl rfl rfl (vp_in_nI (by omega) (by decide)) (by rw [(nI_clamp (by omega)), eA 20 (by decide) (by decide)]; exact h20) ?_
    refine m_if2 (t := 127) (pc' := 34) cd_Mo_lying rfl rfl rfl (fun c31 => ?_) (fun c31 => ?_)
    · have c31 : (nI L.length) ≤ (nI i) := c31
      exact absurd c31 (nI_ge hil (by omega))
    · have c31 : ¬ (nI L.length) ≤ (nI i) := c31
      refine m_ald (pc' := 35) cd_Mo_lying rfl (Or.inr ⟨_, rfl, rfl, rfl⟩) l0 rfl rfl ?_
      refine m_fR (r := 18) (a := 19) (ad := 1501) (pc' := 38) rfl rfl cd_Mo_lying rfl rfl rfl rfl rfl ?_
      refine m_k2 (v := 75) (pc' := 40) cd_Mo_lying rfl (by decide) rfl ?_
      refine m_ild (pc' := 42) cd_Mo_lying rfl (Or.inl ⟨rfl, rfl⟩) l5 rfl ?_
      refine m_pure (pc' := 43) (st' := [.int ((75 : Int32) * (nI (2 * p + h))), .ref 1501]) cd_Mo_lying rfl rfl (fun _ _ => rfl) ?_
      refine m_eq (show ((75 : Int32) * (nI (2 * p + h)) : Int32) = nI (75 * (2 * p + h)) from pk_mul 75 (2 * p + h)) ?_
      refine m_ild (pc' := 45) cd_Mo_lying rfl (Or.inl ⟨rfl, rfl⟩) l6 rfl ?_
      refine m_k2 (v := 8) (pc' := 47) cd_Mo_lying rfl (by decide) rfl ?_
      refine m_div (z := nI (i / 8)) (pc' := 48) cd_Mo_lying rfl rfl (by decide) (nI_div i 8 (by omega) (by decide) (by decide)) ?_
      refine m_pure (pc' := 49) (st' := [.int ((nI (75 * (2 * p + h))) + (nI (i / 8))), .ref 1501]) cd_Mo_lying rfl rfl (fun _ _ => rfl) ?_
      refine m_eq (show ((nI (75 * (2 * p + h))) + (nI (i / 8)) : Int32) = nI ((75 * (2 * p + h)) + (i / 8)) from nI_add (75 * (2 * p + h)) (i / 8)) ?_
      refine m_bI (r := 18) (a := 19) (g := (A 19)) (x := bz (decide (lo ≤ i / 8 ∧ i / 8 < hi))) (pc' := 50) rfl rfl cd_Mo_lying rfl rfl rfl (vp_in_nI (by omega) (by decide)) (by rw [(nI_clamp (by omega)), eA 19 (by decide) (by decide)]; exact hq.2.1 (i / 8) (by omega)) ?_
      refine m_if1 (t := 56) (pc' := 53) cd_Mo_lying rfl rfl rfl (fun c50 => ?_) (fun c50 => ?_)
      · have c50 : (decide (lo ≤ i / 8 ∧ i / 8 < hi)) = true := bz_t c50
        have cv := of_decide_eq_true c50
        have t12 := hq.2.2 i e he (by omega)
        have ev : W ++ nz (fl (vis lo hi i (e :: R))) = (W ++ nz [e.1, e.2]) ++ nz (fl (vis lo hi (i + 1) R)) := by
          show W ++ nz (fl ((if lo ≤ i / 8 ∧ i / 8 < hi then [e] else []) ++ vis lo hi (i + 1) R)) = _
          rw [if_pos cv, fl_app, nz_app, List.append_assoc]
          rfl
        rw [ev] at kk
        refine l_lyE1 h0 hp hh (by omega) t12.1 t12.2 (by omega) (fun f A lv hM hF hg ef eA l0 l1 l2 l3 l4 l5 l6 => ?_) _ _ lv hM hF hg ef eA l0 l1 l2 l3 l4 l5 l6
        refine m_inc (y := nI (i + 1)) (pc' := 124) cd_Mo_lying rfl l6 (by decide) (nI_add i 1) rfl (fun lv el => ?_)
        have l0 := tm_lk el l0 rfl (by decide)
        have l1 := tm_lk el l1 rfl (by decide)
        have l2 := tm_lk el l2 rfl (by decide)
        have l3 := tm_lk el l3 rfl (by decide)
        have l4 := tm_lk el l4 rfl (by decide)
        have l5 := tm_lk el l5 rfl (by decide)
        have l6 : lv.lookup 6 = some (.int (nI (i + 1))) := tm_lks el
        clear el
        refine m_pure (pc' := 22) (st' := []) cd_Mo_lying rfl rfl (fun _ _ => rfl) ?_
        refine ih (i + 1) (W ++ nz [e.1, e.2]) hR2 (by omega) (by have q := nzfl_len [e]; simp only [List.length_append]; have q2 : (nz [e.1, e.2]).length ≤ 2 := q; omega) kk _ _ lv hM hF hg ef eA l0 l1 l2 l3 l4 l5 l6
      · have c50 : (decide (lo ≤ i / 8 ∧ i / 8 < hi)) = false := bz_f (Classical.not_not.mp c50)
        refine m_pure (pc' := 121) (st' := []) cd_Mo_lying rfl rfl (fun _ _ => rfl) ?_
        refine m_inc (y := nI (i + 1)) (pc' := 124) cd_Mo_lying rfl l6 (by decide) (nI_add i 1) rfl (fun lv el => ?_)
        have l0 := tm_lk el l0 rfl (by decide)
        have l1 := tm_lk el l1 rfl (by decide)
        have l2 := tm_lk el l2 rfl (by decide)
        have l3 := tm_lk el l3 rfl (by decide)
        have l4 := tm_lk el l4 rfl (by decide)
        have l5 := tm_lk el l5 rfl (by decide)
        have l6 : lv.lookup 6 = some (.int (nI (i + 1))) := tm_lks el
        clear el
        refine m_pure (pc' := 22) (st' := []) cd_Mo_lying rfl rfl (fun _ _ => rfl) ?_
        have ev : vis lo hi i (e :: R) = vis lo hi (i + 1) R := by show (if lo ≤ i / 8 ∧ i / 8 < hi then [e] else []) ++ _ = _; rw [if_neg (of_decide_eq_false c50)]; rfl
        rw [ev] at kk
        exact ih (i + 1) W hR2 (by omega) (by omega) kk _ _ lv hM hF hg ef eA l0 l1 l2 l3 l4 l5 l6
