/-! Store: what lies there -/
def fl (L : EN2) : List Tm := L.flatMap fun e => [e.1, e.2]
def nz (l : List Tm) : List Tm := l.filter fun A => !tnil A
def st_l0 (S : ST) : EN2 := if S.1 = true then S.2.2.1 else S.2.1
def st_l1 (S : ST) : EN2 := if S.1 = true then S.2.1 else S.2.2.1
def st_terms (S : ST) : List Tm := nz (fl (st_l0 S)) ++ nz (fl (st_l1 S))
theorem fl_len (L : EN2) : (fl L).length = 2 * L.length := by
  induction L with
  | nil => rfl
  | cons e L ih =>
    show (e.1 :: e.2 :: fl L).length = _
    simp [ih]; omega
theorem nz_le (l : List Tm) : (nz l).length ≤ l.length := List.length_filter_le _ _
theorem nz_z {A : Tm} {l : List Tm} (h : A = tz) : nz (A :: l) = nz l := by
  unfold nz
  rw [List.filter_cons_of_neg]
  rw [tnil_iff.mpr h]; decide
theorem nz_n {A : Tm} {l : List Tm} (h : A ≠ tz) : nz (A :: l) = A :: nz l := by
  unfold nz
  rw [List.filter_cons_of_pos]
  have : tnil A = false := Bool.eq_false_iff.mpr (fun q => h (tnil_iff.mp q))
  rw [this]; rfl
def FLg (g : Nat → Int32) (T : List Tm) (R : List Tm) (i : Nat) : Prop := ∀ (j : Nat) (A : Tm), R[j]? = some A → tv T (g (i + j)) A
theorem EN_fl {g : Nat → Int32} {T : List Tm} : ∀ {L : EN2} {f : Nat}, EN g T L f → FLg g T (fl L) (2 * f)
  | [], f, _ => fun j A h => by simp [fl] at h
  | e :: L, f, h => fun j A hj => by
    have h0 := h 0 e rfl
    have ih := EN_fl (L := L) (f := f + 1) (fun i x hx => by have := h (i + 1) x hx; rw [show f + 1 + i = f + (i + 1) by omega]; exact this)
    have hj' : (e.1 :: e.2 :: fl L)[j]? = some A := hj
    rcases j with _ | _ | j
    · cases hj'; exact h0.1
    · cases hj'; exact h0.2
    · have := ih j A (by simpa using hj')
      rw [show 2 * f + (j + 1 + 1) = 2 * (f + 1) + j by omega]
      exact this
theorem FL_tail {g : Nat → Int32} {T : List Tm} {A : Tm} {R : List Tm} {i : Nat} (h : FLg g T (A :: R) i) : tv T (g i) A ∧ FLg g T R (i + 1) := ⟨h 0 A rfl, fun j C hj => by have := h (j + 1) C (by simpa using hj); rw [show i + 1 + j = i + (j + 1) by omega]; exact this⟩
theorem RSt_h0 {B : bm_H} {T : List Tm} {sa : Nat} {S : ST} (h : RSt B T sa S) : ∃ f, bm_AI B (sa + 4) 0 = nI f ∧ bm_AI B (sa + 5) 0 = nI (f + (st_l0 S).length) ∧ f + (st_l0 S).length ≤ 536 ∧ EN (bm_AI B (sa + 2)) T (st_l0 S) f := by
  obtain ⟨p, P, O, c, dn⟩ := S
  cases p
  · exact ⟨0, h.2.2.1.1, by rw [Nat.zero_add]; exact h.2.2.1.2.1, by rw [Nat.zero_add]; exact h.2.2.1.2.2.1, h.2.2.1.2.2.2⟩
  · obtain ⟨f, h1, h2, h3, h4⟩ := h.2.2.2
    exact ⟨f, h1, h2, h3, h4⟩
theorem RSt_h1 {B : bm_H} {T : List Tm} {sa : Nat} {S : ST} (h : RSt B T sa S) : ∃ f, bm_AI B (sa + 4) 1 = nI f ∧ bm_AI B (sa + 5) 1 = nI (f + (st_l1 S).length) ∧ f + (st_l1 S).length ≤ 536 ∧ EN (bm_AI B (sa + 3)) T (st_l1 S) f := by
  obtain ⟨p, P, O, c, dn⟩ := S
  cases p
  · obtain ⟨f, h1, h2, h3, h4⟩ := h.2.2.2
    exact ⟨f, h1, h2, h3, h4⟩
  · exact ⟨0, h.2.2.1.1, by rw [Nat.zero_add]; exact h.2.2.1.2.1, by rw [Nat.zero_add]; exact h.2.2.1.2.2.1, h.2.2.1.2.2.2⟩
theorem RSt_S {B : bm_H} {T : List Tm} {sa : Nat} {S : ST} (h : RSt B T sa S) : StS B sa ∧ StA B sa := by
  obtain ⟨p, P, O, c, dn⟩ := S
  exact h.1
theorem l_ly0 {sc : tm_X} {d sa t : Nat} {B : bm_H} {T : List Tm} {Q : Option Value → bm_H → Prop} (h0 : T0 T) (hS : StS B sa) (hA : StA B sa) (ht : bm_AI B (sa + 5) 0 = nI t) (ht5 : t ≤ 536) : ∀ (R : List Tm) (i c : Nat), FLg (bm_AI B (sa + 2)) T R i → i + R.length = 2 * t → c + R.length ≤ 5000 → (∀ lv2 : tm_L, lv2.lookup 0 = some (.ref sa) → lv2.lookup 1 = some (.int (nI (c + (nz R).length))) → lv2.lookup 2 = some (.int 0) → bm_G sc d 164 50 lv2 [] B Q) → ∀ lv : tm_L, lv.lookup 0 = some (.ref sa) → lv.lookup 1 = some (.int (nI c)) → lv.lookup 2 = some (.int 0) → lv.lookup 3 = some (.int (nI i)) → bm_G sc d 164 18 lv [] B Q := by
  intro R
  induction R with
  | nil =>
    intro i c hg hi hc kk lv l0 l1 l2 l3
    simp at hi
    refine g_ild (pc' := 19) cd_St_termsLying rfl (Or.inr ⟨_, rfl, rfl, rfl⟩) l3 rfl ?_
    refine g_k1 (v := 2) (pc' := 20) cd_St_termsLying rfl (by decide) rfl ?_
    refine g_ald (pc' := 21) cd_St_termsLying rfl (Or.inr ⟨_, rfl, rfl, rfl⟩) l0 rfl rfl ?_
    refine g_fR (c := 8) (k := 2) (x := (sa + 5)) (pc' := 24) cd_St_termsLying rfl rfl rfl rfl rfl (by decide) hS.1.1 hS.1.2 hS.2.2.2.1 ?_
    refine g_ild (pc' := 25) cd_St_termsLying rfl (Or.inr ⟨_, rfl, rfl, rfl⟩) l2 rfl ?_
    refine g_aI (x := nI t) (pc' := 26) cd_St_termsLying rfl rfl hS.2.2.2.2.2.2.2.2.1 hS.2.2.2.2.2.2.2.2.2.1 (by rw [show bm_AL B (sa + 5) = 2 from hS.2.2.2.2.2.2.2.2.2.2]; exact vp_in_nI (n := 0) (by decide) (by decide)) ht ?_
    refine g_pure (pc' := 27) (st' := [.int (2 * (nI t)), .int (nI i)]) cd_St_termsLying rfl rfl (fun _ _ => rfl) ?_
    rw [show (2 * (nI t) : Int32) = nI (2 * t) from pk_mul 2 t]
    refine g_if2 (t := 50) (pc' := 30) cd_St_termsLying rfl rfl rfl (fun c27 => ?_) (fun c27 => ?_)
    · have c27 : (nI (2 * t)) ≤ (nI i) := c27
      exact kk lv l0 l1 l2
    · have c27 : ¬ (nI (2 * t)) ≤ (nI i) := c27
      exact absurd (nI_le (a := 2 * t) (b := i) (by omega) (by omega)) c27
  | cons A R ih =>
    intro i c hg hi hc kk lv l0 l1 l2 l3
    simp at hi
    obtain ⟨h1, h2⟩ := FL_tail hg
    refine g_ild (pc' := 19) cd_St_termsLying rfl (Or.inr ⟨_, rfl, rfl, rfl⟩) l3 rfl ?_
    refine g_k1 (v := 2) (pc' := 20) cd_St_termsLying rfl (by decide) rfl ?_
    refine g_ald (pc' := 21) cd_St_termsLying rfl (Or.inr ⟨_, rfl, rfl, rfl⟩) l0 rfl rfl ?_
    refine g_fR (c := 8) (k := 2) (x := (sa + 5)) (pc' := 24) cd_St_termsLying rfl rfl rfl rfl rfl (by decide) hS.1.1 hS.1.2 hS.2.2.2.1 ?_
    refine g_ild (pc' := 25) cd_St_termsLying rfl (Or.inr ⟨_, rfl, rfl, rfl⟩) l2 rfl ?_
    refine g_aI (x := nI t) (pc' := 26) cd_St_termsLying rfl rfl hS.2.2.2.2.2.2.2.2.1 hS.2.2.2.2.2.2.2.2.2.1 (by rw [show bm_AL B (sa + 5) = 2 from hS.2.2.2.2.2.2.2.2.2.2]; exact vp_in_nI (n := 0) (by decide) (by decide)) ht ?_
    refine g_pure (pc' := 27) (st' := [.int (2 * (nI t)), .int (nI i)]) cd_St_termsLying rfl rfl (fun _ _ => rfl) ?_
    rw [show (2 * (nI t) : Int32) = nI (2 * t) from pk_mul 2 t]
    refine g_if2 (t := 50) (pc' := 30) cd_St_termsLying rfl rfl rfl (fun c27 => ?_) (fun c27 => ?_)
    · have c27 : (nI (2 * t)) ≤ (nI i) := c27
      exact absurd c27 (nI_ge (a := i) (b := 2 * t) (by omega) (by omega))
    · have c27 : ¬ (nI (2 * t)) ≤ (nI i) := c27
      refine g_ald (pc' := 31) cd_St_termsLying rfl (Or.inr ⟨_, rfl, rfl, rfl⟩) l0 rfl rfl ?_
      refine g_fR (c := 8) (k := 0) (x := (sa + 1)) (pc' := 34) cd_St_termsLying rfl rfl rfl rfl rfl (by decide) hS.1.1 hS.1.2 hS.2.1 ?_
      refine g_ild (pc' := 35) cd_St_termsLying rfl (Or.inr ⟨_, rfl, rfl, rfl⟩) l2 rfl ?_
      refine g_aR (t := 8) (x := (sa + 2)) (pc' := 36) cd_St_termsLying rfl rfl hS.2.2.2.2.1.1 hS.2.2.2.2.1.2.1 (by decide) rfl rfl (by rw [show bm_AL B (sa + 1) = 2 from hS.2.2.2.2.1.2.2]; exact vp_in_nI (n := 0) (by decide) (by decide)) (show bm_AR B (sa + 1) 0 = some (sa + 2) from hA.1) ?_
      refine g_ild (pc' := 37) cd_St_termsLying rfl (Or.inr ⟨_, rfl, rfl, rfl⟩) l3 rfl ?_
      refine g_aI (x := (bm_AI B (sa + 2) i)) (pc' := 38) cd_St_termsLying rfl rfl hS.2.2.2.2.2.1.1 hS.2.2.2.2.2.1.2.1 (by rw [show bm_AL B (sa + 2) = 1072 from hS.2.2.2.2.2.1.2.2]; exact vp_in_nI (by omega) (by decide)) (congrArg (bm_AI B (sa + 2)) (nI_clamp (by omega))) ?_
      refine g_if1 (t := 44) (pc' := 41) cd_St_termsLying rfl rfl rfl (fun c38 => ?_) (fun c38 => ?_)
      · have c38 : (bm_AI B (sa + 2) i) = 0 := c38
        refine g_inc (y := nI (i + 1)) (pc' := 47) cd_St_termsLying rfl l3 (by decide) (nI_add i 1) rfl (fun lv el => ?_)
        have l0 := tm_lk el l0 rfl (by decide)
        have l1 := tm_lk el l1 rfl (by decide)
        have l2 := tm_lk el l2 rfl (by decide)
        have l3 : lv.lookup 3 = some (.int (nI (i + 1))) := tm_lks el
        clear el
        refine g_pure (pc' := 18) (st' := []) cd_St_termsLying rfl rfl (fun _ _ => rfl) ?_
        exact ih (i + 1) c h2 (by omega) (by simp at hc; omega) (fun lv2 q0 q1 q2 => kk lv2 q0 (by rw [nz_z ((h0.2 _ _ h1).mp c38)]; exact q1) q2) lv l0 l1 l2 l3
      · have c38 : ¬ (bm_AI B (sa + 2) i) = 0 := c38
        refine g_inc (y := nI (c + 1)) (pc' := 44) cd_St_termsLying rfl l1 (by decide) (nI_add c 1) rfl (fun lv el => ?_)
        have l0 := tm_lk el l0 rfl (by decide)
        have l2 := tm_lk el l2 rfl (by decide)
        have l3 := tm_lk el l3 rfl (by decide)
        have l1 : lv.lookup 1 = some (.int (nI (c + 1))) := tm_lks el
        clear el
        refine g_inc (y := nI (i + 1)) (pc' := 47) cd_St_termsLying rfl l3 (by decide) (nI_add i 1) rfl (fun lv el => ?_)
        have l0 := tm_lk el l0 rfl (by decide)
        have l1 := tm_lk el l1 rfl (by decide)
        have l2 := tm_lk el l2 rfl (by decide)
        have l3 : lv.lookup 3 = some (.int (nI (i + 1))) := tm_lks el
        clear el
        refine g_pure (pc' := 18) (st' := []) cd_St_termsLying rfl rfl (fun _ _ => rfl) ?_
        exact ih (i + 1) (c + 1) h2 (by omega) (by simp at hc; omega) (fun lv2 q0 q1 q2 => kk lv2 q0 (by rw [nz_n (fun q => c38 ((h0.2 _ _ h1).mpr q)), show c + (A :: nz R).length = c + 1 + (nz R).length by simp; omega]; exact q1) q2) lv l0 l1 l2 l3
theorem l_ly1 {sc : tm_X} {d sa t : Nat} {B : bm_H} {T : List Tm} {Q : Option Value → bm_H → Prop} (h0 : T0 T) (hS : StS B sa) (hA : StA B sa) (ht : bm_AI B (sa + 5) 1 = nI t) (ht5 : t ≤ 536) : ∀ (R : List Tm) (i c : Nat), FLg (bm_AI B (sa + 3)) T R i → i + R.length = 2 * t → c + R.length ≤ 5000 → (∀ lv2 : tm_L, lv2.lookup 0 = some (.ref sa) → lv2.lookup 1 = some (.int (nI (c + (nz R).length))) → lv2.lookup 2 = some (.int 1) → bm_G sc d 164 50 lv2 [] B Q) → ∀ lv : tm_L, lv.lookup 0 = some (.ref sa) → lv.lookup 1 = some (.int (nI c)) → lv.lookup 2 = some (.int 1) → lv.lookup 3 = some (.int (nI i)) → bm_G sc d 164 18 lv [] B Q := by
  intro R
  induction R with
  | nil =>
    intro i c hg hi hc kk lv l0 l1 l2 l3
    simp at hi
    refine g_ild (pc' := 19) cd_St_termsLying rfl (Or.inr ⟨_, rfl, rfl, rfl⟩) l3 rfl ?_
    refine g_k1 (v := 2) (pc' := 20) cd_St_termsLying rfl (by decide) rfl ?_
    refine g_ald (pc' := 21) cd_St_termsLying rfl (Or.inr ⟨_, rfl, rfl, rfl⟩) l0 rfl rfl ?_
    refine g_fR (c := 8) (k := 2) (x := (sa + 5)) (pc' := 24) cd_St_termsLying rfl rfl rfl rfl rfl (by decide) hS.1.1 hS.1.2 hS.2.2.2.1 ?_
    refine g_ild (pc' := 25) cd_St_termsLying rfl (Or.inr ⟨_, rfl, rfl, rfl⟩) l2 rfl ?_
    refine g_aI (x := nI t) (pc' := 26) cd_St_termsLying rfl rfl hS.2.2.2.2.2.2.2.2.1 hS.2.2.2.2.2.2.2.2.2.1 (by rw [show bm_AL B (sa + 5) = 2 from hS.2.2.2.2.2.2.2.2.2.2]; exact vp_in_nI (n := 1) (by decide) (by decide)) ht ?_
    refine g_pure (pc' := 27) (st' := [.int (2 * (nI t)), .int (nI i)]) cd_St_termsLying rfl rfl (fun _ _ => rfl) ?_
    rw [show (2 * (nI t) : Int32) = nI (2 * t) from pk_mul 2 t]
    refine g_if2 (t := 50) (pc' := 30) cd_St_termsLying rfl rfl rfl (fun c27 => ?_) (fun c27 => ?_)
    · have c27 : (nI (2 * t)) ≤ (nI i) := c27
      exact kk lv l0 l1 l2
    · have c27 : ¬ (nI (2 * t)) ≤ (nI i) := c27
      exact absurd (nI_le (a := 2 * t) (b := i) (by omega) (by omega)) c27
  | cons A R ih =>
    intro i c hg hi hc kk lv l0 l1 l2 l3
    simp at hi
    obtain ⟨h1, h2⟩ := FL_tail hg
    refine g_ild (pc' := 19) cd_St_termsLying rfl (Or.inr ⟨_, rfl, rfl, rfl⟩) l3 rfl ?_
    refine g_k1 (v := 2) (pc' := 20) cd_St_termsLying rfl (by decide) rfl ?_
    refine g_ald (pc' := 21) cd_St_termsLying rfl (Or.inr ⟨_, rfl, rfl, rfl⟩) l0 rfl rfl ?_
    refine g_fR (c := 8) (k := 2) (x := (sa + 5)) (pc' := 24) cd_St_termsLying rfl rfl rfl rfl rfl (by decide) hS.1.1 hS.1.2 hS.2.2.2.1 ?_
    refine g_ild (pc' := 25) cd_St_termsLying rfl (Or.inr ⟨_, rfl, rfl, rfl⟩) l2 rfl ?_
    refine g_aI (x := nI t) (pc' := 26) cd_St_termsLying rfl rfl hS.2.2.2.2.2.2.2.2.1 hS.2.2.2.2.2.2.2.2.2.1 (by rw [show bm_AL B (sa + 5) = 2 from hS.2.2.2.2.2.2.2.2.2.2]; exact vp_in_nI (n := 1) (by decide) (by decide)) ht ?_
    refine g_pure (pc' := 27) (st' := [.int (2 * (nI t)), .int (nI i)]) cd_St_termsLying rfl rfl (fun _ _ => rfl) ?_
    rw [show (2 * (nI t) : Int32) = nI (2 * t) from pk_mul 2 t]
    refine g_if2 (t := 50) (pc' := 30) cd_St_termsLying rfl rfl rfl (fun c27 => ?_) (fun c27 => ?_)
    · have c27 : (nI (2 * t)) ≤ (nI i) := c27
      exact absurd c27 (nI_ge (a := i) (b := 2 * t) (by omega) (by omega))
    · have c27 : ¬ (nI (2 * t)) ≤ (nI i) := c27
      refine g_ald (pc' := 31) cd_St_termsLying rfl (Or.inr ⟨_, rfl, rfl, rfl⟩) l0 rfl rfl ?_
      refine g_fR (c := 8) (k := 0) (x := (sa + 1)) (pc' := 34) cd_St_termsLying rfl rfl rfl rfl rfl (by decide) hS.1.1 hS.1.2 hS.2.1 ?_
      refine g_ild (pc' := 35) cd_St_termsLying rfl (Or.inr ⟨_, rfl, rfl, rfl⟩) l2 rfl ?_
      refine g_aR (t := 8) (x := (sa + 3)) (pc' := 36) cd_St_termsLying rfl rfl hS.2.2.2.2.1.1 hS.2.2.2.2.1.2.1 (by decide) rfl rfl (by rw [show bm_AL B (sa + 1) = 2 from hS.2.2.2.2.1.2.2]; exact vp_in_nI (n := 1) (by decide) (by decide)) (show bm_AR B (sa + 1) 1 = some (sa + 3) from hA.2) ?_
      refine g_ild (pc' := 37) cd_St_termsLying rfl (Or.inr ⟨_, rfl, rfl, rfl⟩) l3 rfl ?_
      refine g_aI (x := (bm_AI B (sa + 3) i)) (pc' := 38) cd_St_termsLying rfl rfl hS.2.2.2.2.2.2.1.1 hS.2.2.2.2.2.2.1.2.1 (by rw [show bm_AL B (sa + 3) = 1072 from hS.2.2.2.2.2.2.1.2.2]; exact vp_in_nI (by omega) (by decide)) (congrArg (bm_AI B (sa + 3)) (nI_clamp (by omega))) ?_
      refine g_if1 (t := 44) (pc' := 41) cd_St_termsLying rfl rfl rfl (fun c38 => ?_) (fun c38 => ?_)
      · have c38 : (bm_AI B (sa + 3) i) = 0 := c38
        refine g_inc (y := nI (i + 1)) (pc' := 47) cd_St_termsLying rfl l3 (by decide) (nI_add i 1) rfl (fun lv el => ?_)
        have l0 := tm_lk el l0 rfl (by decide)
        have l1 := tm_lk el l1 rfl (by decide)
        have l2 := tm_lk el l2 rfl (by decide)
        have l3 : lv.lookup 3 = some (.int (nI (i + 1))) := tm_lks el
        clear el
        refine g_pure (pc' := 18) (st' := []) cd_St_termsLying rfl rfl (fun _ _ => rfl) ?_
        exact ih (i + 1) c h2 (by omega) (by simp at hc; omega) (fun lv2 q0 q1 q2 => kk lv2 q0 (by rw [nz_z ((h0.2 _ _ h1).mp c38)]; exact q1) q2) lv l0 l1 l2 l3
      · have c38 : ¬ (bm_AI B (sa + 3) i) = 0 := c38
        refine g_inc (y := nI (c + 1)) (pc' := 44) cd_St_termsLying rfl l1 (by decide) (nI_add c 1) rfl (fun lv el => ?_)
        have l0 := tm_lk el l0 rfl (by decide)
        have l2 := tm_lk el l2 rfl (by decide)
        have l3 := tm_lk el l3 rfl (by decide)
        have l1 : lv.lookup 1 = some (.int (nI (c + 1))) := tm_lks el
        clear el
        refine g_inc (y := nI (i + 1)) (pc' := 47) cd_St_termsLying rfl l3 (by decide) (nI_add i 1) rfl (fun lv el => ?_)
        have l0 := tm_lk el l0 rfl (by decide)
        have l1 := tm_lk el l1 rfl (by decide)
        have l2 := tm_lk el l2 rfl (by decide)
        have l3 : lv.lookup 3 = some (.int (nI (i + 1))) := tm_lks el
        clear el
        refine g_pure (pc' := 18) (st' := []) cd_St_termsLying rfl rfl (fun _ _ => rfl) ?_
        exact ih (i + 1) (c + 1) h2 (by omega) (by simp at hc; omega) (fun lv2 q0 q1 q2 => kk lv2 q0 (by rw [nz_n (fun q => c38 ((h0.2 _ _ h1).mpr q)), show c + (A :: nz R).length = c + 1 + (nz R).length by simp; omega]; exact q1) q2) lv l0 l1 l2 l3
theorem t_lying {sc : tm_X} {d sa : Nat} {B : bm_H} {T : List Tm} {S : ST} {Q : Int32 → bm_H → Prop} (h0 : T0 T) (hR : RSt B T sa S) (kk : Q (nI (st_terms S).length) B) : bm_Gi sc d 164 [.ref sa] B Q := by
  obtain ⟨hS, hA⟩ := RSt_S hR
  obtain ⟨f0, a0, b0, c0, e0⟩ := RSt_h0 hR
  obtain ⟨f1, a1, b1, c1, e1⟩ := RSt_h1 hR
  have n0 := nz_le (fl (st_l0 S))
  have n1 := nz_le (fl (st_l1 S))
  rw [fl_len] at n0 n1
  show bm_G sc d 164 0 [(0, .ref sa)] [] B _
  generalize elv : ([(0, .ref sa)] : tm_L) = lv
  have l0 : lv.lookup 0 = some (.ref sa) := by rw [← elv]; rfl
  clear elv
  refine g_k1 (v := 0) (pc' := 1) cd_St_termsLying rfl (by decide) rfl ?_
  refine g_ist (pc' := 2) cd_St_termsLying rfl (Or.inr ⟨_, rfl, rfl, rfl⟩) (by decide) rfl (fun lv el => ?_)
  have l0 := tm_lk el l0 rfl (by decide)
  have l1 : lv.lookup 1 = some (.int 0) := tm_lks el
  clear el
  refine g_k1 (v := 0) (pc' := 3) cd_St_termsLying rfl (by decide) rfl ?_
  refine g_ist (pc' := 4) cd_St_termsLying rfl (Or.inr ⟨_, rfl, rfl, rfl⟩) (by decide) rfl (fun lv el => ?_)
  have l0 := tm_lk el l0 rfl (by decide)
  have l1 := tm_lk el l1 rfl (by decide)
  have l2 : lv.lookup 2 = some (.int 0) := tm_lks el
  clear el
  refine g_ild (pc' := 5) cd_St_termsLying rfl (Or.inr ⟨_, rfl, rfl, rfl⟩) l2 rfl ?_
  refine g_k1 (v := 2) (pc' := 6) cd_St_termsLying rfl (by decide) rfl ?_
  refine g_if2 (t := 56) (pc' := 9) cd_St_termsLying rfl rfl rfl (fun c6 => ?_) (fun c6 => ?_)
  · exact absurd (show (2 : Int32) ≤ 0 from c6) (by decide)
  · have c6 : ¬ (2 : Int32) ≤ 0 := c6
    refine g_k1 (v := 2) (pc' := 10) cd_St_termsLying rfl (by decide) rfl ?_
    refine g_ald (pc' := 11) cd_St_termsLying rfl (Or.inr ⟨_, rfl, rfl, rfl⟩) l0 rfl rfl ?_
    refine g_fR (c := 8) (k := 1) (x := (sa + 4)) (pc' := 14) cd_St_termsLying rfl rfl rfl rfl rfl (by decide) hS.1.1 hS.1.2 hS.2.2.1 ?_
    refine g_ild (pc' := 15) cd_St_termsLying rfl (Or.inr ⟨_, rfl, rfl, rfl⟩) l2 rfl ?_
    refine g_aI (x := nI f0) (pc' := 16) cd_St_termsLying rfl rfl hS.2.2.2.2.2.2.2.1.1 hS.2.2.2.2.2.2.2.1.2.1 (by rw [show bm_AL B (sa + 4) = 2 from hS.2.2.2.2.2.2.2.1.2.2]; exact vp_in_nI (n := 0) (by decide) (by decide)) a0 ?_
    refine g_pure (pc' := 17) (st' := [.int (2 * (nI f0))]) cd_St_termsLying rfl rfl (fun _ _ => rfl) ?_
    rw [show (2 * (nI f0) : Int32) = nI (2 * f0) from pk_mul 2 f0]
    refine g_ist (pc' := 18) cd_St_termsLying rfl (Or.inr ⟨_, rfl, rfl, rfl⟩) (by decide) rfl (fun lv el => ?_)
    have l0 := tm_lk el l0 rfl (by decide)
    have l1 := tm_lk el l1 rfl (by decide)
    have l2 := tm_lk el l2 rfl (by decide)
    have l3 : lv.lookup 3 = some (.int (nI (2 * f0))) := tm_lks el
    clear el
    refine l_ly0 h0 hS hA b0 c0 (fl (st_l0 S)) (2 * f0) 0 (EN_fl e0) (by rw [fl_len]; omega) (by rw [fl_len]; omega) (fun lv l0 l1 l2 => ?_) lv l0 l1 l2 l3
    refine g_inc (y := 1) (pc' := 53) cd_St_termsLying rfl l2 (by decide) (by decide) rfl (fun lv el => ?_)
    have l0 := tm_lk el l0 rfl (by decide)
    have l1 := tm_lk el l1 rfl (by decide)
    have l2 : lv.lookup 2 = some (.int 1) := tm_lks el
    clear el
    refine g_pure (pc' := 4) (st' := []) cd_St_termsLying rfl rfl (fun _ _ => rfl) ?_
    refine g_ild (pc' := 5) cd_St_termsLying rfl (Or.inr ⟨_, rfl, rfl, rfl⟩) l2 rfl ?_
    refine g_k1 (v := 2) (pc' := 6) cd_St_termsLying rfl (by decide) rfl ?_
    refine g_if2 (t := 56) (pc' := 9) cd_St_termsLying rfl rfl rfl (fun c6 => ?_) (fun c6 => ?_)
    · exact absurd (show (2 : Int32) ≤ 1 from c6) (by decide)
    · have c6 : ¬ (2 : Int32) ≤ 1 := c6
      refine g_k1 (v := 2) (pc' := 10) cd_St_termsLying rfl (by decide) rfl ?_
      refine g_ald (pc' := 11) cd_St_termsLying rfl (Or.inr ⟨_, rfl, rfl, rfl⟩) l0 rfl rfl ?_
      refine g_fR (c := 8) (k := 1) (x := (sa + 4)) (pc' := 14) cd_St_termsLying rfl rfl rfl rfl rfl (by decide) hS.1.1 hS.1.2 hS.2.2.1 ?_
      refine g_ild (pc' := 15) cd_St_termsLying rfl (Or.inr ⟨_, rfl, rfl, rfl⟩) l2 rfl ?_
      refine g_aI (x := nI f1) (pc' := 16) cd_St_termsLying rfl rfl hS.2.2.2.2.2.2.2.1.1 hS.2.2.2.2.2.2.2.1.2.1 (by rw [show bm_AL B (sa + 4) = 2 from hS.2.2.2.2.2.2.2.1.2.2]; exact vp_in_nI (n := 1) (by decide) (by decide)) a1 ?_
      refine g_pure (pc' := 17) (st' := [.int (2 * (nI f1))]) cd_St_termsLying rfl rfl (fun _ _ => rfl) ?_
      rw [show (2 * (nI f1) : Int32) = nI (2 * f1) from pk_mul 2 f1]
      refine g_ist (pc' := 18) cd_St_termsLying rfl (Or.inr ⟨_, rfl, rfl, rfl⟩) (by decide) rfl (fun lv el => ?_)
      have l0 := tm_lk el l0 rfl (by decide)
      have l1 := tm_lk el l1 rfl (by decide)
      have l2 := tm_lk el l2 rfl (by decide)
      have l3 : lv.lookup 3 = some (.int (nI (2 * f1))) := tm_lks el
      clear el
      refine l_ly1 h0 hS hA b1 c1 (fl (st_l1 S)) (2 * f1) (0 + (nz (fl (st_l0 S))).length) (EN_fl e1) (by rw [fl_len]; omega) (by rw [fl_len]; omega) (fun lv l0 l1 l2 => ?_) lv l0 l1 l2 l3
      refine g_inc (y := 2) (pc' := 53) cd_St_termsLying rfl l2 (by decide) (by decide) rfl (fun lv el => ?_)
      have l0 := tm_lk el l0 rfl (by decide)
      have l1 := tm_lk el l1 rfl (by decide)
      have l2 : lv.lookup 2 = some (.int 2) := tm_lks el
      clear el
      refine g_pure (pc' := 4) (st' := []) cd_St_termsLying rfl rfl (fun _ _ => rfl) ?_
      refine g_ild (pc' := 5) cd_St_termsLying rfl (Or.inr ⟨_, rfl, rfl, rfl⟩) l2 rfl ?_
      refine g_k1 (v := 2) (pc' := 6) cd_St_termsLying rfl (by decide) rfl ?_
      refine g_if2 (t := 56) (pc' := 9) cd_St_termsLying rfl rfl rfl (fun c6 => ?_) (fun c6 => ?_)
      · have c6 : (2 : Int32) ≤ 2 := c6
        refine g_ild (pc' := 57) cd_St_termsLying rfl (Or.inr ⟨_, rfl, rfl, rfl⟩) l1 rfl ?_
        exact g_reti cd_St_termsLying rfl ⟨_, rfl, (bm_eq kk (by unfold st_terms; rw [List.length_append]; congr 1; omega))⟩
      · exact absurd (show ¬ (2 : Int32) ≤ 2 from c6) (by decide)
theorem FL_push {g : Nat → Int32} {T o : List Tm} {x : Int32} {A : Tm} (h : FLg g T o 0) (hx : tv T x A) : FLg (upd g o.length x) T (o ++ [A]) 0 := by
  intro j C hj
  have hl := (List.getElem?_eq_some_iff.mp hj).1
  simp at hl
  rw [Nat.zero_add]
  by_cases c : j = o.length
  · subst c
    simp at hj
    subst hj
    rw [show upd g o.length x o.length = x from if_pos rfl]
    exact hx
  · rw [List.getElem?_append_left (by omega)] at hj
    rw [pk_un c]
    have := h j C hj
    rwa [Nat.zero_add] at this
theorem l_cpT0 {sc : tm_X} {d sa ta t : Nat} {T : List Tm} {Q : Option Value → bm_H → Prop} (h0 : T0 T) (hd : ta + 1 ≤ sa ∨ sa + 6 ≤ ta) (ht5 : t ≤ 536) : ∀ (R : List Tm) (i : Nat) (o : List Tm) (B : bm_H), StS B sa → StA B sa → bm_AI B (sa + 5) 0 = nI t → (ta < bm_n B ∧ bm_K B ta = 13 ∧ bm_AL B ta = 2144) → FLg (bm_AI B (sa + 2)) T R i → i + R.length = 2 * t → FLg (bm_AI B ta) T o 0 → o.length + R.length ≤ 2144 → (∀ B' (lv2 : tm_L), FLg (bm_AI B' ta) T (o ++ nz R) 0 → fz (fun y => y = ta) B B' → lv2.lookup 0 = some (.ref sa) → lv2.lookup 1 = some (.ref ta) → lv2.lookup 2 = some (.int (nI (o ++ nz R).length)) → lv2.lookup 3 = some (.int 0) → bm_G sc d 153 71 lv2 [] B' Q) → ∀ lv : tm_L, lv.lookup 0 = some (.ref sa) → lv.lookup 1 = some (.ref ta) → lv.lookup 2 = some (.int (nI (o.length))) → lv.lookup 3 = some (.int 0) → lv.lookup 4 = some (.int (nI i)) → bm_G sc d 153 19 lv [] B Q := by
  intro R
  induction R with
  | nil =>
    intro i o B hS hA ht hta hg hi ho hlen kk lv l0 l1 l2 l3 l4
    simp at hi
    refine g_ild (pc' := 21) cd_St_copyTerms rfl (Or.inl ⟨rfl, rfl⟩) l4 rfl ?_
    refine g_k1 (v := 2) (pc' := 22) cd_St_copyTerms rfl (by decide) rfl ?_
    refine g_ald (pc' := 23) cd_St_copyTerms rfl (Or.inr ⟨_, rfl, rfl, rfl⟩) l0 rfl rfl ?_
    refine g_fR (c := 8) (k := 2) (x := (sa + 5)) (pc' := 26) cd_St_copyTerms rfl rfl rfl rfl rfl (by decide) hS.1.1 hS.1.2 hS.2.2.2.1 ?_
    refine g_ild (pc' := 27) cd_St_copyTerms rfl (Or.inr ⟨_, rfl, rfl, rfl⟩) l3 rfl ?_
    refine g_aI (x := nI t) (pc' := 28) cd_St_copyTerms rfl rfl hS.2.2.2.2.2.2.2.2.1 hS.2.2.2.2.2.2.2.2.2.1 (by rw [show bm_AL B (sa + 5) = 2 from hS.2.2.2.2.2.2.2.2.2.2]; exact vp_in_nI (n := 0) (by decide) (by decide)) ht ?_
    refine g_pure (pc' := 29) (st' := [.int (2 * (nI t)), .int (nI i)]) cd_St_copyTerms rfl rfl (fun _ _ => rfl) ?_
    rw [show (2 * (nI t) : Int32) = nI (2 * t) from pk_mul 2 t]
    refine g_if2 (t := 71) (pc' := 32) cd_St_copyTerms rfl rfl rfl (fun c29 => ?_) (fun c29 => ?_)
    · have c29 : (nI (2 * t)) ≤ (nI i) := c29
      exact kk B lv (by simpa [nz] using ho) (fz_rfl _ B) l0 l1 (by simpa [nz] using l2) l3
    · have c29 : ¬ (nI (2 * t)) ≤ (nI i) := c29
      exact absurd (nI_le (a := 2 * t) (b := i) (by omega) (by omega)) c29
  | cons A R ih =>
    intro i o B hS hA ht hta hg hi ho hlen kk lv l0 l1 l2 l3 l4
    simp at hi hlen
    obtain ⟨h1, h2⟩ := FL_tail hg
    refine g_ild (pc' := 21) cd_St_copyTerms rfl (Or.inl ⟨rfl, rfl⟩) l4 rfl ?_
    refine g_k1 (v := 2) (pc' := 22) cd_St_copyTerms rfl (by decide) rfl ?_
    refine g_ald (pc' := 23) cd_St_copyTerms rfl (Or.inr ⟨_, rfl, rfl, rfl⟩) l0 rfl rfl ?_
    refine g_fR (c := 8) (k := 2) (x := (sa + 5)) (pc' := 26) cd_St_copyTerms rfl rfl rfl rfl rfl (by decide) hS.1.1 hS.1.2 hS.2.2.2.1 ?_
    refine g_ild (pc' := 27) cd_St_copyTerms rfl (Or.inr ⟨_, rfl, rfl, rfl⟩) l3 rfl ?_
    refine g_aI (x := nI t) (pc' := 28) cd_St_copyTerms rfl rfl hS.2.2.2.2.2.2.2.2.1 hS.2.2.2.2.2.2.2.2.2.1 (by rw [show bm_AL B (sa + 5) = 2 from hS.2.2.2.2.2.2.2.2.2.2]; exact vp_in_nI (n := 0) (by decide) (by decide)) ht ?_
    refine g_pure (pc' := 29) (st' := [.int (2 * (nI t)), .int (nI i)]) cd_St_copyTerms rfl rfl (fun _ _ => rfl) ?_
    rw [show (2 * (nI t) : Int32) = nI (2 * t) from pk_mul 2 t]
    refine g_if2 (t := 71) (pc' := 32) cd_St_copyTerms rfl rfl rfl (fun c29 => ?_) (fun c29 => ?_)
    · have c29 : (nI (2 * t)) ≤ (nI i) := c29
      exact absurd c29 (nI_ge (a := i) (b := 2 * t) (by omega) (by omega))
    · have c29 : ¬ (nI (2 * t)) ≤ (nI i) := c29
      refine g_ald (pc' := 33) cd_St_copyTerms rfl (Or.inr ⟨_, rfl, rfl, rfl⟩) l0 rfl rfl ?_
      refine g_fR (c := 8) (k := 0) (x := (sa + 1)) (pc' := 36) cd_St_copyTerms rfl rfl rfl rfl rfl (by decide) hS.1.1 hS.1.2 hS.2.1 ?_
      refine g_ild (pc' := 37) cd_St_copyTerms rfl (Or.inr ⟨_, rfl, rfl, rfl⟩) l3 rfl ?_
      refine g_aR (t := 8) (x := (sa + 2)) (pc' := 38) cd_St_copyTerms rfl rfl hS.2.2.2.2.1.1 hS.2.2.2.2.1.2.1 (by decide) rfl rfl (by rw [show bm_AL B (sa + 1) = 2 from hS.2.2.2.2.1.2.2]; exact vp_in_nI (n := 0) (by decide) (by decide)) (show bm_AR B (sa + 1) 0 = some (sa + 2) from hA.1) ?_
      refine g_ild (pc' := 40) cd_St_copyTerms rfl (Or.inl ⟨rfl, rfl⟩) l4 rfl ?_
      refine g_aI (x := (bm_AI B (sa + 2) i)) (pc' := 41) cd_St_copyTerms rfl rfl hS.2.2.2.2.2.1.1 hS.2.2.2.2.2.1.2.1 (by rw [show bm_AL B (sa + 2) = 1072 from hS.2.2.2.2.2.1.2.2]; exact vp_in_nI (by omega) (by decide)) (congrArg (bm_AI B (sa + 2)) (nI_clamp (by omega))) ?_
      refine g_if1 (t := 65) (pc' := 44) cd_St_copyTerms rfl rfl rfl (fun c41 => ?_) (fun c41 => ?_)
      · have c41 : (bm_AI B (sa + 2) i) = 0 := c41
        refine g_inc (y := nI (i + 1)) (pc' := 68) cd_St_copyTerms rfl l4 (by decide) (nI_add i 1) rfl (fun lv el => ?_)
        have l0 := tm_lk el l0 rfl (by decide)
        have l1 := tm_lk el l1 rfl (by decide)
        have l2 := tm_lk el l2 rfl (by decide)
        have l3 := tm_lk el l3 rfl (by decide)
        have l4 : lv.lookup 4 = some (.int (nI (i + 1))) := tm_lks el
        clear el
        refine g_pure (pc' := 19) (st' := []) cd_St_copyTerms rfl rfl (fun _ _ => rfl) ?_
        exact ih (i + 1) o B hS hA ht hta h2 (by omega) ho (by omega) (fun B' lv2 q0 q1 r0 r1 r2 r3 => kk B' lv2 (by rw [nz_z ((h0.2 _ _ h1).mp c41)]; exact q0) q1 r0 r1 (by rw [nz_z ((h0.2 _ _ h1).mp c41)]; exact r2) r3) lv l0 l1 l2 l3 l4
      · have c41 : ¬ (bm_AI B (sa + 2) i) = 0 := c41
        refine g_ild (pc' := 45) cd_St_copyTerms rfl (Or.inr ⟨_, rfl, rfl, rfl⟩) l2 rfl ?_
        refine g_ald (pc' := 46) cd_St_copyTerms rfl (Or.inr ⟨_, rfl, rfl, rfl⟩) l1 rfl rfl ?_
        refine g_al (x := 2144) (pc' := 47) cd_St_copyTerms rfl rfl hta.1 (by rw [show bm_K B ta = 13 from hta.2.1]; decide) (by rw [show bm_K B ta = 13 from hta.2.1]; decide) (congrArg Int32.ofNat hta.2.2) ?_
        refine g_if2 (t := 65) (pc' := 50) cd_St_copyTerms rfl rfl rfl (fun c47 => ?_) (fun c47 => ?_)
        · have c47 : (2144 : Int32) ≤ (nI (o.length)) := c47
          exact absurd c47 (nI_ge (a := o.length) (b := 2144) (by omega) (by decide))
        · have c47 : ¬ (2144 : Int32) ≤ (nI (o.length)) := c47
          refine g_ald (pc' := 51) cd_St_copyTerms rfl (Or.inr ⟨_, rfl, rfl, rfl⟩) l1 rfl rfl ?_
          refine g_ild (pc' := 52) cd_St_copyTerms rfl (Or.inr ⟨_, rfl, rfl, rfl⟩) l2 rfl ?_
          refine g_ald (pc' := 53) cd_St_copyTerms rfl (Or.inr ⟨_, rfl, rfl, rfl⟩) l0 rfl rfl ?_
          refine g_fR (c := 8) (k := 0) (x := (sa + 1)) (pc' := 56) cd_St_copyTerms rfl rfl rfl rfl rfl (by decide) hS.1.1 hS.1.2 hS.2.1 ?_
          refine g_ild (pc' := 57) cd_St_copyTerms rfl (Or.inr ⟨_, rfl, rfl, rfl⟩) l3 rfl ?_
          refine g_aR (t := 8) (x := (sa + 2)) (pc' := 58) cd_St_copyTerms rfl rfl hS.2.2.2.2.1.1 hS.2.2.2.2.1.2.1 (by decide) rfl rfl (by rw [show bm_AL B (sa + 1) = 2 from hS.2.2.2.2.1.2.2]; exact vp_in_nI (n := 0) (by decide) (by decide)) (show bm_AR B (sa + 1) 0 = some (sa + 2) from hA.1) ?_
          refine g_ild (pc' := 60) cd_St_copyTerms rfl (Or.inl ⟨rfl, rfl⟩) l4 rfl ?_
          refine g_aI (x := (bm_AI B (sa + 2) i)) (pc' := 61) cd_St_copyTerms rfl rfl hS.2.2.2.2.2.1.1 hS.2.2.2.2.2.1.2.1 (by rw [show bm_AL B (sa + 2) = 1072 from hS.2.2.2.2.2.1.2.2]; exact vp_in_nI (by omega) (by decide)) (congrArg (bm_AI B (sa + 2)) (nI_clamp (by omega))) ?_
          refine g_iast (pc' := 62) cd_St_copyTerms rfl rfl hta.1 hta.2.1 (by rw [show bm_AL B ta = 2144 from hta.2.2]; exact vp_in_nI (by omega) (by decide)) ?_
          rw [show (nI (o.length) : Int32).toNatClampNeg = (o.length) from nI_clamp (by omega)]
          have A1 : bm_AI (bm_setI B ta (o.length) (bm_AI B (sa + 2) i)) ta = (upd (bm_AI B ta) (o.length) (bm_AI B (sa + 2) i)) := ((AI_set B ta (o.length) (bm_AI B (sa + 2) i)).trans (congrArg (fun f => upd f (o.length) (bm_AI B (sa + 2) i)) (show bm_AI B ta = (bm_AI B ta) from rfl)))
          have Z2 : fz (fun y => y = ta) B (bm_setI B ta (o.length) (bm_AI B (sa + 2) i)) := fz_trans (fz_rfl _ B) ⟨fr_mono (fun _ q => q) (fr_setI _ ta _ _), rfl, rfl⟩
          refine g_inc (y := nI ((o.length) + 1)) (pc' := 65) cd_St_copyTerms rfl l2 (by decide) (nI_add (o.length) 1) rfl (fun lv el => ?_)
          have l0 := tm_lk el l0 rfl (by decide)
          have l1 := tm_lk el l1 rfl (by decide)
          have l3 := tm_lk el l3 rfl (by decide)
          have l4 := tm_lk el l4 rfl (by decide)
          have l2 : lv.lookup 2 = some (.int (nI ((o.length) + 1))) := tm_lks el
          clear el
          refine g_inc (y := nI (i + 1)) (pc' := 68) cd_St_copyTerms rfl l4 (by decide) (nI_add i 1) rfl (fun lv el => ?_)
          have l0 := tm_lk el l0 rfl (by decide)
          have l1 := tm_lk el l1 rfl (by decide)
          have l2 := tm_lk el l2 rfl (by decide)
          have l3 := tm_lk el l3 rfl (by decide)
          have l4 : lv.lookup 4 = some (.int (nI (i + 1))) := tm_lks el
          clear el
          refine g_pure (pc' := 19) (st' := []) cd_St_copyTerms rfl rfl (fun _ _ => rfl) ?_
          have hf := Z2
          have e2 := fr_AI hf.1 hS.2.2.2.2.2.1.1 (by omega)
          have e5 := fr_AI hf.1 hS.2.2.2.2.2.2.2.2.1 (by omega)
          have hne : nz (A :: R) = A :: nz R := nz_n (fun q => c41 ((h0.2 _ _ h1).mpr q))
          exact ih (i + 1) (o ++ [A]) _ (StS_fr hS hf.1) (StA_fr hS hA hf.1 (by omega)) (by rw [e5]; exact ht) ⟨fr_lt hf.1 hta.1, (fr_K hf.1 hta.1).trans hta.2.1, (fr_AL hf.1 hta.1).trans hta.2.2⟩ (by rw [e2]; exact h2) (by omega) (by rw [show bm_AI _ ta = _ from A1]; exact FL_push ho h1) (by simp; omega) (fun B' lv2 q0 q1 r0 r1 r2 r3 => kk B' lv2 (by rw [hne]; simpa using q0) (fz_trans hf q1) r0 r1 (by rw [hne]; simpa using r2) r3) lv l0 l1 (by simpa using l2) l3 l4
theorem l_cpT1 {sc : tm_X} {d sa ta t : Nat} {T : List Tm} {Q : Option Value → bm_H → Prop} (h0 : T0 T) (hd : ta + 1 ≤ sa ∨ sa + 6 ≤ ta) (ht5 : t ≤ 536) : ∀ (R : List Tm) (i : Nat) (o : List Tm) (B : bm_H), StS B sa → StA B sa → bm_AI B (sa + 5) 1 = nI t → (ta < bm_n B ∧ bm_K B ta = 13 ∧ bm_AL B ta = 2144) → FLg (bm_AI B (sa + 3)) T R i → i + R.length = 2 * t → FLg (bm_AI B ta) T o 0 → o.length + R.length ≤ 2144 → (∀ B' (lv2 : tm_L), FLg (bm_AI B' ta) T (o ++ nz R) 0 → fz (fun y => y = ta) B B' → lv2.lookup 0 = some (.ref sa) → lv2.lookup 1 = some (.ref ta) → lv2.lookup 2 = some (.int (nI (o ++ nz R).length)) → lv2.lookup 3 = some (.int 1) → bm_G sc d 153 71 lv2 [] B' Q) → ∀ lv : tm_L, lv.lookup 0 = some (.ref sa) → lv.lookup 1 = some (.ref ta) → lv.lookup 2 = some (.int (nI (o.length))) → lv.lookup 3 = some (.int 1) → lv.lookup 4 = some (.int (nI i)) → bm_G sc d 153 19 lv [] B Q := by
  intro R
  induction R with
  | nil =>
    intro i o B hS hA ht hta hg hi ho hlen kk lv l0 l1 l2 l3 l4
    simp at hi
    refine g_ild (pc' := 21) cd_St_copyTerms rfl (Or.inl ⟨rfl, rfl⟩) l4 rfl ?_
    refine g_k1 (v := 2) (pc' := 22) cd_St_copyTerms rfl (by decide) rfl ?_
    refine g_ald (pc' := 23) cd_St_copyTerms rfl (Or.inr ⟨_, rfl, rfl, rfl⟩) l0 rfl rfl ?_
    refine g_fR (c := 8) (k := 2) (x := (sa + 5)) (pc' := 26) cd_St_copyTerms rfl rfl rfl rfl rfl (by decide) hS.1.1 hS.1.2 hS.2.2.2.1 ?_
    refine g_ild (pc' := 27) cd_St_copyTerms rfl (Or.inr ⟨_, rfl, rfl, rfl⟩) l3 rfl ?_
    refine g_aI (x := nI t) (pc' := 28) cd_St_copyTerms rfl rfl hS.2.2.2.2.2.2.2.2.1 hS.2.2.2.2.2.2.2.2.2.1 (by rw [show bm_AL B (sa + 5) = 2 from hS.2.2.2.2.2.2.2.2.2.2]; exact vp_in_nI (n := 1) (by decide) (by decide)) ht ?_
    refine g_pure (pc' := 29) (st' := [.int (2 * (nI t)), .int (nI i)]) cd_St_copyTerms rfl rfl (fun _ _ => rfl) ?_
    rw [show (2 * (nI t) : Int32) = nI (2 * t) from pk_mul 2 t]
    refine g_if2 (t := 71) (pc' := 32) cd_St_copyTerms rfl rfl rfl (fun c29 => ?_) (fun c29 => ?_)
    · have c29 : (nI (2 * t)) ≤ (nI i) := c29
      exact kk B lv (by simpa [nz] using ho) (fz_rfl _ B) l0 l1 (by simpa [nz] using l2) l3
    · have c29 : ¬ (nI (2 * t)) ≤ (nI i) := c29
      exact absurd (nI_le (a := 2 * t) (b := i) (by omega) (by omega)) c29
  | cons A R ih =>
    intro i o B hS hA ht hta hg hi ho hlen kk lv l0 l1 l2 l3 l4
    simp at hi hlen
    obtain ⟨h1, h2⟩ := FL_tail hg
    refine g_ild (pc' := 21) cd_St_copyTerms rfl (Or.inl ⟨rfl, rfl⟩) l4 rfl ?_
    refine g_k1 (v := 2) (pc' := 22) cd_St_copyTerms rfl (by decide) rfl ?_
    refine g_ald (pc' := 23) cd_St_copyTerms rfl (Or.inr ⟨_, rfl, rfl, rfl⟩) l0 rfl rfl ?_
    refine g_fR (c := 8) (k := 2) (x := (sa + 5)) (pc' := 26) cd_St_copyTerms rfl rfl rfl rfl rfl (by decide) hS.1.1 hS.1.2 hS.2.2.2.1 ?_
    refine g_ild (pc' := 27) cd_St_copyTerms rfl (Or.inr ⟨_, rfl, rfl, rfl⟩) l3 rfl ?_
    refine g_aI (x := nI t) (pc' := 28) cd_St_copyTerms rfl rfl hS.2.2.2.2.2.2.2.2.1 hS.2.2.2.2.2.2.2.2.2.1 (by rw [show bm_AL B (sa + 5) = 2 from hS.2.2.2.2.2.2.2.2.2.2]; exact vp_in_nI (n := 1) (by decide) (by decide)) ht ?_
    refine g_pure (pc' := 29) (st' := [.int (2 * (nI t)), .int (nI i)]) cd_St_copyTerms rfl rfl (fun _ _ => rfl) ?_
    rw [show (2 * (nI t) : Int32) = nI (2 * t) from pk_mul 2 t]
    refine g_if2 (t := 71) (pc' := 32) cd_St_copyTerms rfl rfl rfl (fun c29 => ?_) (fun c29 => ?_)
    · have c29 : (nI (2 * t)) ≤ (nI i) := c29
      exact absurd c29 (nI_ge (a := i) (b := 2 * t) (by omega) (by omega))
    · have c29 : ¬ (nI (2 * t)) ≤ (nI i) := c29
      refine g_ald (pc' := 33) cd_St_copyTerms rfl (Or.inr ⟨_, rfl, rfl, rfl⟩) l0 rfl rfl ?_
      refine g_fR (c := 8) (k := 0) (x := (sa + 1)) (pc' := 36) cd_St_copyTerms rfl rfl rfl rfl rfl (by decide) hS.1.1 hS.1.2 hS.2.1 ?_
      refine g_ild (pc' := 37) cd_St_copyTerms rfl (Or.inr ⟨_, rfl, rfl, rfl⟩) l3 rfl ?_
      refine g_aR (t := 8) (x := (sa + 3)) (pc' := 38) cd_St_copyTerms rfl rfl hS.2.2.2.2.1.1 hS.2.2.2.2.1.2.1 (by decide) rfl rfl (by rw [show bm_AL B (sa + 1) = 2 from hS.2.2.2.2.1.2.2]; exact vp_in_nI (n := 1) (by decide) (by decide)) (show bm_AR B (sa + 1) 1 = some (sa + 3) from hA.2) ?_
      refine g_ild (pc' := 40) cd_St_copyTerms rfl (Or.inl ⟨rfl, rfl⟩) l4 rfl ?_
      refine g_aI (x := (bm_AI B (sa + 3) i)) (pc' := 41) cd_St_copyTerms rfl rfl hS.2.2.2.2.2.2.1.1 hS.2.2.2.2.2.2.1.2.1 (by rw [show bm_AL B (sa + 3) = 1072 from hS.2.2.2.2.2.2.1.2.2]; exact vp_in_nI (by omega) (by decide)) (congrArg (bm_AI B (sa + 3)) (nI_clamp (by omega))) ?_
      refine g_if1 (t := 65) (pc' := 44) cd_St_copyTerms rfl rfl rfl (fun c41 => ?_) (fun c41 => ?_)
      · have c41 : (bm_AI B (sa + 3) i) = 0 := c41
        refine g_inc (y := nI (i + 1)) (pc' := 68) cd_St_copyTerms rfl l4 (by decide) (nI_add i 1) rfl (fun lv el => ?_)
        have l0 := tm_lk el l0 rfl (by decide)
        have l1 := tm_lk el l1 rfl (by decide)
        have l2 := tm_lk el l2 rfl (by decide)
        have l3 := tm_lk el l3 rfl (by decide)
        have l4 : lv.lookup 4 = some (.int (nI (i + 1))) := tm_lks el
        clear el
        refine g_pure (pc' := 19) (st' := []) cd_St_copyTerms rfl rfl (fun _ _ => rfl) ?_
        exact ih (i + 1) o B hS hA ht hta h2 (by omega) ho (by omega) (fun B' lv2 q0 q1 r0 r1 r2 r3 => kk B' lv2 (by rw [nz_z ((h0.2 _ _ h1).mp c41)]; exact q0) q1 r0 r1 (by rw [nz_z ((h0.2 _ _ h1).mp c41)]; exact r2) r3) lv l0 l1 l2 l3 l4
      · have c41 : ¬ (bm_AI B (sa + 3) i) = 0 := c41
        refine g_ild (pc' := 45) cd_St_copyTerms rfl (Or.inr ⟨_, rfl, rfl, rfl⟩) l2 rfl ?_
        refine g_ald (pc' := 46) cd_St_copyTerms rfl (Or.inr ⟨_, rfl, rfl, rfl⟩) l1 rfl rfl ?_
        refine g_al (x := 2144) (pc' := 47) cd_St_copyTerms rfl rfl hta.1 (by rw [show bm_K B ta = 13 from hta.2.1]; decide) (by rw [show bm_K B ta = 13 from hta.2.1]; decide) (congrArg Int32.ofNat hta.2.2) ?_
        refine g_if2 (t := 65) (pc' := 50) cd_St_copyTerms rfl rfl rfl (fun c47 => ?_) (fun c47 => ?_)
        · have c47 : (2144 : Int32) ≤ (nI (o.length)) := c47
          exact absurd c47 (nI_ge (a := o.length) (b := 2144) (by omega) (by decide))
        · have c47 : ¬ (2144 : Int32) ≤ (nI (o.length)) := c47
          refine g_ald (pc' := 51) cd_St_copyTerms rfl (Or.inr ⟨_, rfl, rfl, rfl⟩) l1 rfl rfl ?_
          refine g_ild (pc' := 52) cd_St_copyTerms rfl (Or.inr ⟨_, rfl, rfl, rfl⟩) l2 rfl ?_
          refine g_ald (pc' := 53) cd_St_copyTerms rfl (Or.inr ⟨_, rfl, rfl, rfl⟩) l0 rfl rfl ?_
          refine g_fR (c := 8) (k := 0) (x := (sa + 1)) (pc' := 56) cd_St_copyTerms rfl rfl rfl rfl rfl (by decide) hS.1.1 hS.1.2 hS.2.1 ?_
          refine g_ild (pc' := 57) cd_St_copyTerms rfl (Or.inr ⟨_, rfl, rfl, rfl⟩) l3 rfl ?_
          refine g_aR (t := 8) (x := (sa + 3)) (pc' := 58) cd_St_copyTerms rfl rfl hS.2.2.2.2.1.1 hS.2.2.2.2.1.2.1 (by decide) rfl rfl (by rw [show bm_AL B (sa + 1) = 2 from hS.2.2.2.2.1.2.2]; exact vp_in_nI (n := 1) (by decide) (by decide)) (show bm_AR B (sa + 1) 1 = some (sa + 3) from hA.2) ?_
          refine g_ild (pc' := 60) cd_St_copyTerms rfl (Or.inl ⟨rfl, rfl⟩) l4 rfl ?_
          refine g_aI (x := (bm_AI B (sa + 3) i)) (pc' := 61) cd_St_copyTerms rfl rfl hS.2.2.2.2.2.2.1.1 hS.2.2.2.2.2.2.1.2.1 (by rw [show bm_AL B (sa + 3) = 1072 from hS.2.2.2.2.2.2.1.2.2]; exact vp_in_nI (by omega) (by decide)) (congrArg (bm_AI B (sa + 3)) (nI_clamp (by omega))) ?_
          refine g_iast (pc' := 62) cd_St_copyTerms rfl rfl hta.1 hta.2.1 (by rw [show bm_AL B ta = 2144 from hta.2.2]; exact vp_in_nI (by omega) (by decide)) ?_
          rw [show (nI (o.length) : Int32).toNatClampNeg = (o.length) from nI_clamp (by omega)]
          have A3 : bm_AI (bm_setI B ta (o.length) (bm_AI B (sa + 3) i)) ta = (upd (bm_AI B ta) (o.length) (bm_AI B (sa + 3) i)) := ((AI_set B ta (o.length) (bm_AI B (sa + 3) i)).trans (congrArg (fun f => upd f (o.length) (bm_AI B (sa + 3) i)) (show bm_AI B ta = (bm_AI B ta) from rfl)))
          have Z4 : fz (fun y => y = ta) B (bm_setI B ta (o.length) (bm_AI B (sa + 3) i)) := fz_trans (fz_rfl _ B) ⟨fr_mono (fun _ q => q) (fr_setI _ ta _ _), rfl, rfl⟩
          refine g_inc (y := nI ((o.length) + 1)) (pc' := 65) cd_St_copyTerms rfl l2 (by decide) (nI_add (o.length) 1) rfl (fun lv el => ?_)
          have l0 := tm_lk el l0 rfl (by decide)
          have l1 := tm_lk el l1 rfl (by decide)
          have l3 := tm_lk el l3 rfl (by decide)
          have l4 := tm_lk el l4 rfl (by decide)
          have l2 : lv.lookup 2 = some (.int (nI ((o.length) + 1))) := tm_lks el
          clear el
          refine g_inc (y := nI (i + 1)) (pc' := 68) cd_St_copyTerms rfl l4 (by decide) (nI_add i 1) rfl (fun lv el => ?_)
          have l0 := tm_lk el l0 rfl (by decide)
          have l1 := tm_lk el l1 rfl (by decide)
          have l2 := tm_lk el l2 rfl (by decide)
          have l3 := tm_lk el l3 rfl (by decide)
          have l4 : lv.lookup 4 = some (.int (nI (i + 1))) := tm_lks el
          clear el
          refine g_pure (pc' := 19) (st' := []) cd_St_copyTerms rfl rfl (fun _ _ => rfl) ?_
          have hf := Z4
          have e2 := fr_AI hf.1 hS.2.2.2.2.2.2.1.1 (by omega)
          have e5 := fr_AI hf.1 hS.2.2.2.2.2.2.2.2.1 (by omega)
          have hne : nz (A :: R) = A :: nz R := nz_n (fun q => c41 ((h0.2 _ _ h1).mpr q))
          exact ih (i + 1) (o ++ [A]) _ (StS_fr hS hf.1) (StA_fr hS hA hf.1 (by omega)) (by rw [e5]; exact ht) ⟨fr_lt hf.1 hta.1, (fr_K hf.1 hta.1).trans hta.2.1, (fr_AL hf.1 hta.1).trans hta.2.2⟩ (by rw [e2]; exact h2) (by omega) (by rw [show bm_AI _ ta = _ from A3]; exact FL_push ho h1) (by simp; omega) (fun B' lv2 q0 q1 r0 r1 r2 r3 => kk B' lv2 (by rw [hne]; simpa using q0) (fz_trans hf q1) r0 r1 (by rw [hne]; simpa using r2) r3) lv l0 l1 (by simpa using l2) l3 l4
theorem t_copyTerms {sc : tm_X} {d sa ta : Nat} {B : bm_H} {T : List Tm} {S : ST} {Q : Int32 → bm_H → Prop} (h0 : T0 T) (hR : RSt B T sa S) (hta : ta < bm_n B ∧ bm_K B ta = 13 ∧ bm_AL B ta = 2144) (hd : ta + 1 ≤ sa ∨ sa + 6 ≤ ta) (kk : ∀ B', FLg (bm_AI B' ta) T (st_terms S) 0 → fz (fun y => y = ta) B B' → Q (nI (st_terms S).length) B') : bm_Gi sc d 153 [.ref sa, .ref ta] B Q := by
  obtain ⟨hS, hA⟩ := RSt_S hR
  obtain ⟨f0, a0, b0, c0, e0⟩ := RSt_h0 hR
  obtain ⟨f1, a1, b1, c1, e1⟩ := RSt_h1 hR
  have n0 := nz_le (fl (st_l0 S))
  have n1 := nz_le (fl (st_l1 S))
  rw [fl_len] at n0 n1
  show bm_G sc d 153 0 [(0, .ref sa), (1, .ref ta)] [] B _
  generalize elv : ([(0, .ref sa), (1, .ref ta)] : tm_L) = lv
  have l0 : lv.lookup 0 = some (.ref sa) := by rw [← elv]; rfl
  have l1 : lv.lookup 1 = some (.ref ta) := by rw [← elv]; rfl
  clear elv
  refine g_k1 (v := 0) (pc' := 1) cd_St_copyTerms rfl (by decide) rfl ?_
  refine g_ist (pc' := 2) cd_St_copyTerms rfl (Or.inr ⟨_, rfl, rfl, rfl⟩) (by decide) rfl (fun lv el => ?_)
  have l0 := tm_lk el l0 rfl (by decide)
  have l1 := tm_lk el l1 rfl (by decide)
  have l2 : lv.lookup 2 = some (.int 0) := tm_lks el
  clear el
  refine g_k1 (v := 0) (pc' := 3) cd_St_copyTerms rfl (by decide) rfl ?_
  refine g_ist (pc' := 4) cd_St_copyTerms rfl (Or.inr ⟨_, rfl, rfl, rfl⟩) (by decide) rfl (fun lv el => ?_)
  have l0 := tm_lk el l0 rfl (by decide)
  have l1 := tm_lk el l1 rfl (by decide)
  have l2 := tm_lk el l2 rfl (by decide)
  have l3 : lv.lookup 3 = some (.int 0) := tm_lks el
  clear el
  refine g_ild (pc' := 5) cd_St_copyTerms rfl (Or.inr ⟨_, rfl, rfl, rfl⟩) l3 rfl ?_
  refine g_k1 (v := 2) (pc' := 6) cd_St_copyTerms rfl (by decide) rfl ?_
  refine g_if2 (t := 77) (pc' := 9) cd_St_copyTerms rfl rfl rfl (fun c6 => ?_) (fun c6 => ?_)
  · exact absurd (show (2 : Int32) ≤ 0 from c6) (by decide)
  · have c6 : ¬ (2 : Int32) ≤ 0 := c6
    refine g_k1 (v := 2) (pc' := 10) cd_St_copyTerms rfl (by decide) rfl ?_
    refine g_ald (pc' := 11) cd_St_copyTerms rfl (Or.inr ⟨_, rfl, rfl, rfl⟩) l0 rfl rfl ?_
    refine g_fR (c := 8) (k := 1) (x := (sa + 4)) (pc' := 14) cd_St_copyTerms rfl rfl rfl rfl rfl (by decide) hS.1.1 hS.1.2 hS.2.2.1 ?_
    refine g_ild (pc' := 15) cd_St_copyTerms rfl (Or.inr ⟨_, rfl, rfl, rfl⟩) l3 rfl ?_
    refine g_aI (x := nI f0) (pc' := 16) cd_St_copyTerms rfl rfl hS.2.2.2.2.2.2.2.1.1 hS.2.2.2.2.2.2.2.1.2.1 (by rw [show bm_AL B (sa + 4) = 2 from hS.2.2.2.2.2.2.2.1.2.2]; exact vp_in_nI (n := 0) (by decide) (by decide)) a0 ?_
    refine g_pure (pc' := 17) (st' := [.int (2 * (nI f0))]) cd_St_copyTerms rfl rfl (fun _ _ => rfl) ?_
    rw [show (2 * (nI f0) : Int32) = nI (2 * f0) from pk_mul 2 f0]
    refine g_ist (pc' := 19) cd_St_copyTerms rfl (Or.inl ⟨rfl, rfl⟩) (by decide) rfl (fun lv el => ?_)
    have l0 := tm_lk el l0 rfl (by decide)
    have l1 := tm_lk el l1 rfl (by decide)
    have l2 := tm_lk el l2 rfl (by decide)
    have l3 := tm_lk el l3 rfl (by decide)
    have l4 : lv.lookup 4 = some (.int (nI (2 * f0))) := tm_lks el
    clear el
    have hS0 := hS
    refine l_cpT0 h0 hd c0 (fl (st_l0 S)) (2 * f0) [] B hS hA b0 hta (EN_fl e0) (by rw [fl_len]; omega) (fun j A hj => by simp at hj) (by rw [fl_len]; simp; omega) (fun B0 lv hg0 hz0 l0 l1 l2 l3 => ?_) lv l0 l1 l2 l3 l4
    have hS1 := StS_fr hS hz0.1
    have hA1 := StA_fr hS hA hz0.1 (by omega)
    refine g_inc (y := 1) (pc' := 74) cd_St_copyTerms rfl l3 (by decide) (by decide) rfl (fun lv el => ?_)
    have l0 := tm_lk el l0 rfl (by decide)
    have l1 := tm_lk el l1 rfl (by decide)
    have l2 := tm_lk el l2 rfl (by decide)
    have l3 : lv.lookup 3 = some (.int 1) := tm_lks el
    clear el
    refine g_pure (pc' := 4) (st' := []) cd_St_copyTerms rfl rfl (fun _ _ => rfl) ?_
    refine g_ild (pc' := 5) cd_St_copyTerms rfl (Or.inr ⟨_, rfl, rfl, rfl⟩) l3 rfl ?_
    refine g_k1 (v := 2) (pc' := 6) cd_St_copyTerms rfl (by decide) rfl ?_
    refine g_if2 (t := 77) (pc' := 9) cd_St_copyTerms rfl rfl rfl (fun c6 => ?_) (fun c6 => ?_)
    · exact absurd (show (2 : Int32) ≤ 1 from c6) (by decide)
    · have c6 : ¬ (2 : Int32) ≤ 1 := c6
      refine g_k1 (v := 2) (pc' := 10) cd_St_copyTerms rfl (by decide) rfl ?_
      refine g_ald (pc' := 11) cd_St_copyTerms rfl (Or.inr ⟨_, rfl, rfl, rfl⟩) l0 rfl rfl ?_
      refine g_fR (c := 8) (k := 1) (x := (sa + 4)) (pc' := 14) cd_St_copyTerms rfl rfl rfl rfl rfl (by decide) hS1.1.1 hS1.1.2 hS1.2.2.1 ?_
      refine g_ild (pc' := 15) cd_St_copyTerms rfl (Or.inr ⟨_, rfl, rfl, rfl⟩) l3 rfl ?_
      refine g_aI (x := nI f1) (pc' := 16) cd_St_copyTerms rfl rfl hS1.2.2.2.2.2.2.2.1.1 hS1.2.2.2.2.2.2.2.1.2.1 (by rw [show bm_AL B0 (sa + 4) = 2 from hS1.2.2.2.2.2.2.2.1.2.2]; exact vp_in_nI (n := 1) (by decide) (by decide)) (by rw [fr_AI hz0.1 hS0.2.2.2.2.2.2.2.1.1 (by omega)]; exact a1) ?_
      refine g_pure (pc' := 17) (st' := [.int (2 * (nI f1))]) cd_St_copyTerms rfl rfl (fun _ _ => rfl) ?_
      rw [show (2 * (nI f1) : Int32) = nI (2 * f1) from pk_mul 2 f1]
      refine g_ist (pc' := 19) cd_St_copyTerms rfl (Or.inl ⟨rfl, rfl⟩) (by decide) rfl (fun lv el => ?_)
      have l0 := tm_lk el l0 rfl (by decide)
      have l1 := tm_lk el l1 rfl (by decide)
      have l2 := tm_lk el l2 rfl (by decide)
      have l3 := tm_lk el l3 rfl (by decide)
      have l4 : lv.lookup 4 = some (.int (nI (2 * f1))) := tm_lks el
      clear el
      refine l_cpT1 h0 hd c1 (fl (st_l1 S)) (2 * f1) ([] ++ nz (fl (st_l0 S))) B0 hS1 hA1 (by rw [fr_AI hz0.1 hS.2.2.2.2.2.2.2.2.1 (by omega)]; exact b1) ⟨fr_lt hz0.1 hta.1, (fr_K hz0.1 hta.1).trans hta.2.1, (fr_AL hz0.1 hta.1).trans hta.2.2⟩ (by rw [fr_AI hz0.1 hS.2.2.2.2.2.2.1.1 (by omega)]; exact EN_fl e1) (by rw [fl_len]; omega) hg0 (by rw [fl_len]; simp; omega) (fun B1 lv hg1 hz1 l0 l1 l2 l3 => ?_) lv l0 l1 l2 l3 l4
      refine g_inc (y := 2) (pc' := 74) cd_St_copyTerms rfl l3 (by decide) (by decide) rfl (fun lv el => ?_)
      have l0 := tm_lk el l0 rfl (by decide)
      have l1 := tm_lk el l1 rfl (by decide)
      have l2 := tm_lk el l2 rfl (by decide)
      have l3 : lv.lookup 3 = some (.int 2) := tm_lks el
      clear el
      refine g_pure (pc' := 4) (st' := []) cd_St_copyTerms rfl rfl (fun _ _ => rfl) ?_
      refine g_ild (pc' := 5) cd_St_copyTerms rfl (Or.inr ⟨_, rfl, rfl, rfl⟩) l3 rfl ?_
      refine g_k1 (v := 2) (pc' := 6) cd_St_copyTerms rfl (by decide) rfl ?_
      refine g_if2 (t := 77) (pc' := 9) cd_St_copyTerms rfl rfl rfl (fun c6 => ?_) (fun c6 => ?_)
      · have c6 : (2 : Int32) ≤ 2 := c6
        refine g_ild (pc' := 78) cd_St_copyTerms rfl (Or.inr ⟨_, rfl, rfl, rfl⟩) l2 rfl ?_
        exact g_reti cd_St_copyTerms rfl ⟨_, rfl, (kk B1 hg1 (fz_trans hz0 hz1))⟩
      · exact absurd (show ¬ (2 : Int32) ≤ 2 from c6) (by decide)
theorem t_entries {sc : tm_X} {d sa : Nat} {B : bm_H} {T : List Tm} {p : Bool} {P O : EN2} {c : Option Nat} {dn : Bool} {Q : Int32 → bm_H → Prop} (hR : RSt B T sa (p, P, O, c, dn)) (kk : Q (nI P.length) B) : bm_Gi sc d 163 [.ref sa] B Q := by
  have hS := hR.1.1
  cases p
  · show bm_G sc d 163 0 [(0, .ref sa)] [] B _
    generalize elv : ([(0, .ref sa)] : tm_L) = lv
    have l0 : lv.lookup 0 = some (.ref sa) := by rw [← elv]; rfl
    clear elv
    refine g_ald (pc' := 1) cd_St_entries rfl (Or.inr ⟨_, rfl, rfl, rfl⟩) l0 rfl rfl ?_
    refine g_fR (c := 8) (k := 2) (x := (sa + 5)) (pc' := 4) cd_St_entries rfl rfl rfl rfl rfl (by decide) hS.1.1 hS.1.2 hS.2.2.2.1 ?_
    refine g_ald (pc' := 5) cd_St_entries rfl (Or.inr ⟨_, rfl, rfl, rfl⟩) l0 rfl rfl ?_
    refine g_fI (c := 8) (k := 4) (x := 0) (pc' := 8) cd_St_entries rfl rfl rfl rfl rfl (by decide) hS.1.1 hS.1.2 hR.2.1.1 ?_
    refine g_aI (x := nI P.length) (pc' := 9) cd_St_entries rfl rfl hS.2.2.2.2.2.2.2.2.1 hS.2.2.2.2.2.2.2.2.2.1 (by rw [show bm_AL B (sa + 5) = 2 from hS.2.2.2.2.2.2.2.2.2.2]; exact vp_in_nI (n := 0) (by decide) (by decide)) hR.2.2.1.2.1 ?_
    exact g_reti cd_St_entries rfl ⟨_, rfl, kk⟩
  · show bm_G sc d 163 0 [(0, .ref sa)] [] B _
    generalize elv : ([(0, .ref sa)] : tm_L) = lv
    have l0 : lv.lookup 0 = some (.ref sa) := by rw [← elv]; rfl
    clear elv
    refine g_ald (pc' := 1) cd_St_entries rfl (Or.inr ⟨_, rfl, rfl, rfl⟩) l0 rfl rfl ?_
    refine g_fR (c := 8) (k := 2) (x := (sa + 5)) (pc' := 4) cd_St_entries rfl rfl rfl rfl rfl (by decide) hS.1.1 hS.1.2 hS.2.2.2.1 ?_
    refine g_ald (pc' := 5) cd_St_entries rfl (Or.inr ⟨_, rfl, rfl, rfl⟩) l0 rfl rfl ?_
    refine g_fI (c := 8) (k := 4) (x := 1) (pc' := 8) cd_St_entries rfl rfl rfl rfl rfl (by decide) hS.1.1 hS.1.2 hR.2.1.1 ?_
    refine g_aI (x := nI P.length) (pc' := 9) cd_St_entries rfl rfl hS.2.2.2.2.2.2.2.2.1 hS.2.2.2.2.2.2.2.2.2.1 (by rw [show bm_AL B (sa + 5) = 2 from hS.2.2.2.2.2.2.2.2.2.2]; exact vp_in_nI (n := 1) (by decide) (by decide)) hR.2.2.1.2.1 ?_
    exact g_reti cd_St_entries rfl ⟨_, rfl, kk⟩
