/-! The reference: front, exchange, newSession, agreed -/
theorem mjF_mjF (a b f : Nat → Int32) : mjF a (mjF b f) = mjF a f := by
  funext k
  unfold mjF
  split <;> rfl
theorem mjA_mjA (a b f : Nat → Nat → Int32) : mjA a (mjA b f) = mjA a f := by
  funext k
  unfold mjA
  split <;> rfl
theorem mx_tr {f f1 f2 : Nat → Int32} {A A1 A2 : Nat → Nat → Int32} {T T1 T2 : List Tm} {m m' q q' : Nat} {DL : List (Int32 × Int32)} {G W : Tm → Prop} (h : mx f f1 A A1 T T1 m q DL G W) (h2 : mx (mjF f1 f) f2 (mjA A1 A) A2 T1 T2 m' q' DL G W) : mx f f2 A A2 T T2 (m + m') (q + q') DL G W := by
  obtain ⟨a1, a2, a3, a4⟩ := h
  obtain ⟨b1, b2, b3, b4⟩ := h2
  rw [mjF_mjF, mjA_mjA] at b4
  have b3' : rc (A2 1) T2.length ≤ rc (A1 1) T1.length + q' := b3
  exact ⟨a1.trans b1, by omega, by omega, b4⟩
def frP (w : Nat → Int32) (a n r : Nat) : Nat → Int32 := fun j => if a + r ≤ j ∧ j < a + n then 0 else if a + n + r ≤ j ∧ j < a + 2 * n then w (j - n) else w j
theorem frP_n (w : Nat → Int32) (a n : Nat) : frP w a n n = w := funext fun j => by
  unfold frP
  rw [if_neg (by omega), if_neg (by omega)]
theorem frP_s (w : Nat → Int32) (a n r : Nat) (h : r < n) : upd (upd (frP w a n (r + 1)) (a + n + r) (frP w a n (r + 1) (a + r))) (a + r) 0 = frP w a n r := funext fun j => by
  have e : frP w a n (r + 1) (a + r) = w (a + r) := by unfold frP; rw [if_neg (by omega), if_neg (by omega)]
  rw [e]
  by_cases c : j = a + r
  · rw [c, upd_same]; unfold frP; rw [if_pos (by omega)]
  · rw [upd_ne c]
    by_cases c2 : j = a + n + r
    · rw [c2, upd_same]; unfold frP; rw [if_neg (by omega), if_pos (by omega)]; congr 1; omega
    · rw [upd_ne c2]
      unfold frP
      by_cases q1 : a + r ≤ j ∧ j < a + n
      · rw [if_pos q1, if_pos (by omega)]
      · rw [if_neg q1, if_neg (by omega)]
        by_cases q2 : a + n + r ≤ j ∧ j < a + 2 * n
        · rw [if_pos q2, if_pos (by omega)]
        · rw [if_neg q2, if_neg (by omega)]
def exP (w : Nat → Int32) (a n r : Nat) : Nat → Int32 := fun j => if a ≤ j ∧ j < a + r then w (j + n) else if a + n ≤ j ∧ j < a + n + r then w (j - n) else w j
theorem exP_0 (w : Nat → Int32) (a n : Nat) : exP w a n 0 = w := funext fun j => by
  unfold exP
  rw [if_neg (by omega), if_neg (by omega)]
theorem exP_s (w : Nat → Int32) (a n r : Nat) (h : r < n) : upd (upd (exP w a n r) (a + r) (exP w a n r (a + n + r))) (a + n + r) (exP w a n r (a + r)) = exP w a n (r + 1) := funext fun j => by
  have e : exP w a n r (a + r) = w (a + r) := by unfold exP; rw [if_neg (by omega), if_neg (by omega)]
  have e2 : exP w a n r (a + n + r) = w (a + n + r) := by unfold exP; rw [if_neg (by omega), if_neg (by omega)]
  rw [e, e2]
  by_cases c : j = a + n + r
  · rw [c, upd_same]; unfold exP; rw [if_neg (by omega), if_pos (by omega)]; congr 1; omega
  · rw [upd_ne c]
    by_cases c2 : j = a + r
    · rw [c2, upd_same]; unfold exP; rw [if_pos (by omega)]; congr 1; omega
    · rw [upd_ne c2]
      unfold exP
      by_cases q1 : a ≤ j ∧ j < a + r
      · rw [if_pos q1, if_pos (by omega)]
      · rw [if_neg q1, if_neg (show ¬ (a ≤ j ∧ j < a + (r + 1)) by omega)]
        by_cases q2 : a + n ≤ j ∧ j < a + n + r
        · rw [if_pos q2, if_pos (by omega)]
        · rw [if_neg q2, if_neg (by omega)]
theorem nI_nlt0 {r : Nat} (h : r < 1000000) : ¬ nI r < 0 := fun c => by have := Int32.lt_iff_toInt_lt.mp c; rw [nI_toInt (by omega)] at this; exact absurd this (by show ¬ ((r : Int) < 0); omega)
set_option maxRecDepth 100000 in
theorem l_mfront {sc : tm_X} {d : Nat} {f : Nat → Int32} {A : Nat → Nat → Int32} {a n : Nat} {Q : MS → Prop} {w : Nat → Int32} (hn : a + 2 * n ≤ 1602) (kk : Q (f, fset A 15 (frP w a n 0))) : ∀ r, r ≤ n → ∀ lv : tm_L, lv.lookup 0 = some (.ref 1482) → lv.lookup 1 = some (.int (nI a)) → lv.lookup 2 = some (.int (nI n)) →  lv.lookup 3 = some (.int (nI r - 1)) → mg sc d 222 4 lv [] (f, fset A 15 (frP w a n r)) (fun r s' => r = none ∧ Q s') := by
  intro r
  induction r with
  | zero =>
    intro hr lv l0 l1 l2 l3
    rw [show nI 0 - 1 = -1 by decide] at l3
    refine m_ild (pc' := 5) cd_Mo_front rfl (Or.inr ⟨_, rfl, rfl, rfl⟩) l3 rfl ?_
    refine m_if1 (t := 41) (pc' := 8) cd_Mo_front rfl rfl rfl (fun c5 => ?_) (fun c5 => ?_)
    · have c5 : ((-1) : Int32) < 0 := c5
      exact m_retv cd_Mo_front rfl ⟨rfl, kk⟩
    · exact absurd (show ¬ ((-1) : Int32) < 0 from c5) (by decide)
  | succ r ih =>
    intro hr lv l0 l1 l2 l3
    rw [show nI (r + 1) - 1 = nI r from pk_sub (a := r + 1) (b := 1) (by omega)] at l3
    refine m_ild (pc' := 5) cd_Mo_front rfl (Or.inr ⟨_, rfl, rfl, rfl⟩) l3 rfl ?_
    refine m_if1 (t := 41) (pc' := 8) cd_Mo_front rfl rfl rfl (fun c5 => ?_) (fun c5 => ?_)
    · have c5 : (nI r) < 0 := c5
      exact absurd c5 (nI_nlt0 (by omega))
    · have c5 : ¬ (nI r) < 0 := c5
      refine m_ald (pc' := 9) cd_Mo_front rfl (Or.inr ⟨_, rfl, rfl, rfl⟩) l0 rfl rfl ?_
      refine m_fR (r := 14) (a := 15) (ad := 1497) (pc' := 12) rfl rfl cd_Mo_front rfl rfl rfl rfl rfl ?_
      refine m_ild (pc' := 13) cd_Mo_front rfl (Or.inr ⟨_, rfl, rfl, rfl⟩) l1 rfl ?_
      refine m_ild (pc' := 14) cd_Mo_front rfl (Or.inr ⟨_, rfl, rfl, rfl⟩) l2 rfl ?_
      refine m_pure (pc' := 15) (st' := [.int ((nI a) + (nI n)), .ref 1497]) cd_Mo_front rfl rfl (fun _ _ => rfl) ?_
      refine m_eq (show ((nI a) + (nI n) : Int32) = nI (a + n) from nI_add a n) ?_
      refine m_ild (pc' := 16) cd_Mo_front rfl (Or.inr ⟨_, rfl, rfl, rfl⟩) l3 rfl ?_
      refine m_pure (pc' := 17) (st' := [.int ((nI (a + n)) + (nI r)), .ref 1497]) cd_Mo_front rfl rfl (fun _ _ => rfl) ?_
      refine m_eq (show ((nI (a + n)) + (nI r) : Int32) = nI ((a + n) + r) from nI_add (a + n) r) ?_
      refine m_ald (pc' := 18) cd_Mo_front rfl (Or.inr ⟨_, rfl, rfl, rfl⟩) l0 rfl rfl ?_
      refine m_fR (r := 14) (a := 15) (ad := 1497) (pc' := 21) rfl rfl cd_Mo_front rfl rfl rfl rfl rfl ?_
      refine m_ild (pc' := 22) cd_Mo_front rfl (Or.inr ⟨_, rfl, rfl, rfl⟩) l1 rfl ?_
      refine m_ild (pc' := 23) cd_Mo_front rfl (Or.inr ⟨_, rfl, rfl, rfl⟩) l3 rfl ?_
      refine m_pure (pc' := 24) (st' := [.int ((nI a) + (nI r)), .ref 1497, .int (nI ((a + n) + r)), .ref 1497]) cd_Mo_front rfl rfl (fun _ _ => rfl) ?_
      refine m_eq (show ((nI a) + (nI r) : Int32) = nI (a + r) from nI_add a r) ?_
      refine m_aI (r := 14) (a := 15) (g := (frP w a n (r + 1))) (x := ((frP w a n (r + 1)) (a + r))) (pc' := 25) rfl rfl cd_Mo_front rfl rfl rfl (vp_in_nI (by omega) (by decide)) (congrArg (frP w a n (r + 1)) (nI_clamp (by omega))) ?_
      refine m_aS (r := 14) (a := 15) (g := (frP w a n (r + 1))) (p := ((a + n) + r)) (pc' := 26) rfl rfl cd_Mo_front rfl rfl rfl (vp_in_nI (by omega) (by decide)) (nI_clamp (by omega)) ?_
      rw [fset_fset]
      refine m_ald (pc' := 27) cd_Mo_front rfl (Or.inr ⟨_, rfl, rfl, rfl⟩) l0 rfl rfl ?_
      refine m_fR (r := 14) (a := 15) (ad := 1497) (pc' := 30) rfl rfl cd_Mo_front rfl rfl rfl rfl rfl ?_
      refine m_ild (pc' := 31) cd_Mo_front rfl (Or.inr ⟨_, rfl, rfl, rfl⟩) l1 rfl ?_
      refine m_ild (pc' := 32) cd_Mo_front rfl (Or.inr ⟨_, rfl, rfl, rfl⟩) l3 rfl ?_
      refine m_pure (pc' := 33) (st' := [.int ((nI a) + (nI r)), .ref 1497]) cd_Mo_front rfl rfl (fun _ _ => rfl) ?_
      refine m_eq (show ((nI a) + (nI r) : Int32) = nI (a + r) from nI_add a r) ?_
      refine m_k1 (v := 0) (pc' := 34) cd_Mo_front rfl (by decide) rfl ?_
      refine m_aS (r := 14) (a := 15) (g := (upd (frP w a n (r + 1)) ((a + n) + r) ((frP w a n (r + 1)) (a + r)))) (p := (a + r)) (pc' := 35) rfl rfl cd_Mo_front rfl rfl rfl (vp_in_nI (by omega) (by decide)) (nI_clamp (by omega)) ?_
      rw [fset_fset]
      refine m_inc (y := nI r - 1) (pc' := 38) cd_Mo_front rfl l3 (by decide) (by rw [Int32.sub_eq_add_neg]; rfl) rfl (fun lv el => ?_)
      have l0 := tm_lk el l0 rfl (by decide)
      have l1 := tm_lk el l1 rfl (by decide)
      have l2 := tm_lk el l2 rfl (by decide)
      have l3 : lv.lookup 3 = some (.int (nI r - 1)) := tm_lks el
      clear el
      refine m_pure (pc' := 4) (st' := []) cd_Mo_front rfl rfl (fun _ _ => rfl) ?_
      rw [frP_s w a n r (by omega)]
      exact ih (by omega) lv l0 l1 l2 l3
set_option maxRecDepth 100000 in
theorem m_front {sc : tm_X} {d : Nat} {f : Nat → Int32} {A : Nat → Nat → Int32} {a n : Nat} {Q : MS → Prop} (hn : a + 2 * n ≤ 1602) (hn1 : 1 ≤ n) (kk : Q (f, fset A 15 (frP (A 15) a n 0))) : mGv sc (d + 0) 222 [.ref 1482, .int (nI a), .int (nI n)] (f, A) Q := by
  show mg sc (d + 0) 222 0 [(0, .ref 1482), (1, .int (nI a)), (2, .int (nI n))] [] (f, A) _
  generalize elv : ([(0, .ref 1482), (1, .int (nI a)), (2, .int (nI n))] : tm_L) = lv
  have l0 : lv.lookup 0 = some (.ref 1482) := by rw [← elv]; rfl
  have l1 : lv.lookup 1 = some (.int (nI a)) := by rw [← elv]; rfl
  have l2 : lv.lookup 2 = some (.int (nI n)) := by rw [← elv]; rfl
  clear elv
  refine m_ild (pc' := 1) cd_Mo_front rfl (Or.inr ⟨_, rfl, rfl, rfl⟩) l2 rfl ?_
  refine m_k1 (v := 1) (pc' := 2) cd_Mo_front rfl (by decide) rfl ?_
  refine m_pure (pc' := 3) (st' := [.int ((nI n) - 1)]) cd_Mo_front rfl rfl (fun _ _ => rfl) ?_
  refine m_eq (show ((nI n) - 1 : Int32) = nI (n - 1) from pk_sub (a := n) (b := 1) (by omega)) ?_
  refine m_ist (pc' := 4) cd_Mo_front rfl (Or.inr ⟨_, rfl, rfl, rfl⟩) (by decide) rfl (fun lv el => ?_)
  have l0 := tm_lk el l0 rfl (by decide)
  have l1 := tm_lk el l1 rfl (by decide)
  have l2 := tm_lk el l2 rfl (by decide)
  have l3 : lv.lookup 3 = some (.int (nI (n - 1))) := tm_lks el
  clear el
  have e0 : fset A 15 (frP (A 15) a n n) = A := by
    rw [frP_n]
    funext j
    unfold fset
    split
    · rename_i q; rw [q]
    · rfl
  have k := l_mfront (sc := sc) (d := d) (f := f) (A := A) (w := A 15) hn kk n (Nat.le_refl _) lv l0 l1 l2 (by rw [l3, ← pk_sub (a := n) (b := 1) hn1]; rfl)
  rw [e0] at k
  exact k
set_option maxRecDepth 100000 in
theorem l_mexch {sc : tm_X} {d : Nat} {f : Nat → Int32} {A : Nat → Nat → Int32} {a n : Nat} {Q : MS → Prop} {w : Nat → Int32} (hn : a + 2 * n ≤ 1602) (kk : Q (f, fset A 15 (exP w a n n))) : ∀ r k, k + r = n → ∀ lv : tm_L, lv.lookup 0 = some (.ref 1482) → lv.lookup 1 = some (.int (nI a)) → lv.lookup 2 = some (.int (nI n)) →  lv.lookup 3 = some (.int (nI k)) → mg sc d 240 2 lv [] (f, fset A 15 (exP w a n k)) (fun r s' => r = none ∧ Q s') := by
  intro r
  induction r with
  | zero =>
    intro k hk lv l0 l1 l2 l3
    have hk2 : k = n := by omega
    subst hk2
    refine m_ild (pc' := 3) cd_Mo_exchange rfl (Or.inr ⟨_, rfl, rfl, rfl⟩) l3 rfl ?_
    refine m_ild (pc' := 4) cd_Mo_exchange rfl (Or.inr ⟨_, rfl, rfl, rfl⟩) l2 rfl ?_
    refine m_if2 (t := 53) (pc' := 7) cd_Mo_exchange rfl rfl rfl (fun c4 => ?_) (fun c4 => ?_)
    · have c4 : (nI k) ≤ (nI k) := c4
      exact m_retv cd_Mo_exchange rfl ⟨rfl, kk⟩
    · have c4 : ¬ (nI k) ≤ (nI k) := c4
      exact absurd (Int32.le_refl _) c4
  | succ r ih =>
    intro k hk lv l0 l1 l2 l3
    refine m_ild (pc' := 3) cd_Mo_exchange rfl (Or.inr ⟨_, rfl, rfl, rfl⟩) l3 rfl ?_
    refine m_ild (pc' := 4) cd_Mo_exchange rfl (Or.inr ⟨_, rfl, rfl, rfl⟩) l2 rfl ?_
    refine m_if2 (t := 53) (pc' := 7) cd_Mo_exchange rfl rfl rfl (fun c4 => ?_) (fun c4 => ?_)
    · have c4 : (nI n) ≤ (nI k) := c4
      exact absurd c4 (nI_ge (by omega) (by omega))
    · have c4 : ¬ (nI n) ≤ (nI k) := c4
      refine m_ald (pc' := 8) cd_Mo_exchange rfl (Or.inr ⟨_, rfl, rfl, rfl⟩) l0 rfl rfl ?_
      refine m_fR (r := 14) (a := 15) (ad := 1497) (pc' := 11) rfl rfl cd_Mo_exchange rfl rfl rfl rfl rfl ?_
      refine m_ild (pc' := 12) cd_Mo_exchange rfl (Or.inr ⟨_, rfl, rfl, rfl⟩) l1 rfl ?_
      refine m_ild (pc' := 13) cd_Mo_exchange rfl (Or.inr ⟨_, rfl, rfl, rfl⟩) l3 rfl ?_
      refine m_pure (pc' := 14) (st' := [.int ((nI a) + (nI k)), .ref 1497]) cd_Mo_exchange rfl rfl (fun _ _ => rfl) ?_
      refine m_eq (show ((nI a) + (nI k) : Int32) = nI (a + k) from nI_add a k) ?_
      refine m_aI (r := 14) (a := 15) (g := (exP w a n k)) (x := ((exP w a n k) (a + k))) (pc' := 15) rfl rfl cd_Mo_exchange rfl rfl rfl (vp_in_nI (by omega) (by decide)) (congrArg (exP w a n k) (nI_clamp (by omega))) ?_
      refine m_ist (pc' := 17) cd_Mo_exchange rfl (Or.inl ⟨rfl, rfl⟩) (by decide) rfl (fun lv el => ?_)
      have l0 := tm_lk el l0 rfl (by decide)
      have l1 := tm_lk el l1 rfl (by decide)
      have l2 := tm_lk el l2 rfl (by decide)
      have l3 := tm_lk el l3 rfl (by decide)
      have l4 : lv.lookup 4 = some (.int (((exP w a n k) (a + k)))) := tm_lks el
      clear el
      refine m_ald (pc' := 18) cd_Mo_exchange rfl (Or.inr ⟨_, rfl, rfl, rfl⟩) l0 rfl rfl ?_
      refine m_fR (r := 14) (a := 15) (ad := 1497) (pc' := 21) rfl rfl cd_Mo_exchange rfl rfl rfl rfl rfl ?_
      refine m_ild (pc' := 22) cd_Mo_exchange rfl (Or.inr ⟨_, rfl, rfl, rfl⟩) l1 rfl ?_
      refine m_ild (pc' := 23) cd_Mo_exchange rfl (Or.inr ⟨_, rfl, rfl, rfl⟩) l3 rfl ?_
      refine m_pure (pc' := 24) (st' := [.int ((nI a) + (nI k)), .ref 1497]) cd_Mo_exchange rfl rfl (fun _ _ => rfl) ?_
      refine m_eq (show ((nI a) + (nI k) : Int32) = nI (a + k) from nI_add a k) ?_
      refine m_ald (pc' := 25) cd_Mo_exchange rfl (Or.inr ⟨_, rfl, rfl, rfl⟩) l0 rfl rfl ?_
      refine m_fR (r := 14) (a := 15) (ad := 1497) (pc' := 28) rfl rfl cd_Mo_exchange rfl rfl rfl rfl rfl ?_
      refine m_ild (pc' := 29) cd_Mo_exchange rfl (Or.inr ⟨_, rfl, rfl, rfl⟩) l1 rfl ?_
      refine m_ild (pc' := 30) cd_Mo_exchange rfl (Or.inr ⟨_, rfl, rfl, rfl⟩) l2 rfl ?_
      refine m_pure (pc' := 31) (st' := [.int ((nI a) + (nI n)), .ref 1497, .int (nI (a + k)), .ref 1497]) cd_Mo_exchange rfl rfl (fun _ _ => rfl) ?_
      refine m_eq (show ((nI a) + (nI n) : Int32) = nI (a + n) from nI_add a n) ?_
      refine m_ild (pc' := 32) cd_Mo_exchange rfl (Or.inr ⟨_, rfl, rfl, rfl⟩) l3 rfl ?_
      refine m_pure (pc' := 33) (st' := [.int ((nI (a + n)) + (nI k)), .ref 1497, .int (nI (a + k)), .ref 1497]) cd_Mo_exchange rfl rfl (fun _ _ => rfl) ?_
      refine m_eq (show ((nI (a + n)) + (nI k) : Int32) = nI ((a + n) + k) from nI_add (a + n) k) ?_
      refine m_aI (r := 14) (a := 15) (g := (exP w a n k)) (x := ((exP w a n k) ((a + n) + k))) (pc' := 34) rfl rfl cd_Mo_exchange rfl rfl rfl (vp_in_nI (by omega) (by decide)) (congrArg (exP w a n k) (nI_clamp (by omega))) ?_
      refine m_aS (r := 14) (a := 15) (g := (exP w a n k)) (p := (a + k)) (pc' := 35) rfl rfl cd_Mo_exchange rfl rfl rfl (vp_in_nI (by omega) (by decide)) (nI_clamp (by omega)) ?_
      rw [fset_fset]
      refine m_ald (pc' := 36) cd_Mo_exchange rfl (Or.inr ⟨_, rfl, rfl, rfl⟩) l0 rfl rfl ?_
      refine m_fR (r := 14) (a := 15) (ad := 1497) (pc' := 39) rfl rfl cd_Mo_exchange rfl rfl rfl rfl rfl ?_
      refine m_ild (pc' := 40) cd_Mo_exchange rfl (Or.inr ⟨_, rfl, rfl, rfl⟩) l1 rfl ?_
      refine m_ild (pc' := 41) cd_Mo_exchange rfl (Or.inr ⟨_, rfl, rfl, rfl⟩) l2 rfl ?_
      refine m_pure (pc' := 42) (st' := [.int ((nI a) + (nI n)), .ref 1497]) cd_Mo_exchange rfl rfl (fun _ _ => rfl) ?_
      refine m_eq (show ((nI a) + (nI n) : Int32) = nI (a + n) from nI_add a n) ?_
      refine m_ild (pc' := 43) cd_Mo_exchange rfl (Or.inr ⟨_, rfl, rfl, rfl⟩) l3 rfl ?_
      refine m_pure (pc' := 44) (st' := [.int ((nI (a + n)) + (nI k)), .ref 1497]) cd_Mo_exchange rfl rfl (fun _ _ => rfl) ?_
      refine m_eq (show ((nI (a + n)) + (nI k) : Int32) = nI ((a + n) + k) from nI_add (a + n) k) ?_
      refine m_ild (pc' := 46) cd_Mo_exchange rfl (Or.inl ⟨rfl, rfl⟩) l4 rfl ?_
      refine m_aS (r := 14) (a := 15) (g := (upd (exP w a n k) (a + k) ((exP w a n k) ((a + n) + k)))) (p := ((a + n) + k)) (pc' := 47) rfl rfl cd_Mo_exchange rfl rfl rfl (vp_in_nI (by omega) (by decide)) (nI_clamp (by omega)) ?_
      rw [fset_fset]
      refine m_inc (y := nI (k + 1)) (pc' := 50) cd_Mo_exchange rfl l3 (by decide) (nI_add k 1) rfl (fun lv el => ?_)
      have l0 := tm_lk el l0 rfl (by decide)
      have l1 := tm_lk el l1 rfl (by decide)
      have l2 := tm_lk el l2 rfl (by decide)
      have l4 := tm_lk el l4 rfl (by decide)
      have l3 : lv.lookup 3 = some (.int (nI (k + 1))) := tm_lks el
      clear el
      refine m_pure (pc' := 2) (st' := []) cd_Mo_exchange rfl rfl (fun _ _ => rfl) ?_
      have e1 : upd (upd (exP w a n k) (a + k) (exP w a n k (a + n + k))) (a + n + k) (exP w a n k (a + k)) = exP w a n (k + 1) := exP_s w a n k (by omega)
      rw [e1]
      exact ih (k + 1) (by omega) lv l0 l1 l2 l3
set_option maxRecDepth 100000 in
theorem m_exchange {sc : tm_X} {d : Nat} {f : Nat → Int32} {A : Nat → Nat → Int32} {a n : Nat} {Q : MS → Prop} (hn : a + 2 * n ≤ 1602) (kk : Q (f, fset A 15 (exP (A 15) a n n))) : mGv sc (d + 0) 240 [.ref 1482, .int (nI a), .int (nI n)] (f, A) Q := by
  show mg sc (d + 0) 240 0 [(0, .ref 1482), (1, .int (nI a)), (2, .int (nI n))] [] (f, A) _
  generalize elv : ([(0, .ref 1482), (1, .int (nI a)), (2, .int (nI n))] : tm_L) = lv
  have l0 : lv.lookup 0 = some (.ref 1482) := by rw [← elv]; rfl
  have l1 : lv.lookup 1 = some (.int (nI a)) := by rw [← elv]; rfl
  have l2 : lv.lookup 2 = some (.int (nI n)) := by rw [← elv]; rfl
  clear elv
  refine m_k1 (v := 0) (pc' := 1) cd_Mo_exchange rfl (by decide) rfl ?_
  refine m_ist (pc' := 2) cd_Mo_exchange rfl (Or.inr ⟨_, rfl, rfl, rfl⟩) (by decide) rfl (fun lv el => ?_)
  have l0 := tm_lk el l0 rfl (by decide)
  have l1 := tm_lk el l1 rfl (by decide)
  have l2 := tm_lk el l2 rfl (by decide)
  have l3 : lv.lookup 3 = some (.int 0) := tm_lks el
  clear el
  have e0 : fset A 15 (exP (A 15) a n 0) = A := by
    rw [exP_0]
    funext j
    unfold fset
    split
    · rename_i q; rw [q]
    · rfl
  have k := l_mexch (sc := sc) (d := d) (f := f) (A := A) (w := A 15) hn kk n 0 (by omega) lv l0 l1 l2 l3
  rw [e0] at k
  exact k
set_option maxRecDepth 100000 in
theorem m_newSes {sc : tm_X} {d : Nat} {f : Nat → Int32} {A : Nat → Nat → Int32} {p n : Nat} {Q : Int32 → MS → Prop} (hp : p < 6) (hn : n ≤ 2) (h24 : A 15 (24 + p) = nI n) (kk : Q (nI (30 + (2 * p + 0) * 38)) (f, fset A 15 (upd (frP (A 15) (30 + (2 * p + 0) * 38) 38 0) (24 + p) (nI (min (n + 1) 2))))) : mGi sc (d + 1) 221 [.ref 1482, .int (nI p)] (f, A) Q := by
  have hfr : frP (A 15) (30 + (2 * p + 0) * 38) 38 0 (24 + p) = nI n := by unfold frP; rw [if_neg (by omega), if_neg (by omega)]; exact h24
  show mg sc (d + 1) 221 0 [(0, .ref 1482), (1, .int (nI p))] [] (f, A) _
  generalize elv : ([(0, .ref 1482), (1, .int (nI p))] : tm_L) = lv
  have l0 : lv.lookup 0 = some (.ref 1482) := by rw [← elv]; rfl
  have l1 : lv.lookup 1 = some (.int (nI p)) := by rw [← elv]; rfl
  clear elv
  refine m_ald (pc' := 1) cd_Mo_newSession rfl (Or.inr ⟨_, rfl, rfl, rfl⟩) l0 rfl rfl ?_
  refine m_ild (pc' := 2) cd_Mo_newSession rfl (Or.inr ⟨_, rfl, rfl, rfl⟩) l1 rfl ?_
  refine m_k1 (v := 0) (pc' := 3) cd_Mo_newSession rfl (by decide) rfl ?_
  refine m_si (pc' := 6) cd_Mo_newSession rfl rfl rfl rfl rfl cd_Mo_sessionAt rfl (Nat.le_of_ble_eq_true rfl) (m_sessionAt ?_)
  show mg _ _ _ 6 _ [.int (nI (30 + (2 * p + 0) * 38)), .ref 1482] _ _
  refine m_k2 (v := 38) (pc' := 8) cd_Mo_newSession rfl (by decide) rfl ?_
  refine m_cv (pc' := 11) cd_Mo_newSession rfl rfl rfl rfl rfl cd_Mo_front rfl (Nat.le_of_ble_eq_true rfl) (m_front (a := (30 + (2 * p + 0) * 38)) (n := 38) (by omega) (by decide) ?_)
  show mg _ _ _ 11 _ [] _ _
  refine m_ald (pc' := 12) cd_Mo_newSession rfl (Or.inr ⟨_, rfl, rfl, rfl⟩) l0 rfl rfl ?_
  refine m_fR (r := 14) (a := 15) (ad := 1497) (pc' := 15) rfl rfl cd_Mo_newSession rfl rfl rfl rfl rfl ?_
  refine m_k2 (v := 24) (pc' := 17) cd_Mo_newSession rfl (by decide) rfl ?_
  refine m_ild (pc' := 18) cd_Mo_newSession rfl (Or.inr ⟨_, rfl, rfl, rfl⟩) l1 rfl ?_
  refine m_pure (pc' := 19) (st' := [.int ((24 : Int32) + (nI p)), .ref 1497]) cd_Mo_newSession rfl rfl (fun _ _ => rfl) ?_
  refine m_eq (show ((24 : Int32) + (nI p) : Int32) = nI (24 + p) from nI_add 24 p) ?_
  refine m_ald (pc' := 20) cd_Mo_newSession rfl (Or.inr ⟨_, rfl, rfl, rfl⟩) l0 rfl rfl ?_
  refine m_fR (r := 14) (a := 15) (ad := 1497) (pc' := 23) rfl rfl cd_Mo_newSession rfl rfl rfl rfl rfl ?_
  refine m_k2 (v := 24) (pc' := 25) cd_Mo_newSession rfl (by decide) rfl ?_
  refine m_ild (pc' := 26) cd_Mo_newSession rfl (Or.inr ⟨_, rfl, rfl, rfl⟩) l1 rfl ?_
  refine m_pure (pc' := 27) (st' := [.int ((24 : Int32) + (nI p)), .ref 1497, .int (nI (24 + p)), .ref 1497]) cd_Mo_newSession rfl rfl (fun _ _ => rfl) ?_
  refine m_eq (show ((24 : Int32) + (nI p) : Int32) = nI (24 + p) from nI_add 24 p) ?_
  refine m_aI (r := 14) (a := 15) (g := (frP (A 15) (30 + (2 * p + 0) * 38) 38 0)) (x := (nI n)) (pc' := 28) rfl rfl cd_Mo_newSession rfl rfl rfl (vp_in_nI (by omega) (by decide)) (by rw [(nI_clamp (by omega))]; exact hfr) ?_
  refine m_k1 (v := 2) (pc' := 29) cd_Mo_newSession rfl (by decide) rfl ?_
  refine m_if2 (t := 46) (pc' := 32) cd_Mo_newSession rfl rfl rfl (fun c29 => ?_) (fun c29 => ?_)
  · have c29 : (2 : Int32) ≤ (nI n) := c29
    refine m_k1 (v := 2) (pc' := 47) cd_Mo_newSession rfl (by decide) rfl ?_
    refine m_aS (r := 14) (a := 15) (g := (frP (A 15) (30 + (2 * p + 0) * 38) 38 0)) (p := (24 + p)) (pc' := 48) rfl rfl cd_Mo_newSession rfl rfl rfl (vp_in_nI (by omega) (by decide)) (nI_clamp (by omega)) ?_
    rw [fset_fset]
    refine m_ild (pc' := 49) cd_Mo_newSession rfl (Or.inr ⟨_, rfl, rfl, rfl⟩) l1 rfl ?_
    refine m_k1 (v := 0) (pc' := 50) cd_Mo_newSession rfl (by decide) rfl ?_
    refine m_si (pc' := 53) cd_Mo_newSession rfl rfl rfl rfl rfl cd_Mo_sessionAt rfl (Nat.le_of_ble_eq_true rfl) (m_sessionAt ?_)
    show mg _ _ _ 53 _ [.int (nI (30 + (2 * p + 0) * 38))] _ _
    exact m_reti cd_Mo_newSession rfl ⟨_, rfl, (by have hn2 : 2 ≤ n := (nI_leI (a := 2) (b := n) (by omega) (by omega)).mp c29; rw [show min (n + 1) 2 = 2 by omega] at kk; exact kk)⟩
  · have c29 : ¬ (2 : Int32) ≤ (nI n) := c29
    refine m_ald (pc' := 33) cd_Mo_newSession rfl (Or.inr ⟨_, rfl, rfl, rfl⟩) l0 rfl rfl ?_
    refine m_fR (r := 14) (a := 15) (ad := 1497) (pc' := 36) rfl rfl cd_Mo_newSession rfl rfl rfl rfl rfl ?_
    refine m_k2 (v := 24) (pc' := 38) cd_Mo_newSession rfl (by decide) rfl ?_
    refine m_ild (pc' := 39) cd_Mo_newSession rfl (Or.inr ⟨_, rfl, rfl, rfl⟩) l1 rfl ?_
    refine m_pure (pc' := 40) (st' := [.int ((24 : Int32) + (nI p)), .ref 1497, .int (nI (24 + p)), .ref 1497]) cd_Mo_newSession rfl rfl (fun _ _ => rfl) ?_
    refine m_eq (show ((24 : Int32) + (nI p) : Int32) = nI (24 + p) from nI_add 24 p) ?_
    refine m_aI (r := 14) (a := 15) (g := (frP (A 15) (30 + (2 * p + 0) * 38) 38 0)) (x := (nI n)) (pc' := 41) rfl rfl cd_Mo_newSession rfl rfl rfl (vp_in_nI (by omega) (by decide)) (by rw [(nI_clamp (by omega))]; exact hfr) ?_
    refine m_k1 (v := 1) (pc' := 42) cd_Mo_newSession rfl (by decide) rfl ?_
    refine m_pure (pc' := 43) (st' := [.int ((nI n) + 1), .int (nI (24 + p)), .ref 1497]) cd_Mo_newSession rfl rfl (fun _ _ => rfl) ?_
    refine m_eq (show ((nI n) + 1 : Int32) = nI (n + 1) from nI_add n 1) ?_
    refine m_pure (pc' := 47) (st' := [.int (nI (n + 1)), .int (nI (24 + p)), .ref 1497]) cd_Mo_newSession rfl rfl (fun _ _ => rfl) ?_
    refine m_aS (r := 14) (a := 15) (g := (frP (A 15) (30 + (2 * p + 0) * 38) 38 0)) (p := (24 + p)) (pc' := 48) rfl rfl cd_Mo_newSession rfl rfl rfl (vp_in_nI (by omega) (by decide)) (nI_clamp (by omega)) ?_
    rw [fset_fset]
    refine m_ild (pc' := 49) cd_Mo_newSession rfl (Or.inr ⟨_, rfl, rfl, rfl⟩) l1 rfl ?_
    refine m_k1 (v := 0) (pc' := 50) cd_Mo_newSession rfl (by decide) rfl ?_
    refine m_si (pc' := 53) cd_Mo_newSession rfl rfl rfl rfl rfl cd_Mo_sessionAt rfl (Nat.le_of_ble_eq_true rfl) (m_sessionAt ?_)
    show mg _ _ _ 53 _ [.int (nI (30 + (2 * p + 0) * 38))] _ _
    exact m_reti cd_Mo_newSession rfl ⟨_, rfl, (by have hn2 : n < 2 := Nat.lt_of_not_le (fun q => c29 ((nI_leI (a := 2) (b := n) (by omega) (by omega)).mpr q)); rw [show min (n + 1) 2 = n + 1 by omega] at kk; exact kk)⟩
set_option maxRecDepth 100000 in
theorem m_agreed {sc : tm_X} {d : Nat} {f : Nat → Int32} {A : Nat → Nat → Int32} {T : List Tm} {DL : List (Int32 × Int32)} {G Kw : Tm → Prop} {x y z o : Int32} {X Y Z O : Tm} {Q : Int32 → MS → Prop} (hM : MT f A T DL G Kw) (hl : T.length + 3 ≤ 4000) (hr : rc (A 1) T.length < 1000) (hx : tv T x X) (hy : tv T y Y) (hz : tv T z Z) (ho : tv T o O) (kk : ∀ f1 A1 T' r, mx f f1 A A1 T T' 3 0 DL G Kw → tv T' r (if tnil O = true then Tmx 3 (Tmx 1 (Tmx 0 X Y) Z) tz else Tmx 2 (Tmx 1 (Tmx 0 X Y) Z) O) → Q r (mjF f1 f, mjA A1 A)) : mGi sc (d + 4) 219 [.ref 1482, .int x, .int y, .int z, .int o] (f, A) Q := by
  show mg sc (d + 4) 219 0 [(0, .ref 1482), (1, .int x), (2, .int y), (3, .int z), (4, .int o)] [] (f, A) _
  generalize elv : ([(0, .ref 1482), (1, .int x), (2, .int y), (3, .int z), (4, .int o)] : tm_L) = lv
  have l0 : lv.lookup 0 = some (.ref 1482) := by rw [← elv]; rfl
  have l1 : lv.lookup 1 = some (.int x) := by rw [← elv]; rfl
  have l2 : lv.lookup 2 = some (.int y) := by rw [← elv]; rfl
  have l3 : lv.lookup 3 = some (.int z) := by rw [← elv]; rfl
  have l4 : lv.lookup 4 = some (.int o) := by rw [← elv]; rfl
  clear elv
  refine m_ald (pc' := 1) cd_Mo_agreed rfl (Or.inr ⟨_, rfl, rfl, rfl⟩) l0 rfl rfl ?_
  refine m_k1 (v := 0) (pc' := 2) cd_Mo_agreed rfl (by decide) rfl ?_
  refine m_ild (pc' := 3) cd_Mo_agreed rfl (Or.inr ⟨_, rfl, rfl, rfl⟩) l1 rfl ?_
  refine m_ild (pc' := 4) cd_Mo_agreed rfl (Or.inr ⟨_, rfl, rfl, rfl⟩) l2 rfl ?_
  refine m_ci (pc' := 7) cd_Mo_agreed rfl rfl rfl rfl rfl cd_Mo_mix rfl (Nat.le_of_ble_eq_true rfl) (m_mix hM (by omega) hr hx hy (fun f1 A1 T1 r1 hx1 hr1 => ?_))
  obtain ⟨p1, q1, s1, hM1⟩ := hx1
  have hm1 : mx f f1 A A1 T T1 1 0 DL G Kw := ⟨p1, q1, s1, hM1⟩
  have s1 : rc (A1 1) T1.length ≤ rc (A 1) T.length := s1
  show mg _ _ _ 7 _ [.int r1] _ _
  refine m_ist (pc' := 9) cd_Mo_agreed rfl (Or.inl ⟨rfl, rfl⟩) (by decide) rfl (fun lv el => ?_)
  have l0 := tm_lk el l0 rfl (by decide)
  have l1 := tm_lk el l1 rfl (by decide)
  have l2 := tm_lk el l2 rfl (by decide)
  have l3 := tm_lk el l3 rfl (by decide)
  have l4 := tm_lk el l4 rfl (by decide)
  have l5 : lv.lookup 5 = some (.int r1) := tm_lks el
  clear el
  refine m_ald (pc' := 10) cd_Mo_agreed rfl (Or.inr ⟨_, rfl, rfl, rfl⟩) l0 rfl rfl ?_
  refine m_k1 (v := 1) (pc' := 11) cd_Mo_agreed rfl (by decide) rfl ?_
  refine m_ild (pc' := 13) cd_Mo_agreed rfl (Or.inl ⟨rfl, rfl⟩) l5 rfl ?_
  refine m_ild (pc' := 14) cd_Mo_agreed rfl (Or.inr ⟨_, rfl, rfl, rfl⟩) l3 rfl ?_
  refine m_ci (pc' := 17) cd_Mo_agreed rfl rfl rfl rfl rfl cd_Mo_mix rfl (Nat.le_of_ble_eq_true rfl) (m_mix hM1 (by omega) (show rc (A1 1) T1.length < 1000 by omega) hr1 (tv_mono p1 hz) (fun f2 A2 T2 r2 hx2 hr2 => ?_))
  have hm2 := mx_tr hm1 hx2
  rw [mjF_mjF, mjA_mjA]
  obtain ⟨p2, q2, s2, hM2⟩ := hm2
  have hm2 : mx f f2 A A2 T T2 2 0 DL G Kw := ⟨p2, q2, s2, hM2⟩
  have s2 : rc (A2 1) T2.length ≤ rc (A 1) T.length := s2
  show mg _ _ _ 17 _ [.int r2] _ _
  refine m_ist (pc' := 19) cd_Mo_agreed rfl (Or.inl ⟨rfl, rfl⟩) (by decide) rfl (fun lv el => ?_)
  have l0 := tm_lk el l0 rfl (by decide)
  have l1 := tm_lk el l1 rfl (by decide)
  have l2 := tm_lk el l2 rfl (by decide)
  have l3 := tm_lk el l3 rfl (by decide)
  have l4 := tm_lk el l4 rfl (by decide)
  have l5 := tm_lk el l5 rfl (by decide)
  have l6 : lv.lookup 6 = some (.int r2) := tm_lks el
  clear el
  refine m_ild (pc' := 21) cd_Mo_agreed rfl (Or.inl ⟨rfl, rfl⟩) l4 rfl ?_
  refine m_if1 (t := 35) (pc' := 24) cd_Mo_agreed rfl rfl rfl (fun c21 => ?_) (fun c21 => ?_)
  · have c21 : ¬ o = 0 := c21
    refine m_ald (pc' := 36) cd_Mo_agreed rfl (Or.inr ⟨_, rfl, rfl, rfl⟩) l0 rfl rfl ?_
    refine m_k1 (v := 2) (pc' := 37) cd_Mo_agreed rfl (by decide) rfl ?_
    refine m_ild (pc' := 39) cd_Mo_agreed rfl (Or.inl ⟨rfl, rfl⟩) l6 rfl ?_
    refine m_ild (pc' := 41) cd_Mo_agreed rfl (Or.inl ⟨rfl, rfl⟩) l4 rfl ?_
    refine m_ci (pc' := 44) cd_Mo_agreed rfl rfl rfl rfl rfl cd_Mo_mix rfl (Nat.le_of_ble_eq_true rfl) (m_mix hM2 (by omega) (show rc (A2 1) T2.length < 1000 by omega) hr2 (tv_mono p2 ho) (fun f3 A3 T3 r3 hx3 hr3 => ?_))
    have hm3 := mx_tr hm2 hx3
    rw [mjF_mjF, mjA_mjA]
    show mg _ _ _ 44 _ [.int r3] _ _
    exact m_reti cd_Mo_agreed rfl ⟨_, rfl, (kk f3 A3 T3 r3 hm3 (by rw [if_neg (fun q => c21 ((MT_0 hM ho).mpr (tnil_iff.mp q)))]; exact hr3))⟩
  · have c21 : o = 0 := Classical.not_not.mp c21
    refine m_ald (pc' := 25) cd_Mo_agreed rfl (Or.inr ⟨_, rfl, rfl, rfl⟩) l0 rfl rfl ?_
    refine m_k1 (v := 3) (pc' := 26) cd_Mo_agreed rfl (by decide) rfl ?_
    refine m_ild (pc' := 28) cd_Mo_agreed rfl (Or.inl ⟨rfl, rfl⟩) l6 rfl ?_
    refine m_k1 (v := 0) (pc' := 29) cd_Mo_agreed rfl (by decide) rfl ?_
    refine m_ci (pc' := 32) cd_Mo_agreed rfl rfl rfl rfl rfl cd_Mo_mix rfl (Nat.le_of_ble_eq_true rfl) (m_mix hM2 (by omega) (show rc (A2 1) T2.length < 1000 by omega) hr2 (MT_z hM2) (fun f3 A3 T3 r3 hx3 hr3 => ?_))
    have hm3 := mx_tr hm2 hx3
    rw [mjF_mjF, mjA_mjA]
    show mg _ _ _ 32 _ [.int r3] _ _
    refine m_pure (pc' := 44) (st' := [.int r3]) cd_Mo_agreed rfl rfl (fun _ _ => rfl) ?_
    exact m_reti cd_Mo_agreed rfl ⟨_, rfl, (kk f3 A3 T3 r3 hm3 (by rw [if_pos (tnil_iff.mpr ((MT_0 hM ho).mp c21))]; exact hr3))⟩
