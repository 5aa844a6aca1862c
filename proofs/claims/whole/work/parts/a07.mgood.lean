/-! The reference: GOOD ROWS; terms forgotten -/
def brb (g : Nat → Int32) : Nat → Nat → Bool
  | _, 0 => true
  | k, m + 1 => decide (g k = 0) && brb g (k + 1) m
def ib_msk (v : Int32) : Bool := !decide (v < 0) && !decide (64 ≤ v)
theorem i32_lec {v a b : Int32} (h : a.toInt + 1 = b.toInt) : v ≤ a ↔ ¬ b ≤ v := by
  rw [Int32.not_le, Int32.le_iff_toInt_le, Int32.lt_iff_toInt_lt]
  omega
theorem dec_not {p q : Prop} [Decidable p] [Decidable q] (h : p ↔ ¬ q) : decide p = !decide q := by
  by_cases c : q
  · rw [decide_eq_true c, decide_eq_false (fun z => h.mp z c)]; rfl
  · rw [decide_eq_false c, decide_eq_true (h.mpr c)]; rfl
section WI
variable {sc : tm_X} {d : Nat} {f : Nat → Int32} {A : Nat → Nat → Int32} {v : Int32} {Q : Int32 → MS → Prop}
theorem m_w5 (kk : Q (bz (ib_dev v)) (f, A)) : mGi sc (d + 0) 215 [.int v, .int 0, .int 5] (f, A) Q := m_within (by rw [dec_not (i32_lec (a := 5) (b := 6) (by decide))]; exact kk)
theorem m_w3 (kk : Q (bz (ib_grp v)) (f, A)) : mGi sc (d + 0) 215 [.int v, .int 0, .int 3] (f, A) Q := m_within (by rw [dec_not (i32_lec (a := 3) (b := 4) (by decide))]; exact kk)
theorem m_w9 (kk : Q (bz (ib_idx v)) (f, A)) : mGi sc (d + 0) 215 [.int v, .int 0, .int 9999] (f, A) Q := m_within (by rw [dec_not (i32_lec (a := 9999) (b := 10000) (by decide))]; exact kk)
theorem m_w63 (kk : Q (bz (ib_msk v)) (f, A)) : mGi sc (d + 0) 215 [.int v, .int 0, .int 63] (f, A) Q := m_within (by rw [dec_not (i32_lec (a := 63) (b := 64) (by decide))]; exact kk)
end WI
set_option maxRecDepth 100000 in
theorem l_bare {sc : tm_X} {d : Nat} {f : Nat → Int32} {A : Nat → Nat → Int32} {T : List Tm} {DL : List (Int32 × Int32)} {G W : Tm → Prop} {i hi : Nat} {X : Tm} {Q : Int32 → MS → Prop} (hM : MT f A T DL G W) (hX : T[i]? = some X) (hk7 : kd X = 7) (h8 : hi ≤ 8) : ∀ (m k : Nat) (e : Bool), k + m = hi → Q (bz (e && brb (mrw (A 1) (A 7) i) k m)) (f, A) → ∀ lv : tm_L, lv.lookup 0 = some (.ref 1482) → lv.lookup 1 = some (.int (nI i)) → lv.lookup 3 = some (.int (nI hi)) → lv.lookup 4 = some (.int (bz e)) → lv.lookup 5 = some (.int (nI k)) → mg sc (d + 1) 216 6 lv [] (f, A) (fun r s' => ∃ x, r = some (.int x) ∧ Q x s') := by
  intro m
  induction m with
  | zero =>
    intro k e hke kk lv l0 l1 l3 l4 l5
    have hk2 : k = hi := by omega
    subst hk2
    refine m_ild (pc' := 8) cd_Mo_isBare rfl (Or.inl ⟨rfl, rfl⟩) l5 rfl ?_
    refine m_ild (pc' := 9) cd_Mo_isBare rfl (Or.inr ⟨_, rfl, rfl, rfl⟩) l3 rfl ?_
    refine m_if2 (t := 40) (pc' := 12) cd_Mo_isBare rfl rfl rfl (fun c9 => ?_) (fun c9 => ?_)
    · have c9 : (nI k) ≤ (nI k) := c9
      refine m_ild (pc' := 42) cd_Mo_isBare rfl (Or.inl ⟨rfl, rfl⟩) l4 rfl ?_
      exact m_retz cd_Mo_isBare rfl (by cases e <;> decide) ⟨_, rfl, (by unfold brb at kk; rw [Bool.and_true] at kk; exact kk)⟩
    · have c9 : ¬ (nI k) ≤ (nI k) := c9
      exact absurd (Int32.le_refl _) c9
  | succ m ih =>
    intro k e hke kk lv l0 l1 l3 l4 l5
    refine m_ild (pc' := 8) cd_Mo_isBare rfl (Or.inl ⟨rfl, rfl⟩) l5 rfl ?_
    refine m_ild (pc' := 9) cd_Mo_isBare rfl (Or.inr ⟨_, rfl, rfl, rfl⟩) l3 rfl ?_
    refine m_if2 (t := 40) (pc' := 12) cd_Mo_isBare rfl rfl rfl (fun c9 => ?_) (fun c9 => ?_)
    · have c9 : (nI hi) ≤ (nI k) := c9
      exact absurd c9 (nI_ge (by omega) (by omega))
    · have c9 : ¬ (nI hi) ≤ (nI k) := c9
      refine m_ild (pc' := 14) cd_Mo_isBare rfl (Or.inl ⟨rfl, rfl⟩) l4 rfl ?_
      refine m_if1 (t := 31) (pc' := 17) cd_Mo_isBare rfl rfl rfl (fun c14 => ?_) (fun c14 => ?_)
      · have c14 : e = false := bz_f c14
        refine m_k1 (v := 0) (pc' := 32) cd_Mo_isBare rfl (by decide) rfl ?_
        refine m_ist (pc' := 34) cd_Mo_isBare rfl (Or.inl ⟨rfl, rfl⟩) (by decide) rfl (fun lv el => ?_)
        have l0 := tm_lk el l0 rfl (by decide)
        have l1 := tm_lk el l1 rfl (by decide)
        have l3 := tm_lk el l3 rfl (by decide)
        have l5 := tm_lk el l5 rfl (by decide)
        have l4 : lv.lookup 4 = some (.int 0) := tm_lks el
        clear el
        refine m_inc (y := nI (k + 1)) (pc' := 37) cd_Mo_isBare rfl l5 (by decide) (nI_add k 1) rfl (fun lv el => ?_)
        have l0 := tm_lk el l0 rfl (by decide)
        have l1 := tm_lk el l1 rfl (by decide)
        have l3 := tm_lk el l3 rfl (by decide)
        have l4 := tm_lk el l4 rfl (by decide)
        have l5 : lv.lookup 5 = some (.int (nI (k + 1))) := tm_lks el
        clear el
        refine m_pure (pc' := 6) (st' := []) cd_Mo_isBare rfl rfl (fun _ _ => rfl) ?_
        rw [c14] at kk
        exact ih (k + 1) false (by omega) (by rw [Bool.false_and] at kk ⊢; exact kk) lv l0 l1 l3 l4 l5
      · have c14 : e = true := bz_t c14
        refine m_ald (pc' := 18) cd_Mo_isBare rfl (Or.inr ⟨_, rfl, rfl, rfl⟩) l0 rfl rfl ?_
        refine m_ild (pc' := 19) cd_Mo_isBare rfl (Or.inr ⟨_, rfl, rfl, rfl⟩) l1 rfl ?_
        refine m_ild (pc' := 21) cd_Mo_isBare rfl (Or.inl ⟨rfl, rfl⟩) l5 rfl ?_
        refine m_ci (pc' := 24) cd_Mo_isBare rfl rfl rfl rfl rfl cd_Mo_cell rfl (Nat.le_of_ble_eq_true rfl) (m_cell hM hX hk7 (by omega) ?_)
        show mg _ _ _ 24 _ [.int ((mrw (A 1) (A 7) i k))] _ _
        refine m_if1 (t := 31) (pc' := 27) cd_Mo_isBare rfl rfl rfl (fun c24 => ?_) (fun c24 => ?_)
        · have c24 : ¬ (mrw (A 1) (A 7) i k) = 0 := c24
          refine m_k1 (v := 0) (pc' := 32) cd_Mo_isBare rfl (by decide) rfl ?_
          refine m_ist (pc' := 34) cd_Mo_isBare rfl (Or.inl ⟨rfl, rfl⟩) (by decide) rfl (fun lv el => ?_)
          have l0 := tm_lk el l0 rfl (by decide)
          have l1 := tm_lk el l1 rfl (by decide)
          have l3 := tm_lk el l3 rfl (by decide)
          have l5 := tm_lk el l5 rfl (by decide)
          have l4 : lv.lookup 4 = some (.int 0) := tm_lks el
          clear el
          refine m_inc (y := nI (k + 1)) (pc' := 37) cd_Mo_isBare rfl l5 (by decide) (nI_add k 1) rfl (fun lv el => ?_)
          have l0 := tm_lk el l0 rfl (by decide)
          have l1 := tm_lk el l1 rfl (by decide)
          have l3 := tm_lk el l3 rfl (by decide)
          have l4 := tm_lk el l4 rfl (by decide)
          have l5 : lv.lookup 5 = some (.int (nI (k + 1))) := tm_lks el
          clear el
          refine m_pure (pc' := 6) (st' := []) cd_Mo_isBare rfl rfl (fun _ _ => rfl) ?_
          exact ih (k + 1) false (by omega) (by unfold brb at kk; rw [decide_eq_false c24] at kk; rw [Bool.false_and] at kk ⊢; rw [Bool.and_false] at kk; exact kk) lv l0 l1 l3 l4 l5
        · have c24 : (mrw (A 1) (A 7) i k) = 0 := Classical.not_not.mp c24
          refine m_k1 (v := 1) (pc' := 28) cd_Mo_isBare rfl (by decide) rfl ?_
          refine m_pure (pc' := 32) (st' := [.int 1]) cd_Mo_isBare rfl rfl (fun _ _ => rfl) ?_
          refine m_ist (pc' := 34) cd_Mo_isBare rfl (Or.inl ⟨rfl, rfl⟩) (by decide) rfl (fun lv el => ?_)
          have l0 := tm_lk el l0 rfl (by decide)
          have l1 := tm_lk el l1 rfl (by decide)
          have l3 := tm_lk el l3 rfl (by decide)
          have l5 := tm_lk el l5 rfl (by decide)
          have l4 : lv.lookup 4 = some (.int 1) := tm_lks el
          clear el
          refine m_inc (y := nI (k + 1)) (pc' := 37) cd_Mo_isBare rfl l5 (by decide) (nI_add k 1) rfl (fun lv el => ?_)
          have l0 := tm_lk el l0 rfl (by decide)
          have l1 := tm_lk el l1 rfl (by decide)
          have l3 := tm_lk el l3 rfl (by decide)
          have l4 := tm_lk el l4 rfl (by decide)
          have l5 : lv.lookup 5 = some (.int (nI (k + 1))) := tm_lks el
          clear el
          refine m_pure (pc' := 6) (st' := []) cd_Mo_isBare rfl rfl (fun _ _ => rfl) ?_
          exact ih (k + 1) true (by omega) (by unfold brb at kk; rw [c14, decide_eq_true c24, Bool.true_and, Bool.true_and] at kk; rw [Bool.true_and]; exact kk) lv l0 l1 l3 l4 l5
set_option maxRecDepth 100000 in
theorem m_isBare {sc : tm_X} {d : Nat} {f : Nat → Int32} {A : Nat → Nat → Int32} {T : List Tm} {DL : List (Int32 × Int32)} {G W : Tm → Prop} {i lo m : Nat} {X : Tm} {Q : Int32 → MS → Prop} (hM : MT f A T DL G W) (hX : T[i]? = some X) (hk7 : kd X = 7) (h8 : lo + m ≤ 8) (kk : Q (bz (brb (mrw (A 1) (A 7) i) lo m)) (f, A)) : mGi sc (d + 1) 216 [.ref 1482, .int (nI i), .int (nI lo), .int (nI (lo + m))] (f, A) Q := by
  show mg sc (d + 1) 216 0 [(0, .ref 1482), (1, .int (nI i)), (2, .int (nI lo)), (3, .int (nI (lo + m)))] [] (f, A) _
  generalize elv : ([(0, .ref 1482), (1, .int (nI i)), (2, .int (nI lo)), (3, .int (nI (lo + m)))] : tm_L) = lv
  have l0 : lv.lookup 0 = some (.ref 1482) := by rw [← elv]; rfl
  have l1 : lv.lookup 1 = some (.int (nI i)) := by rw [← elv]; rfl
  have l2 : lv.lookup 2 = some (.int (nI lo)) := by rw [← elv]; rfl
  have l3 : lv.lookup 3 = some (.int (nI (lo + m))) := by rw [← elv]; rfl
  clear elv
  refine m_k1 (v := 1) (pc' := 1) cd_Mo_isBare rfl (by decide) rfl ?_
  refine m_ist (pc' := 3) cd_Mo_isBare rfl (Or.inl ⟨rfl, rfl⟩) (by decide) rfl (fun lv el => ?_)
  have l0 := tm_lk el l0 rfl (by decide)
  have l1 := tm_lk el l1 rfl (by decide)
  have l2 := tm_lk el l2 rfl (by decide)
  have l3 := tm_lk el l3 rfl (by decide)
  have l4 : lv.lookup 4 = some (.int 1) := tm_lks el
  clear el
  refine m_ild (pc' := 4) cd_Mo_isBare rfl (Or.inr ⟨_, rfl, rfl, rfl⟩) l2 rfl ?_
  refine m_ist (pc' := 6) cd_Mo_isBare rfl (Or.inl ⟨rfl, rfl⟩) (by decide) rfl (fun lv el => ?_)
  have l0 := tm_lk el l0 rfl (by decide)
  have l1 := tm_lk el l1 rfl (by decide)
  have l2 := tm_lk el l2 rfl (by decide)
  have l3 := tm_lk el l3 rfl (by decide)
  have l4 := tm_lk el l4 rfl (by decide)
  have l5 : lv.lookup 5 = some (.int (nI lo)) := tm_lks el
  clear el
  exact l_bare hM hX hk7 h8 m lo true rfl (by rw [Bool.true_and]; exact kk) lv l0 l1 l3 l4 l5
theorem gq_congr (k : Nat) {a b c d a' b' c' d' : Int32} (ka kb kc kd : Int32) (ha : decide (a = 0) = decide (a' = 0)) (hb : decide (b = 0) = decide (b' = 0)) (hc : decide (c = 0) = decide (c' = 0)) (hd : decide (d = 0) = decide (d' = 0)) : gp k a b c d ka kb kc kd = gp k a' b' c' d' ka kb kc kd := by
  unfold gp
  split <;> simp only [ha, hb, hc, hd]
theorem nil_dec {x : Int32} {P : Tm} (h : x = 0 ↔ P = tz) : decide (bz (!tnil P) = 0) = decide (x = 0) := by
  by_cases c : P = tz
  · rw [decide_eq_true (h.mpr c), tnil_iff.mpr c]; rfl
  · rw [decide_eq_false (fun q => c (h.mp q)), Bool.eq_false_iff.mpr (fun q => c (tnil_iff.mp q))]; rfl
theorem Tg_r {f : Nat → Int32} {A : Nat → Nat → Int32} {T : List Tm} {DL : List (Int32 × Int32)} {G W : Tm → Prop} (hM : MT f A T DL G W) {i k : Nat} {X : Tm} (hX : T[i]? = some X) (hk7 : kd X = 7) : Tgood k X = (decide (mk X = nI k) && gn k (mrw (A 1) (A 7) i 0) (mrw (A 1) (A 7) i 1) (mrw (A 1) (A 7) i 2) (mrw (A 1) (A 7) i 3) && gp k (mrw (A 1) (A 7) i 4) (mrw (A 1) (A 7) i 5) (mrw (A 1) (A 7) i 6) (mrw (A 1) (A 7) i 7) (kd (pt X 0)) (kd (pt X 1)) (kd (pt X 2)) (kd (pt X 3))) := by
  obtain ⟨h1, h2⟩ := MT_cells hM hX hk7
  unfold Tgood
  rw [decide_eq_true hk7, Bool.true_and, h1 0 (by decide), h1 1 (by decide), h1 2 (by decide), h1 3 (by decide)]
  rw [gq_congr k (kd (pt X 0)) (kd (pt X 1)) (kd (pt X 2)) (kd (pt X 3)) (nil_dec (MT_0 hM (h2 0 (by decide)))) (nil_dec (MT_0 hM (h2 1 (by decide)))) (nil_dec (MT_0 hM (h2 2 (by decide)))) (nil_dec (MT_0 hM (h2 3 (by decide))))]
theorem TG1 {f : Nat → Int32} {A : Nat → Nat → Int32} {T : List Tm} {DL : List (Int32 × Int32)} {G W : Tm → Prop} (hM : MT f A T DL G W) {i : Nat} {X : Tm} (hX : T[i]? = some X) (hk7 : kd X = 7) (hm : mk X = 1) : Tgood 1 X = ((ib_dev (mrw (A 1) (A 7) i 0)) && ((brb (mrw (A 1) (A 7) i) 2 2) && ((decide (kd (pt X 0) = 2)) && ((brb (mrw (A 1) (A 7) i) 5 3))))) := by
  rw [Tg_r hM hX hk7, decide_eq_true (show mk X = nI 1 from hm), Bool.true_and]
  unfold gn gp
  simp only [brb, ib_msk]
  generalize ib_dev (mrw (A 1) (A 7) i 0) = b0
  generalize decide ((mrw (A 1) (A 7) i 2) = 0) = b1
  generalize decide ((mrw (A 1) (A 7) i 3) = 0) = b2
  generalize decide ((mrw (A 1) (A 7) i 6) = 0) = b3
  generalize decide ((mrw (A 1) (A 7) i 7) = 0) = b4
  generalize decide (kd (pt X 0) = 2) = b5
  generalize decide ((mrw (A 1) (A 7) i 5) = 0) = b6
  cases b0 <;> cases b1 <;> cases b2 <;> cases b3 <;> cases b4 <;> cases b5 <;> cases b6 <;> rfl
theorem TG2 {f : Nat → Int32} {A : Nat → Nat → Int32} {T : List Tm} {DL : List (Int32 × Int32)} {G W : Tm → Prop} (hM : MT f A T DL G W) {i : Nat} {X : Tm} (hX : T[i]? = some X) (hk7 : kd X = 7) (hm : mk X = 2) : Tgood 2 X = ((ib_dev (mrw (A 1) (A 7) i 0)) && ((brb (mrw (A 1) (A 7) i) 2 2) && ((decide (kd (pt X 0) = 2)) && ((brb (mrw (A 1) (A 7) i) 5 3))))) := by
  rw [Tg_r hM hX hk7, decide_eq_true (show mk X = nI 2 from hm), Bool.true_and]
  unfold gn gp
  simp only [brb, ib_msk]
  generalize ib_dev (mrw (A 1) (A 7) i 0) = b0
  generalize decide ((mrw (A 1) (A 7) i 2) = 0) = b1
  generalize decide ((mrw (A 1) (A 7) i 3) = 0) = b2
  generalize decide ((mrw (A 1) (A 7) i 6) = 0) = b3
  generalize decide ((mrw (A 1) (A 7) i 7) = 0) = b4
  generalize decide (kd (pt X 0) = 2) = b5
  generalize decide ((mrw (A 1) (A 7) i 5) = 0) = b6
  cases b0 <;> cases b1 <;> cases b2 <;> cases b3 <;> cases b4 <;> cases b5 <;> cases b6 <;> rfl
theorem TG3 {f : Nat → Int32} {A : Nat → Nat → Int32} {T : List Tm} {DL : List (Int32 × Int32)} {G W : Tm → Prop} (hM : MT f A T DL G W) {i : Nat} {X : Tm} (hX : T[i]? = some X) (hk7 : kd X = 7) (hm : mk X = 3) : Tgood 3 X = ((ib_dev (mrw (A 1) (A 7) i 0)) && ((ib_dev (mrw (A 1) (A 7) i 1)) && ((ib_idx (mrw (A 1) (A 7) i 2)) && ((ib_idx (mrw (A 1) (A 7) i 3)) && ((decide (kd (pt X 0) = 2)) && ((decide (kd (pt X 1) = 2)) && (((if (mrw (A 1) (A 7) i 6) = 0 then decide ((mrw (A 1) (A 7) i 7) = 0) else (decide (kd (pt X 2) = 2) && (decide ((mrw (A 1) (A 7) i 7) = 0) || decide (kd (pt X 3) = 2)))))))))))) := by
  rw [Tg_r hM hX hk7, decide_eq_true (show mk X = nI 3 from hm), Bool.true_and]
  have hz : (mrw (A 1) (A 7) i 6) = 0 → kd (pt X 2) = 0 := fun q => by
    have := (MT_0 hM ((MT_cells hM hX hk7).2 2 (by decide))).mp q
    rw [this]; rfl
  unfold gn gp
  by_cases c6 : (mrw (A 1) (A 7) i 6) = 0
  · rw [if_pos c6, decide_eq_true c6, hz c6]
    generalize ib_dev (mrw (A 1) (A 7) i 0) = b0
    generalize ib_dev (mrw (A 1) (A 7) i 1) = b1
    generalize ib_idx (mrw (A 1) (A 7) i 2) = b2
    generalize ib_idx (mrw (A 1) (A 7) i 3) = b3
    generalize decide ((mrw (A 1) (A 7) i 7) = 0) = b7
    generalize decide (kd (pt X 0) = 2) = k0
    generalize decide (kd (pt X 1) = 2) = k1
    cases b0 <;> cases b1 <;> cases b2 <;> cases b3 <;> cases b7 <;> cases k0 <;> cases k1 <;> simp
  · rw [if_neg c6, decide_eq_false c6]
    generalize ib_dev (mrw (A 1) (A 7) i 0) = b0
    generalize ib_dev (mrw (A 1) (A 7) i 1) = b1
    generalize ib_idx (mrw (A 1) (A 7) i 2) = b2
    generalize ib_idx (mrw (A 1) (A 7) i 3) = b3
    generalize decide ((mrw (A 1) (A 7) i 7) = 0) = b7
    generalize decide (kd (pt X 0) = 2) = k0
    generalize decide (kd (pt X 1) = 2) = k1
    generalize decide (kd (pt X 2) = 2) = k2
    generalize decide (kd (pt X 3) = 2) = k3
    cases b0 <;> cases b1 <;> cases b2 <;> cases b3 <;> cases b7 <;> cases k0 <;> cases k1 <;> cases k2 <;> cases k3 <;> rfl
theorem TG4 {f : Nat → Int32} {A : Nat → Nat → Int32} {T : List Tm} {DL : List (Int32 × Int32)} {G W : Tm → Prop} (hM : MT f A T DL G W) {i : Nat} {X : Tm} (hX : T[i]? = some X) (hk7 : kd X = 7) (hm : mk X = 4) : Tgood 4 X = ((brb (mrw (A 1) (A 7) i) 0 4) && ((!decide ((mrw (A 1) (A 7) i 4) = 0)) && ((brb (mrw (A 1) (A 7) i) 5 3)))) := by
  rw [Tg_r hM hX hk7, decide_eq_true (show mk X = nI 4 from hm), Bool.true_and]
  unfold gn gp
  simp only [brb, ib_msk]
  generalize decide ((mrw (A 1) (A 7) i 0) = 0) = b0
  generalize decide ((mrw (A 1) (A 7) i 1) = 0) = b1
  generalize decide ((mrw (A 1) (A 7) i 2) = 0) = b2
  generalize decide ((mrw (A 1) (A 7) i 3) = 0) = b3
  generalize decide ((mrw (A 1) (A 7) i 6) = 0) = b4
  generalize decide ((mrw (A 1) (A 7) i 7) = 0) = b5
  generalize decide ((mrw (A 1) (A 7) i 4) = 0) = b6
  generalize decide ((mrw (A 1) (A 7) i 5) = 0) = b7
  cases b0 <;> cases b1 <;> cases b2 <;> cases b3 <;> cases b4 <;> cases b5 <;> cases b6 <;> cases b7 <;> rfl
theorem TG5 {f : Nat → Int32} {A : Nat → Nat → Int32} {T : List Tm} {DL : List (Int32 × Int32)} {G W : Tm → Prop} (hM : MT f A T DL G W) {i : Nat} {X : Tm} (hX : T[i]? = some X) (hk7 : kd X = 7) (hm : mk X = 5) : Tgood 5 X = ((ib_grp (mrw (A 1) (A 7) i 0)) && ((!decide ((mrw (A 1) (A 7) i 1) < 1)) && ((ib_idx (mrw (A 1) (A 7) i 2)) && ((decide ((mrw (A 1) (A 7) i 3) = 0)) && ((!decide ((mrw (A 1) (A 7) i 4) = 0)) && ((decide (kd (pt X 1) = 2)) && ((brb (mrw (A 1) (A 7) i) 6 2)))))))) := by
  rw [Tg_r hM hX hk7, decide_eq_true (show mk X = nI 5 from hm), Bool.true_and]
  unfold gn gp
  simp only [brb, ib_msk]
  generalize ib_grp (mrw (A 1) (A 7) i 0) = b0
  generalize decide ((mrw (A 1) (A 7) i 1) < 1) = b1
  generalize ib_idx (mrw (A 1) (A 7) i 2) = b2
  generalize decide ((mrw (A 1) (A 7) i 3) = 0) = b3
  generalize decide ((mrw (A 1) (A 7) i 6) = 0) = b4
  generalize decide ((mrw (A 1) (A 7) i 7) = 0) = b5
  generalize decide ((mrw (A 1) (A 7) i 4) = 0) = b6
  generalize decide (kd (pt X 1) = 2) = b7
  cases b0 <;> cases b1 <;> cases b2 <;> cases b3 <;> cases b4 <;> cases b5 <;> cases b6 <;> cases b7 <;> rfl
theorem TG6 {f : Nat → Int32} {A : Nat → Nat → Int32} {T : List Tm} {DL : List (Int32 × Int32)} {G W : Tm → Prop} (hM : MT f A T DL G W) {i : Nat} {X : Tm} (hX : T[i]? = some X) (hk7 : kd X = 7) (hm : mk X = 6) : Tgood 6 X = ((ib_grp (mrw (A 1) (A 7) i 0)) && ((!decide ((mrw (A 1) (A 7) i 1) < 1)) && ((ib_msk (mrw (A 1) (A 7) i 2)) && ((brb (mrw (A 1) (A 7) i) 3 5))))) := by
  rw [Tg_r hM hX hk7, decide_eq_true (show mk X = nI 6 from hm), Bool.true_and]
  unfold gn gp
  simp only [brb, ib_msk]
  generalize ib_grp (mrw (A 1) (A 7) i 0) = b0
  generalize decide ((mrw (A 1) (A 7) i 1) < 1) = b1
  generalize decide ((mrw (A 1) (A 7) i 2) < 0) = b2
  generalize decide (64 ≤ (mrw (A 1) (A 7) i 2)) = b3
  generalize decide ((mrw (A 1) (A 7) i 3) = 0) = b4
  generalize decide ((mrw (A 1) (A 7) i 6) = 0) = b5
  generalize decide ((mrw (A 1) (A 7) i 7) = 0) = b6
  generalize decide ((mrw (A 1) (A 7) i 4) = 0) = b7
  generalize decide ((mrw (A 1) (A 7) i 5) = 0) = b8
  cases b0 <;> cases b1 <;> cases b2 <;> cases b3 <;> cases b4 <;> cases b5 <;> cases b6 <;> cases b7 <;> cases b8 <;> rfl
theorem TG7 {f : Nat → Int32} {A : Nat → Nat → Int32} {T : List Tm} {DL : List (Int32 × Int32)} {G W : Tm → Prop} (hM : MT f A T DL G W) {i : Nat} {X : Tm} (hX : T[i]? = some X) (hk7 : kd X = 7) (hm : mk X = 7) : Tgood 7 X = ((ib_grp (mrw (A 1) (A 7) i 0)) && ((ib_dev (mrw (A 1) (A 7) i 1)) && ((!decide ((mrw (A 1) (A 7) i 2) < 1)) && ((ib_idx (mrw (A 1) (A 7) i 3)) && ((brb (mrw (A 1) (A 7) i) 4 4)))))) := by
  rw [Tg_r hM hX hk7, decide_eq_true (show mk X = nI 7 from hm), Bool.true_and]
  unfold gn gp
  simp only [brb, ib_msk]
  generalize ib_grp (mrw (A 1) (A 7) i 0) = b0
  generalize ib_dev (mrw (A 1) (A 7) i 1) = b1
  generalize decide ((mrw (A 1) (A 7) i 2) < 1) = b2
  generalize ib_idx (mrw (A 1) (A 7) i 3) = b3
  generalize decide ((mrw (A 1) (A 7) i 6) = 0) = b4
  generalize decide ((mrw (A 1) (A 7) i 7) = 0) = b5
  generalize decide ((mrw (A 1) (A 7) i 4) = 0) = b6
  generalize decide ((mrw (A 1) (A 7) i 5) = 0) = b7
  cases b0 <;> cases b1 <;> cases b2 <;> cases b3 <;> cases b4 <;> cases b5 <;> cases b6 <;> cases b7 <;> rfl
set_option maxRecDepth 100000 in
theorem m_isGood1 {sc : tm_X} {d : Nat} {f : Nat → Int32} {A : Nat → Nat → Int32} {T : List Tm} {DL : List (Int32 × Int32)} {G W : Tm → Prop} {i : Nat} {X : Tm} {Q : Int32 → MS → Prop} (hM : MT f A T DL G W) (hX : T[i]? = some X) (kk : Q (bz (Tgood 1 X)) (f, A)) : mGi sc (d + 2) 212 [.ref 1482, .int (nI i), .int 1] (f, A) Q := by
  show mg sc (d + 2) 212 0 [(0, .ref 1482), (1, .int (nI i)), (2, .int 1)] [] (f, A) _
  generalize elv : ([(0, .ref 1482), (1, .int (nI i)), (2, .int 1)] : tm_L) = lv
  have l0 : lv.lookup 0 = some (.ref 1482) := by rw [← elv]; rfl
  have l1 : lv.lookup 1 = some (.int (nI i)) := by rw [← elv]; rfl
  have l2 : lv.lookup 2 = some (.int 1) := by rw [← elv]; rfl
  clear elv
  refine m_ald (pc' := 1) cd_Mo_isGood rfl (Or.inr ⟨_, rfl, rfl, rfl⟩) l0 rfl rfl ?_
  refine m_ild (pc' := 2) cd_Mo_isGood rfl (Or.inr ⟨_, rfl, rfl, rfl⟩) l1 rfl ?_
  refine m_ild (pc' := 3) cd_Mo_isGood rfl (Or.inr ⟨_, rfl, rfl, rfl⟩) l2 rfl ?_
  refine m_ci (pc' := 6) cd_Mo_isGood rfl rfl rfl rfl rfl cd_Mo_isRow rfl (Nat.le_of_ble_eq_true rfl) (m_isRow hM hX ?_)
  show mg _ _ _ 6 _ [.int (bz (decide (kd X = 7) && decide (mk X = 1)))] _ _
  refine m_if1 (t := 11) (pc' := 9) cd_Mo_isGood rfl rfl rfl (fun c6 => ?_) (fun c6 => ?_)
  · have c6 : (decide (kd X = 7) && decide (mk X = 1)) = true := bz_t c6
    refine m_ald (pc' := 12) cd_Mo_isGood rfl (Or.inr ⟨_, rfl, rfl, rfl⟩) l0 rfl rfl ?_
    refine m_ild (pc' := 13) cd_Mo_isGood rfl (Or.inr ⟨_, rfl, rfl, rfl⟩) l1 rfl ?_
    refine m_k1 (v := 0) (pc' := 14) cd_Mo_isGood rfl (by decide) rfl ?_
    have h67 := Bool.and_eq_true_iff.mp c6
    have hk7 : kd X = 7 := of_decide_eq_true h67.1
    have hm : mk X = 1 := of_decide_eq_true h67.2
    have hce := MT_cells hM hX hk7
    refine m_ci (pc' := 17) cd_Mo_isGood rfl rfl rfl rfl rfl cd_Mo_cell rfl (Nat.le_of_ble_eq_true rfl) (m_cell (k := 0) hM hX hk7 (by decide) ?_)
    show mg _ _ _ 17 _ [.int ((mrw (A 1) (A 7) i 0))] _ _
    refine m_ist (pc' := 18) cd_Mo_isGood rfl (Or.inr ⟨_, rfl, rfl, rfl⟩) (by decide) rfl (fun lv el => ?_)
    have l0 := tm_lk el l0 rfl (by decide)
    have l1 := tm_lk el l1 rfl (by decide)
    have l2 := tm_lk el l2 rfl (by decide)
    have l3 : lv.lookup 3 = some (.int ((mrw (A 1) (A 7) i 0))) := tm_lks el
    clear el
    refine m_ald (pc' := 19) cd_Mo_isGood rfl (Or.inr ⟨_, rfl, rfl, rfl⟩) l0 rfl rfl ?_
    refine m_ild (pc' := 20) cd_Mo_isGood rfl (Or.inr ⟨_, rfl, rfl, rfl⟩) l1 rfl ?_
    refine m_k1 (v := 1) (pc' := 21) cd_Mo_isGood rfl (by decide) rfl ?_
    refine m_ci (pc' := 24) cd_Mo_isGood rfl rfl rfl rfl rfl cd_Mo_cell rfl (Nat.le_of_ble_eq_true rfl) (m_cell (k := 1) hM hX hk7 (by decide) ?_)
    show mg _ _ _ 24 _ [.int ((mrw (A 1) (A 7) i 1))] _ _
    refine m_ist (pc' := 26) cd_Mo_isGood rfl (Or.inl ⟨rfl, rfl⟩) (by decide) rfl (fun lv el => ?_)
    have l0 := tm_lk el l0 rfl (by decide)
    have l1 := tm_lk el l1 rfl (by decide)
    have l2 := tm_lk el l2 rfl (by decide)
    have l3 := tm_lk el l3 rfl (by decide)
    have l4 : lv.lookup 4 = some (.int ((mrw (A 1) (A 7) i 1))) := tm_lks el
    clear el
    refine m_ald (pc' := 27) cd_Mo_isGood rfl (Or.inr ⟨_, rfl, rfl, rfl⟩) l0 rfl rfl ?_
    refine m_ild (pc' := 28) cd_Mo_isGood rfl (Or.inr ⟨_, rfl, rfl, rfl⟩) l1 rfl ?_
    refine m_k1 (v := 2) (pc' := 29) cd_Mo_isGood rfl (by decide) rfl ?_
    refine m_ci (pc' := 32) cd_Mo_isGood rfl rfl rfl rfl rfl cd_Mo_cell rfl (Nat.le_of_ble_eq_true rfl) (m_cell (k := 2) hM hX hk7 (by decide) ?_)
    show mg _ _ _ 32 _ [.int ((mrw (A 1) (A 7) i 2))] _ _
    refine m_ist (pc' := 34) cd_Mo_isGood rfl (Or.inl ⟨rfl, rfl⟩) (by decide) rfl (fun lv el => ?_)
    have l0 := tm_lk el l0 rfl (by decide)
    have l1 := tm_lk el l1 rfl (by decide)
    have l2 := tm_lk el l2 rfl (by decide)
    have l3 := tm_lk el l3 rfl (by decide)
    have l4 := tm_lk el l4 rfl (by decide)
    have l5 : lv.lookup 5 = some (.int ((mrw (A 1) (A 7) i 2))) := tm_lks el
    clear el
    refine m_ald (pc' := 35) cd_Mo_isGood rfl (Or.inr ⟨_, rfl, rfl, rfl⟩) l0 rfl rfl ?_
    refine m_ild (pc' := 36) cd_Mo_isGood rfl (Or.inr ⟨_, rfl, rfl, rfl⟩) l1 rfl ?_
    refine m_k1 (v := 3) (pc' := 37) cd_Mo_isGood rfl (by decide) rfl ?_
    refine m_ci (pc' := 40) cd_Mo_isGood rfl rfl rfl rfl rfl cd_Mo_cell rfl (Nat.le_of_ble_eq_true rfl) (m_cell (k := 3) hM hX hk7 (by decide) ?_)
    show mg _ _ _ 40 _ [.int ((mrw (A 1) (A 7) i 3))] _ _
    refine m_ist (pc' := 42) cd_Mo_isGood rfl (Or.inl ⟨rfl, rfl⟩) (by decide) rfl (fun lv el => ?_)
    have l0 := tm_lk el l0 rfl (by decide)
    have l1 := tm_lk el l1 rfl (by decide)
    have l2 := tm_lk el l2 rfl (by decide)
    have l3 := tm_lk el l3 rfl (by decide)
    have l4 := tm_lk el l4 rfl (by decide)
    have l5 := tm_lk el l5 rfl (by decide)
    have l6 : lv.lookup 6 = some (.int ((mrw (A 1) (A 7) i 3))) := tm_lks el
    clear el
    refine m_ild (pc' := 43) cd_Mo_isGood rfl (Or.inr ⟨_, rfl, rfl, rfl⟩) l2 rfl ?_
    refine m_pure (pc' := 80) (st' := []) cd_Mo_isGood rfl rfl (fun _ _ => rfl) ?_
    refine m_ild (pc' := 81) cd_Mo_isGood rfl (Or.inr ⟨_, rfl, rfl, rfl⟩) l3 rfl ?_
    refine m_k1 (v := 0) (pc' := 82) cd_Mo_isGood rfl (by decide) rfl ?_
    refine m_k1 (v := 5) (pc' := 83) cd_Mo_isGood rfl (by decide) rfl ?_
    refine m_si (pc' := 86) cd_Mo_isGood rfl rfl rfl rfl rfl cd_Mo_within rfl (Nat.le_of_ble_eq_true rfl) (m_w5 ?_)
    show mg _ _ _ 86 _ [.int (bz (ib_dev (mrw (A 1) (A 7) i 0)))] _ _
    refine m_if1 (t := 127) (pc' := 89) cd_Mo_isGood rfl rfl rfl (fun c86 => ?_) (fun c86 => ?_)
    · have c86 : (ib_dev (mrw (A 1) (A 7) i 0)) = false := bz_f c86
      refine m_k1 (v := 0) (pc' := 128) cd_Mo_isGood rfl (by decide) rfl ?_
      exact m_retz cd_Mo_isGood rfl (Or.inl rfl) ⟨_, rfl, (by rw [TG1 hM hX hk7 hm, c86] at kk; simp only [Bool.and_false, Bool.false_and, Bool.true_and, Bool.and_true, Bool.not_true, Bool.not_false, Bool.or_true, Bool.true_or, Bool.or_false, Bool.false_or] at kk; exact kk)⟩
    · have c86 : (ib_dev (mrw (A 1) (A 7) i 0)) = true := bz_t c86
      refine m_ald (pc' := 90) cd_Mo_isGood rfl (Or.inr ⟨_, rfl, rfl, rfl⟩) l0 rfl rfl ?_
      refine m_ild (pc' := 91) cd_Mo_isGood rfl (Or.inr ⟨_, rfl, rfl, rfl⟩) l1 rfl ?_
      refine m_k1 (v := 2) (pc' := 92) cd_Mo_isGood rfl (by decide) rfl ?_
      refine m_k1 (v := 4) (pc' := 93) cd_Mo_isGood rfl (by decide) rfl ?_
      refine m_ci (pc' := 96) cd_Mo_isGood rfl rfl rfl rfl rfl cd_Mo_isBare rfl (Nat.le_of_ble_eq_true rfl) (m_isBare (lo := 2) (m := 2) hM hX hk7 (by decide) ?_)
      show mg _ _ _ 96 _ [.int (bz (brb (mrw (A 1) (A 7) i) 2 2))] _ _
      refine m_if1 (t := 127) (pc' := 99) cd_Mo_isGood rfl rfl rfl (fun c96 => ?_) (fun c96 => ?_)
      · have c96 : (brb (mrw (A 1) (A 7) i) 2 2) = false := bz_f c96
        refine m_k1 (v := 0) (pc' := 128) cd_Mo_isGood rfl (by decide) rfl ?_
        exact m_retz cd_Mo_isGood rfl (Or.inl rfl) ⟨_, rfl, (by rw [TG1 hM hX hk7 hm, c86, c96] at kk; simp only [Bool.and_false, Bool.false_and, Bool.true_and, Bool.and_true, Bool.not_true, Bool.not_false, Bool.or_true, Bool.true_or, Bool.or_false, Bool.false_or] at kk; exact kk)⟩
      · have c96 : (brb (mrw (A 1) (A 7) i) 2 2) = true := bz_t c96
        refine m_ald (pc' := 100) cd_Mo_isGood rfl (Or.inr ⟨_, rfl, rfl, rfl⟩) l0 rfl rfl ?_
        refine m_ald (pc' := 101) cd_Mo_isGood rfl (Or.inr ⟨_, rfl, rfl, rfl⟩) l0 rfl rfl ?_
        refine m_ild (pc' := 102) cd_Mo_isGood rfl (Or.inr ⟨_, rfl, rfl, rfl⟩) l1 rfl ?_
        refine m_k1 (v := 4) (pc' := 103) cd_Mo_isGood rfl (by decide) rfl ?_
        refine m_ci (pc' := 106) cd_Mo_isGood rfl rfl rfl rfl rfl cd_Mo_cell rfl (Nat.le_of_ble_eq_true rfl) (m_cell (k := 4) hM hX hk7 (by decide) ?_)
        show mg _ _ _ 106 _ [.int ((mrw (A 1) (A 7) i 4)), .ref 1482] _ _
        refine m_ci (pc' := 109) cd_Mo_isGood rfl rfl rfl rfl rfl cd_Mo_isPublic rfl (Nat.le_of_ble_eq_true rfl) (m_isPublic hM (hce.2 0 (by decide)) ?_)
        show mg _ _ _ 109 _ [.int (bz (decide (kd (pt X 0) = 2)))] _ _
        refine m_if1 (t := 127) (pc' := 112) cd_Mo_isGood rfl rfl rfl (fun c109 => ?_) (fun c109 => ?_)
        · have c109 : (decide (kd (pt X 0) = 2)) = false := bz_f c109
          refine m_k1 (v := 0) (pc' := 128) cd_Mo_isGood rfl (by decide) rfl ?_
          exact m_retz cd_Mo_isGood rfl (Or.inl rfl) ⟨_, rfl, (by rw [TG1 hM hX hk7 hm, c86, c96, c109] at kk; simp only [Bool.and_false, Bool.false_and, Bool.true_and, Bool.and_true, Bool.not_true, Bool.not_false, Bool.or_true, Bool.true_or, Bool.or_false, Bool.false_or] at kk; exact kk)⟩
        · have c109 : (decide (kd (pt X 0) = 2)) = true := bz_t c109
          refine m_ald (pc' := 113) cd_Mo_isGood rfl (Or.inr ⟨_, rfl, rfl, rfl⟩) l0 rfl rfl ?_
          refine m_ild (pc' := 114) cd_Mo_isGood rfl (Or.inr ⟨_, rfl, rfl, rfl⟩) l1 rfl ?_
          refine m_k1 (v := 5) (pc' := 115) cd_Mo_isGood rfl (by decide) rfl ?_
          refine m_k2 (v := 8) (pc' := 117) cd_Mo_isGood rfl (by decide) rfl ?_
          refine m_ci (pc' := 120) cd_Mo_isGood rfl rfl rfl rfl rfl cd_Mo_isBare rfl (Nat.le_of_ble_eq_true rfl) (m_isBare (lo := 5) (m := 3) hM hX hk7 (by decide) ?_)
          show mg _ _ _ 120 _ [.int (bz (brb (mrw (A 1) (A 7) i) 5 3))] _ _
          refine m_if1 (t := 127) (pc' := 123) cd_Mo_isGood rfl rfl rfl (fun c120 => ?_) (fun c120 => ?_)
          · have c120 : (brb (mrw (A 1) (A 7) i) 5 3) = false := bz_f c120
            refine m_k1 (v := 0) (pc' := 128) cd_Mo_isGood rfl (by decide) rfl ?_
            exact m_retz cd_Mo_isGood rfl (Or.inl rfl) ⟨_, rfl, (by rw [TG1 hM hX hk7 hm, c86, c96, c109, c120] at kk; simp only [Bool.and_false, Bool.false_and, Bool.true_and, Bool.and_true, Bool.not_true, Bool.not_false, Bool.or_true, Bool.true_or, Bool.or_false, Bool.false_or] at kk; exact kk)⟩
          · have c120 : (brb (mrw (A 1) (A 7) i) 5 3) = true := bz_t c120
            refine m_k1 (v := 1) (pc' := 124) cd_Mo_isGood rfl (by decide) rfl ?_
            refine m_pure (pc' := 128) (st' := [.int 1]) cd_Mo_isGood rfl rfl (fun _ _ => rfl) ?_
            exact m_retz cd_Mo_isGood rfl (Or.inr rfl) ⟨_, rfl, (by rw [TG1 hM hX hk7 hm, c86, c96, c109, c120] at kk; simp only [Bool.and_false, Bool.false_and, Bool.true_and, Bool.and_true, Bool.not_true, Bool.not_false, Bool.or_true, Bool.true_or, Bool.or_false, Bool.false_or] at kk; exact kk)⟩
  · have c6 : (decide (kd X = 7) && decide (mk X = 1)) = false := bz_f (Classical.not_not.mp c6)
    refine m_k1 (v := 0) (pc' := 10) cd_Mo_isGood rfl (by decide) rfl ?_
    have hng : Tgood 1 X = false := Bool.eq_false_iff.mpr (fun q => by unfold Tgood at q; simp only [Bool.and_eq_true, decide_eq_true_eq] at q; rw [decide_eq_true q.1.1.1, decide_eq_true (show mk X = 1 from q.1.1.2)] at c6; cases c6)
    exact m_retz cd_Mo_isGood rfl (Or.inl rfl) ⟨_, rfl, (by rw [hng] at kk; exact kk)⟩
set_option maxRecDepth 100000 in
theorem m_isGood2 {sc : tm_X} {d : Nat} {f : Nat → Int32} {A : Nat → Nat → Int32} {T : List Tm} {DL : List (Int32 × Int32)} {G W : Tm → Prop} {i : Nat} {X : Tm} {Q : Int32 → MS → Prop} (hM : MT f A T DL G W) (hX : T[i]? = some X) (kk : Q (bz (Tgood 2 X)) (f, A)) : mGi sc (d + 2) 212 [.ref 1482, .int (nI i), .int 2] (f, A) Q := by
  show mg sc (d + 2) 212 0 [(0, .ref 1482), (1, .int (nI i)), (2, .int 2)] [] (f, A) _
  generalize elv : ([(0, .ref 1482), (1, .int (nI i)), (2, .int 2)] : tm_L) = lv
  have l0 : lv.lookup 0 = some (.ref 1482) := by rw [← elv]; rfl
  have l1 : lv.lookup 1 = some (.int (nI i)) := by rw [← elv]; rfl
  have l2 : lv.lookup 2 = some (.int 2) := by rw [← elv]; rfl
  clear elv
  refine m_ald (pc' := 1) cd_Mo_isGood rfl (Or.inr ⟨_, rfl, rfl, rfl⟩) l0 rfl rfl ?_
  refine m_ild (pc' := 2) cd_Mo_isGood rfl (Or.inr ⟨_, rfl, rfl, rfl⟩) l1 rfl ?_
  refine m_ild (pc' := 3) cd_Mo_isGood rfl (Or.inr ⟨_, rfl, rfl, rfl⟩) l2 rfl ?_
  refine m_ci (pc' := 6) cd_Mo_isGood rfl rfl rfl rfl rfl cd_Mo_isRow rfl (Nat.le_of_ble_eq_true rfl) (m_isRow hM hX ?_)
  show mg _ _ _ 6 _ [.int (bz (decide (kd X = 7) && decide (mk X = 2)))] _ _
  refine m_if1 (t := 11) (pc' := 9) cd_Mo_isGood rfl rfl rfl (fun c6 => ?_) (fun c6 => ?_)
  · have c6 : (decide (kd X = 7) && decide (mk X = 2)) = true := bz_t c6
    refine m_ald (pc' := 12) cd_Mo_isGood rfl (Or.inr ⟨_, rfl, rfl, rfl⟩) l0 rfl rfl ?_
    refine m_ild (pc' := 13) cd_Mo_isGood rfl (Or.inr ⟨_, rfl, rfl, rfl⟩) l1 rfl ?_
    refine m_k1 (v := 0) (pc' := 14) cd_Mo_isGood rfl (by decide) rfl ?_
    have h67 := Bool.and_eq_true_iff.mp c6
    have hk7 : kd X = 7 := of_decide_eq_true h67.1
    have hm : mk X = 2 := of_decide_eq_true h67.2
    have hce := MT_cells hM hX hk7
    refine m_ci (pc' := 17) cd_Mo_isGood rfl rfl rfl rfl rfl cd_Mo_cell rfl (Nat.le_of_ble_eq_true rfl) (m_cell (k := 0) hM hX hk7 (by decide) ?_)
    show mg _ _ _ 17 _ [.int ((mrw (A 1) (A 7) i 0))] _ _
    refine m_ist (pc' := 18) cd_Mo_isGood rfl (Or.inr ⟨_, rfl, rfl, rfl⟩) (by decide) rfl (fun lv el => ?_)
    have l0 := tm_lk el l0 rfl (by decide)
    have l1 := tm_lk el l1 rfl (by decide)
    have l2 := tm_lk el l2 rfl (by decide)
    have l3 : lv.lookup 3 = some (.int ((mrw (A 1) (A 7) i 0))) := tm_lks el
    clear el
    refine m_ald (pc' := 19) cd_Mo_isGood rfl (Or.inr ⟨_, rfl, rfl, rfl⟩) l0 rfl rfl ?_
    refine m_ild (pc' := 20) cd_Mo_isGood rfl (Or.inr ⟨_, rfl, rfl, rfl⟩) l1 rfl ?_
    refine m_k1 (v := 1) (pc' := 21) cd_Mo_isGood rfl (by decide) rfl ?_
    refine m_ci (pc' := 24) cd_Mo_isGood rfl rfl rfl rfl rfl cd_Mo_cell rfl (Nat.le_of_ble_eq_true rfl) (m_cell (k := 1) hM hX hk7 (by decide) ?_)
    show mg _ _ _ 24 _ [.int ((mrw (A 1) (A 7) i 1))] _ _
    refine m_ist (pc' := 26) cd_Mo_isGood rfl (Or.inl ⟨rfl, rfl⟩) (by decide) rfl (fun lv el => ?_)
    have l0 := tm_lk el l0 rfl (by decide)
    have l1 := tm_lk el l1 rfl (by decide)
    have l2 := tm_lk el l2 rfl (by decide)
    have l3 := tm_lk el l3 rfl (by decide)
    have l4 : lv.lookup 4 = some (.int ((mrw (A 1) (A 7) i 1))) := tm_lks el
    clear el
    refine m_ald (pc' := 27) cd_Mo_isGood rfl (Or.inr ⟨_, rfl, rfl, rfl⟩) l0 rfl rfl ?_
    refine m_ild (pc' := 28) cd_Mo_isGood rfl (Or.inr ⟨_, rfl, rfl, rfl⟩) l1 rfl ?_
    refine m_k1 (v := 2) (pc' := 29) cd_Mo_isGood rfl (by decide) rfl ?_
    refine m_ci (pc' := 32) cd_Mo_isGood rfl rfl rfl rfl rfl cd_Mo_cell rfl (Nat.le_of_ble_eq_true rfl) (m_cell (k := 2) hM hX hk7 (by decide) ?_)
    show mg _ _ _ 32 _ [.int ((mrw (A 1) (A 7) i 2))] _ _
    refine m_ist (pc' := 34) cd_Mo_isGood rfl (Or.inl ⟨rfl, rfl⟩) (by decide) rfl (fun lv el => ?_)
    have l0 := tm_lk el l0 rfl (by decide)
    have l1 := tm_lk el l1 rfl (by decide)
    have l2 := tm_lk el l2 rfl (by decide)
    have l3 := tm_lk el l3 rfl (by decide)
    have l4 := tm_lk el l4 rfl (by decide)
    have l5 : lv.lookup 5 = some (.int ((mrw (A 1) (A 7) i 2))) := tm_lks el
    clear el
    refine m_ald (pc' := 35) cd_Mo_isGood rfl (Or.inr ⟨_, rfl, rfl, rfl⟩) l0 rfl rfl ?_
    refine m_ild (pc' := 36) cd_Mo_isGood rfl (Or.inr ⟨_, rfl, rfl, rfl⟩) l1 rfl ?_
    refine m_k1 (v := 3) (pc' := 37) cd_Mo_isGood rfl (by decide) rfl ?_
    refine m_ci (pc' := 40) cd_Mo_isGood rfl rfl rfl rfl rfl cd_Mo_cell rfl (Nat.le_of_ble_eq_true rfl) (m_cell (k := 3) hM hX hk7 (by decide) ?_)
    show mg _ _ _ 40 _ [.int ((mrw (A 1) (A 7) i 3))] _ _
    refine m_ist (pc' := 42) cd_Mo_isGood rfl (Or.inl ⟨rfl, rfl⟩) (by decide) rfl (fun lv el => ?_)
    have l0 := tm_lk el l0 rfl (by decide)
    have l1 := tm_lk el l1 rfl (by decide)
    have l2 := tm_lk el l2 rfl (by decide)
    have l3 := tm_lk el l3 rfl (by decide)
    have l4 := tm_lk el l4 rfl (by decide)
    have l5 := tm_lk el l5 rfl (by decide)
    have l6 : lv.lookup 6 = some (.int ((mrw (A 1) (A 7) i 3))) := tm_lks el
    clear el
    refine m_ild (pc' := 43) cd_Mo_isGood rfl (Or.inr ⟨_, rfl, rfl, rfl⟩) l2 rfl ?_
    refine m_pure (pc' := 80) (st' := []) cd_Mo_isGood rfl rfl (fun _ _ => rfl) ?_
    refine m_ild (pc' := 81) cd_Mo_isGood rfl (Or.inr ⟨_, rfl, rfl, rfl⟩) l3 rfl ?_
    refine m_k1 (v := 0) (pc' := 82) cd_Mo_isGood rfl (by decide) rfl ?_
    refine m_k1 (v := 5) (pc' := 83) cd_Mo_isGood rfl (by decide) rfl ?_
    refine m_si (pc' := 86) cd_Mo_isGood rfl rfl rfl rfl rfl cd_Mo_within rfl (Nat.le_of_ble_eq_true rfl) (m_w5 ?_)
    show mg _ _ _ 86 _ [.int (bz (ib_dev (mrw (A 1) (A 7) i 0)))] _ _
    refine m_if1 (t := 127) (pc' := 89) cd_Mo_isGood rfl rfl rfl (fun c86 => ?_) (fun c86 => ?_)
    · have c86 : (ib_dev (mrw (A 1) (A 7) i 0)) = false := bz_f c86
      refine m_k1 (v := 0) (pc' := 128) cd_Mo_isGood rfl (by decide) rfl ?_
      exact m_retz cd_Mo_isGood rfl (Or.inl rfl) ⟨_, rfl, (by rw [TG2 hM hX hk7 hm, c86] at kk; simp only [Bool.and_false, Bool.false_and, Bool.true_and, Bool.and_true, Bool.not_true, Bool.not_false, Bool.or_true, Bool.true_or, Bool.or_false, Bool.false_or] at kk; exact kk)⟩
    · have c86 : (ib_dev (mrw (A 1) (A 7) i 0)) = true := bz_t c86
      refine m_ald (pc' := 90) cd_Mo_isGood rfl (Or.inr ⟨_, rfl, rfl, rfl⟩) l0 rfl rfl ?_
      refine m_ild (pc' := 91) cd_Mo_isGood rfl (Or.inr ⟨_, rfl, rfl, rfl⟩) l1 rfl ?_
      refine m_k1 (v := 2) (pc' := 92) cd_Mo_isGood rfl (by decide) rfl ?_
      refine m_k1 (v := 4) (pc' := 93) cd_Mo_isGood rfl (by decide) rfl ?_
      refine m_ci (pc' := 96) cd_Mo_isGood rfl rfl rfl rfl rfl cd_Mo_isBare rfl (Nat.le_of_ble_eq_true rfl) (m_isBare (lo := 2) (m := 2) hM hX hk7 (by decide) ?_)
      show mg _ _ _ 96 _ [.int (bz (brb (mrw (A 1) (A 7) i) 2 2))] _ _
      refine m_if1 (t := 127) (pc' := 99) cd_Mo_isGood rfl rfl rfl (fun c96 => ?_) (fun c96 => ?_)
      · have c96 : (brb (mrw (A 1) (A 7) i) 2 2) = false := bz_f c96
        refine m_k1 (v := 0) (pc' := 128) cd_Mo_isGood rfl (by decide) rfl ?_
        exact m_retz cd_Mo_isGood rfl (Or.inl rfl) ⟨_, rfl, (by rw [TG2 hM hX hk7 hm, c86, c96] at kk; simp only [Bool.and_false, Bool.false_and, Bool.true_and, Bool.and_true, Bool.not_true, Bool.not_false, Bool.or_true, Bool.true_or, Bool.or_false, Bool.false_or] at kk; exact kk)⟩
      · have c96 : (brb (mrw (A 1) (A 7) i) 2 2) = true := bz_t c96
        refine m_ald (pc' := 100) cd_Mo_isGood rfl (Or.inr ⟨_, rfl, rfl, rfl⟩) l0 rfl rfl ?_
        refine m_ald (pc' := 101) cd_Mo_isGood rfl (Or.inr ⟨_, rfl, rfl, rfl⟩) l0 rfl rfl ?_
        refine m_ild (pc' := 102) cd_Mo_isGood rfl (Or.inr ⟨_, rfl, rfl, rfl⟩) l1 rfl ?_
        refine m_k1 (v := 4) (pc' := 103) cd_Mo_isGood rfl (by decide) rfl ?_
        refine m_ci (pc' := 106) cd_Mo_isGood rfl rfl rfl rfl rfl cd_Mo_cell rfl (Nat.le_of_ble_eq_true rfl) (m_cell (k := 4) hM hX hk7 (by decide) ?_)
        show mg _ _ _ 106 _ [.int ((mrw (A 1) (A 7) i 4)), .ref 1482] _ _
        refine m_ci (pc' := 109) cd_Mo_isGood rfl rfl rfl rfl rfl cd_Mo_isPublic rfl (Nat.le_of_ble_eq_true rfl) (m_isPublic hM (hce.2 0 (by decide)) ?_)
        show mg _ _ _ 109 _ [.int (bz (decide (kd (pt X 0) = 2)))] _ _
        refine m_if1 (t := 127) (pc' := 112) cd_Mo_isGood rfl rfl rfl (fun c109 => ?_) (fun c109 => ?_)
        · have c109 : (decide (kd (pt X 0) = 2)) = false := bz_f c109
          refine m_k1 (v := 0) (pc' := 128) cd_Mo_isGood rfl (by decide) rfl ?_
          exact m_retz cd_Mo_isGood rfl (Or.inl rfl) ⟨_, rfl, (by rw [TG2 hM hX hk7 hm, c86, c96, c109] at kk; simp only [Bool.and_false, Bool.false_and, Bool.true_and, Bool.and_true, Bool.not_true, Bool.not_false, Bool.or_true, Bool.true_or, Bool.or_false, Bool.false_or] at kk; exact kk)⟩
        · have c109 : (decide (kd (pt X 0) = 2)) = true := bz_t c109
          refine m_ald (pc' := 113) cd_Mo_isGood rfl (Or.inr ⟨_, rfl, rfl, rfl⟩) l0 rfl rfl ?_
          refine m_ild (pc' := 114) cd_Mo_isGood rfl (Or.inr ⟨_, rfl, rfl, rfl⟩) l1 rfl ?_
          refine m_k1 (v := 5) (pc' := 115) cd_Mo_isGood rfl (by decide) rfl ?_
          refine m_k2 (v := 8) (pc' := 117) cd_Mo_isGood rfl (by decide) rfl ?_
          refine m_ci (pc' := 120) cd_Mo_isGood rfl rfl rfl rfl rfl cd_Mo_isBare rfl (Nat.le_of_ble_eq_true rfl) (m_isBare (lo := 5) (m := 3) hM hX hk7 (by decide) ?_)
          show mg _ _ _ 120 _ [.int (bz (brb (mrw (A 1) (A 7) i) 5 3))] _ _
          refine m_if1 (t := 127) (pc' := 123) cd_Mo_isGood rfl rfl rfl (fun c120 => ?_) (fun c120 => ?_)
          · have c120 : (brb (mrw (A 1) (A 7) i) 5 3) = false := bz_f c120
            refine m_k1 (v := 0) (pc' := 128) cd_Mo_isGood rfl (by decide) rfl ?_
            exact m_retz cd_Mo_isGood rfl (Or.inl rfl) ⟨_, rfl, (by rw [TG2 hM hX hk7 hm, c86, c96, c109, c120] at kk; simp only [Bool.and_false, Bool.false_and, Bool.true_and, Bool.and_true, Bool.not_true, Bool.not_false, Bool.or_true, Bool.true_or, Bool.or_false, Bool.false_or] at kk; exact kk)⟩
          · have c120 : (brb (mrw (A 1) (A 7) i) 5 3) = true := bz_t c120
            refine m_k1 (v := 1) (pc' := 124) cd_Mo_isGood rfl (by decide) rfl ?_
            refine m_pure (pc' := 128) (st' := [.int 1]) cd_Mo_isGood rfl rfl (fun _ _ => rfl) ?_
            exact m_retz cd_Mo_isGood rfl (Or.inr rfl) ⟨_, rfl, (by rw [TG2 hM hX hk7 hm, c86, c96, c109, c120] at kk; simp only [Bool.and_false, Bool.false_and, Bool.true_and, Bool.and_true, Bool.not_true, Bool.not_false, Bool.or_true, Bool.true_or, Bool.or_false, Bool.false_or] at kk; exact kk)⟩
  · have c6 : (decide (kd X = 7) && decide (mk X = 2)) = false := bz_f (Classical.not_not.mp c6)
    refine m_k1 (v := 0) (pc' := 10) cd_Mo_isGood rfl (by decide) rfl ?_
    have hng : Tgood 2 X = false := Bool.eq_false_iff.mpr (fun q => by unfold Tgood at q; simp only [Bool.and_eq_true, decide_eq_true_eq] at q; rw [decide_eq_true q.1.1.1, decide_eq_true (show mk X = 2 from q.1.1.2)] at c6; cases c6)
    exact m_retz cd_Mo_isGood rfl (Or.inl rfl) ⟨_, rfl, (by rw [hng] at kk; exact kk)⟩
set_option maxRecDepth 100000 in
theorem m_isGood3 {sc : tm_X} {d : Nat} {f : Nat → Int32} {A : Nat → Nat → Int32} {T : List Tm} {DL : List (Int32 × Int32)} {G W : Tm → Prop} {i : Nat} {X : Tm} {Q : Int32 → MS → Prop} (hM : MT f A T DL G W) (hX : T[i]? = some X) (kk : Q (bz (Tgood 3 X)) (f, A)) : mGi sc (d + 2) 212 [.ref 1482, .int (nI i), .int 3] (f, A) Q := by
  show mg sc (d + 2) 212 0 [(0, .ref 1482), (1, .int (nI i)), (2, .int 3)] [] (f, A) _
  generalize elv : ([(0, .ref 1482), (1, .int (nI i)), (2, .int 3)] : tm_L) = lv
  have l0 : lv.lookup 0 = some (.ref 1482) := by rw [← elv]; rfl
  have l1 : lv.lookup 1 = some (.int (nI i)) := by rw [← elv]; rfl
  have l2 : lv.lookup 2 = some (.int 3) := by rw [← elv]; rfl
  clear elv
  refine m_ald (pc' := 1) cd_Mo_isGood rfl (Or.inr ⟨_, rfl, rfl, rfl⟩) l0 rfl rfl ?_
  refine m_ild (pc' := 2) cd_Mo_isGood rfl (Or.inr ⟨_, rfl, rfl, rfl⟩) l1 rfl ?_
  refine m_ild (pc' := 3) cd_Mo_isGood rfl (Or.inr ⟨_, rfl, rfl, rfl⟩) l2 rfl ?_
  refine m_ci (pc' := 6) cd_Mo_isGood rfl rfl rfl rfl rfl cd_Mo_isRow rfl (Nat.le_of_ble_eq_true rfl) (m_isRow hM hX ?_)
  show mg _ _ _ 6 _ [.int (bz (decide (kd X = 7) && decide (mk X = 3)))] _ _
  refine m_if1 (t := 11) (pc' := 9) cd_Mo_isGood rfl rfl rfl (fun c6 => ?_) (fun c6 => ?_)
  · have c6 : (decide (kd X = 7) && decide (mk X = 3)) = true := bz_t c6
    refine m_ald (pc' := 12) cd_Mo_isGood rfl (Or.inr ⟨_, rfl, rfl, rfl⟩) l0 rfl rfl ?_
    refine m_ild (pc' := 13) cd_Mo_isGood rfl (Or.inr ⟨_, rfl, rfl, rfl⟩) l1 rfl ?_
    refine m_k1 (v := 0) (pc' := 14) cd_Mo_isGood rfl (by decide) rfl ?_
    have h67 := Bool.and_eq_true_iff.mp c6
    have hk7 : kd X = 7 := of_decide_eq_true h67.1
    have hm : mk X = 3 := of_decide_eq_true h67.2
    have hce := MT_cells hM hX hk7
    refine m_ci (pc' := 17) cd_Mo_isGood rfl rfl rfl rfl rfl cd_Mo_cell rfl (Nat.le_of_ble_eq_true rfl) (m_cell (k := 0) hM hX hk7 (by decide) ?_)
    show mg _ _ _ 17 _ [.int ((mrw (A 1) (A 7) i 0))] _ _
    refine m_ist (pc' := 18) cd_Mo_isGood rfl (Or.inr ⟨_, rfl, rfl, rfl⟩) (by decide) rfl (fun lv el => ?_)
    have l0 := tm_lk el l0 rfl (by decide)
    have l1 := tm_lk el l1 rfl (by decide)
    have l2 := tm_lk el l2 rfl (by decide)
    have l3 : lv.lookup 3 = some (.int ((mrw (A 1) (A 7) i 0))) := tm_lks el
    clear el
    refine m_ald (pc' := 19) cd_Mo_isGood rfl (Or.inr ⟨_, rfl, rfl, rfl⟩) l0 rfl rfl ?_
    refine m_ild (pc' := 20) cd_Mo_isGood rfl (Or.inr ⟨_, rfl, rfl, rfl⟩) l1 rfl ?_
    refine m_k1 (v := 1) (pc' := 21) cd_Mo_isGood rfl (by decide) rfl ?_
    refine m_ci (pc' := 24) cd_Mo_isGood rfl rfl rfl rfl rfl cd_Mo_cell rfl (Nat.le_of_ble_eq_true rfl) (m_cell (k := 1) hM hX hk7 (by decide) ?_)
    show mg _ _ _ 24 _ [.int ((mrw (A 1) (A 7) i 1))] _ _
    refine m_ist (pc' := 26) cd_Mo_isGood rfl (Or.inl ⟨rfl, rfl⟩) (by decide) rfl (fun lv el => ?_)
    have l0 := tm_lk el l0 rfl (by decide)
    have l1 := tm_lk el l1 rfl (by decide)
    have l2 := tm_lk el l2 rfl (by decide)
    have l3 := tm_lk el l3 rfl (by decide)
    have l4 : lv.lookup 4 = some (.int ((mrw (A 1) (A 7) i 1))) := tm_lks el
    clear el
    refine m_ald (pc' := 27) cd_Mo_isGood rfl (Or.inr ⟨_, rfl, rfl, rfl⟩) l0 rfl rfl ?_
    refine m_ild (pc' := 28) cd_Mo_isGood rfl (Or.inr ⟨_, rfl, rfl, rfl⟩) l1 rfl ?_
    refine m_k1 (v := 2) (pc' := 29) cd_Mo_isGood rfl (by decide) rfl ?_
    refine m_ci (pc' := 32) cd_Mo_isGood rfl rfl rfl rfl rfl cd_Mo_cell rfl (Nat.le_of_ble_eq_true rfl) (m_cell (k := 2) hM hX hk7 (by decide) ?_)
    show mg _ _ _ 32 _ [.int ((mrw (A 1) (A 7) i 2))] _ _
    refine m_ist (pc' := 34) cd_Mo_isGood rfl (Or.inl ⟨rfl, rfl⟩) (by decide) rfl (fun lv el => ?_)
    have l0 := tm_lk el l0 rfl (by decide)
    have l1 := tm_lk el l1 rfl (by decide)
    have l2 := tm_lk el l2 rfl (by decide)
    have l3 := tm_lk el l3 rfl (by decide)
    have l4 := tm_lk el l4 rfl (by decide)
    have l5 : lv.lookup 5 = some (.int ((mrw (A 1) (A 7) i 2))) := tm_lks el
    clear el
    refine m_ald (pc' := 35) cd_Mo_isGood rfl (Or.inr ⟨_, rfl, rfl, rfl⟩) l0 rfl rfl ?_
    refine m_ild (pc' := 36) cd_Mo_isGood rfl (Or.inr ⟨_, rfl, rfl, rfl⟩) l1 rfl ?_
    refine m_k1 (v := 3) (pc' := 37) cd_Mo_isGood rfl (by decide) rfl ?_
    refine m_ci (pc' := 40) cd_Mo_isGood rfl rfl rfl rfl rfl cd_Mo_cell rfl (Nat.le_of_ble_eq_true rfl) (m_cell (k := 3) hM hX hk7 (by decide) ?_)
    show mg _ _ _ 40 _ [.int ((mrw (A 1) (A 7) i 3))] _ _
    refine m_ist (pc' := 42) cd_Mo_isGood rfl (Or.inl ⟨rfl, rfl⟩) (by decide) rfl (fun lv el => ?_)
    have l0 := tm_lk el l0 rfl (by decide)
    have l1 := tm_lk el l1 rfl (by decide)
    have l2 := tm_lk el l2 rfl (by decide)
    have l3 := tm_lk el l3 rfl (by decide)
    have l4 := tm_lk el l4 rfl (by decide)
    have l5 := tm_lk el l5 rfl (by decide)
    have l6 : lv.lookup 6 = some (.int ((mrw (A 1) (A 7) i 3))) := tm_lks el
    clear el
    refine m_ild (pc' := 43) cd_Mo_isGood rfl (Or.inr ⟨_, rfl, rfl, rfl⟩) l2 rfl ?_
    refine m_pure (pc' := 129) (st' := []) cd_Mo_isGood rfl rfl (fun _ _ => rfl) ?_
    refine m_ild (pc' := 130) cd_Mo_isGood rfl (Or.inr ⟨_, rfl, rfl, rfl⟩) l3 rfl ?_
    refine m_k1 (v := 0) (pc' := 131) cd_Mo_isGood rfl (by decide) rfl ?_
    refine m_k1 (v := 5) (pc' := 132) cd_Mo_isGood rfl (by decide) rfl ?_
    refine m_si (pc' := 135) cd_Mo_isGood rfl rfl rfl rfl rfl cd_Mo_within rfl (Nat.le_of_ble_eq_true rfl) (m_w5 ?_)
    show mg _ _ _ 135 _ [.int (bz (ib_dev (mrw (A 1) (A 7) i 0)))] _ _
    refine m_if1 (t := 263) (pc' := 138) cd_Mo_isGood rfl rfl rfl (fun c135 => ?_) (fun c135 => ?_)
    · have c135 : (ib_dev (mrw (A 1) (A 7) i 0)) = false := bz_f c135
      refine m_k1 (v := 0) (pc' := 264) cd_Mo_isGood rfl (by decide) rfl ?_
      exact m_retz cd_Mo_isGood rfl (Or.inl rfl) ⟨_, rfl, (by rw [TG3 hM hX hk7 hm, c135] at kk; simp only [Bool.and_false, Bool.false_and, Bool.true_and, Bool.and_true, Bool.not_true, Bool.not_false, Bool.or_true, Bool.true_or, Bool.or_false, Bool.false_or] at kk; exact kk)⟩
    · have c135 : (ib_dev (mrw (A 1) (A 7) i 0)) = true := bz_t c135
      refine m_ild (pc' := 140) cd_Mo_isGood rfl (Or.inl ⟨rfl, rfl⟩) l4 rfl ?_
      refine m_k1 (v := 0) (pc' := 141) cd_Mo_isGood rfl (by decide) rfl ?_
      refine m_k1 (v := 5) (pc' := 142) cd_Mo_isGood rfl (by decide) rfl ?_
      refine m_si (pc' := 145) cd_Mo_isGood rfl rfl rfl rfl rfl cd_Mo_within rfl (Nat.le_of_ble_eq_true rfl) (m_w5 ?_)
      show mg _ _ _ 145 _ [.int (bz (ib_dev (mrw (A 1) (A 7) i 1)))] _ _
      refine m_if1 (t := 263) (pc' := 148) cd_Mo_isGood rfl rfl rfl (fun c145 => ?_) (fun c145 => ?_)
      · have c145 : (ib_dev (mrw (A 1) (A 7) i 1)) = false := bz_f c145
        refine m_k1 (v := 0) (pc' := 264) cd_Mo_isGood rfl (by decide) rfl ?_
        exact m_retz cd_Mo_isGood rfl (Or.inl rfl) ⟨_, rfl, (by rw [TG3 hM hX hk7 hm, c135, c145] at kk; simp only [Bool.and_false, Bool.false_and, Bool.true_and, Bool.and_true, Bool.not_true, Bool.not_false, Bool.or_true, Bool.true_or, Bool.or_false, Bool.false_or] at kk; exact kk)⟩
      · have c145 : (ib_dev (mrw (A 1) (A 7) i 1)) = true := bz_t c145
        refine m_ild (pc' := 150) cd_Mo_isGood rfl (Or.inl ⟨rfl, rfl⟩) l5 rfl ?_
        refine m_k1 (v := 0) (pc' := 151) cd_Mo_isGood rfl (by decide) rfl ?_
        refine m_k3 (v := 9999) (pc' := 154) cd_Mo_isGood rfl (by decide) rfl ?_
        refine m_si (pc' := 157) cd_Mo_isGood rfl rfl rfl rfl rfl cd_Mo_within rfl (Nat.le_of_ble_eq_true rfl) (m_w9 ?_)
        show mg _ _ _ 157 _ [.int (bz (ib_idx (mrw (A 1) (A 7) i 2)))] _ _
        refine m_if1 (t := 263) (pc' := 160) cd_Mo_isGood rfl rfl rfl (fun c157 => ?_) (fun c157 => ?_)
        · have c157 : (ib_idx (mrw (A 1) (A 7) i 2)) = false := bz_f c157
          refine m_k1 (v := 0) (pc' := 264) cd_Mo_isGood rfl (by decide) rfl ?_
          exact m_retz cd_Mo_isGood rfl (Or.inl rfl) ⟨_, rfl, (by rw [TG3 hM hX hk7 hm, c135, c145, c157] at kk; simp only [Bool.and_false, Bool.false_and, Bool.true_and, Bool.and_true, Bool.not_true, Bool.not_false, Bool.or_true, Bool.true_or, Bool.or_false, Bool.false_or] at kk; exact kk)⟩
        · have c157 : (ib_idx (mrw (A 1) (A 7) i 2)) = true := bz_t c157
          refine m_ild (pc' := 162) cd_Mo_isGood rfl (Or.inl ⟨rfl, rfl⟩) l6 rfl ?_
          refine m_k1 (v := 0) (pc' := 163) cd_Mo_isGood rfl (by decide) rfl ?_
          refine m_k3 (v := 9999) (pc' := 166) cd_Mo_isGood rfl (by decide) rfl ?_
          refine m_si (pc' := 169) cd_Mo_isGood rfl rfl rfl rfl rfl cd_Mo_within rfl (Nat.le_of_ble_eq_true rfl) (m_w9 ?_)
          show mg _ _ _ 169 _ [.int (bz (ib_idx (mrw (A 1) (A 7) i 3)))] _ _
          refine m_if1 (t := 263) (pc' := 172) cd_Mo_isGood rfl rfl rfl (fun c169 => ?_) (fun c169 => ?_)
          · have c169 : (ib_idx (mrw (A 1) (A 7) i 3)) = false := bz_f c169
            refine m_k1 (v := 0) (pc' := 264) cd_Mo_isGood rfl (by decide) rfl ?_
            exact m_retz cd_Mo_isGood rfl (Or.inl rfl) ⟨_, rfl, (by rw [TG3 hM hX hk7 hm, c135, c145, c157, c169] at kk; simp only [Bool.and_false, Bool.false_and, Bool.true_and, Bool.and_true, Bool.not_true, Bool.not_false, Bool.or_true, Bool.true_or, Bool.or_false, Bool.false_or] at kk; exact kk)⟩
          · have c169 : (ib_idx (mrw (A 1) (A 7) i 3)) = true := bz_t c169
            refine m_ald (pc' := 173) cd_Mo_isGood rfl (Or.inr ⟨_, rfl, rfl, rfl⟩) l0 rfl rfl ?_
            refine m_ald (pc' := 174) cd_Mo_isGood rfl (Or.inr ⟨_, rfl, rfl, rfl⟩) l0 rfl rfl ?_
            refine m_ild (pc' := 175) cd_Mo_isGood rfl (Or.inr ⟨_, rfl, rfl, rfl⟩) l1 rfl ?_
            refine m_k1 (v := 4) (pc' := 176) cd_Mo_isGood rfl (by decide) rfl ?_
            refine m_ci (pc' := 179) cd_Mo_isGood rfl rfl rfl rfl rfl cd_Mo_cell rfl (Nat.le_of_ble_eq_true rfl) (m_cell (k := 4) hM hX hk7 (by decide) ?_)
            show mg _ _ _ 179 _ [.int ((mrw (A 1) (A 7) i 4)), .ref 1482] _ _
            refine m_ci (pc' := 182) cd_Mo_isGood rfl rfl rfl rfl rfl cd_Mo_isPublic rfl (Nat.le_of_ble_eq_true rfl) (m_isPublic hM (hce.2 0 (by decide)) ?_)
            show mg _ _ _ 182 _ [.int (bz (decide (kd (pt X 0) = 2)))] _ _
            refine m_if1 (t := 263) (pc' := 185) cd_Mo_isGood rfl rfl rfl (fun c182 => ?_) (fun c182 => ?_)
            · have c182 : (decide (kd (pt X 0) = 2)) = false := bz_f c182
              refine m_k1 (v := 0) (pc' := 264) cd_Mo_isGood rfl (by decide) rfl ?_
              exact m_retz cd_Mo_isGood rfl (Or.inl rfl) ⟨_, rfl, (by rw [TG3 hM hX hk7 hm, c135, c145, c157, c169, c182] at kk; simp only [Bool.and_false, Bool.false_and, Bool.true_and, Bool.and_true, Bool.not_true, Bool.not_false, Bool.or_true, Bool.true_or, Bool.or_false, Bool.false_or] at kk; exact kk)⟩
            · have c182 : (decide (kd (pt X 0) = 2)) = true := bz_t c182
              refine m_ald (pc' := 186) cd_Mo_isGood rfl (Or.inr ⟨_, rfl, rfl, rfl⟩) l0 rfl rfl ?_
              refine m_ald (pc' := 187) cd_Mo_isGood rfl (Or.inr ⟨_, rfl, rfl, rfl⟩) l0 rfl rfl ?_
              refine m_ild (pc' := 188) cd_Mo_isGood rfl (Or.inr ⟨_, rfl, rfl, rfl⟩) l1 rfl ?_
              refine m_k1 (v := 5) (pc' := 189) cd_Mo_isGood rfl (by decide) rfl ?_
              refine m_ci (pc' := 192) cd_Mo_isGood rfl rfl rfl rfl rfl cd_Mo_cell rfl (Nat.le_of_ble_eq_true rfl) (m_cell (k := 5) hM hX hk7 (by decide) ?_)
              show mg _ _ _ 192 _ [.int ((mrw (A 1) (A 7) i 5)), .ref 1482] _ _
              refine m_ci (pc' := 195) cd_Mo_isGood rfl rfl rfl rfl rfl cd_Mo_isPublic rfl (Nat.le_of_ble_eq_true rfl) (m_isPublic hM (hce.2 1 (by decide)) ?_)
              show mg _ _ _ 195 _ [.int (bz (decide (kd (pt X 1) = 2)))] _ _
              refine m_if1 (t := 263) (pc' := 198) cd_Mo_isGood rfl rfl rfl (fun c195 => ?_) (fun c195 => ?_)
              · have c195 : (decide (kd (pt X 1) = 2)) = false := bz_f c195
                refine m_k1 (v := 0) (pc' := 264) cd_Mo_isGood rfl (by decide) rfl ?_
                exact m_retz cd_Mo_isGood rfl (Or.inl rfl) ⟨_, rfl, (by rw [TG3 hM hX hk7 hm, c135, c145, c157, c169, c182, c195] at kk; simp only [Bool.and_false, Bool.false_and, Bool.true_and, Bool.and_true, Bool.not_true, Bool.not_false, Bool.or_true, Bool.true_or, Bool.or_false, Bool.false_or] at kk; exact kk)⟩
              · have c195 : (decide (kd (pt X 1) = 2)) = true := bz_t c195
                refine m_ald (pc' := 199) cd_Mo_isGood rfl (Or.inr ⟨_, rfl, rfl, rfl⟩) l0 rfl rfl ?_
                refine m_ild (pc' := 200) cd_Mo_isGood rfl (Or.inr ⟨_, rfl, rfl, rfl⟩) l1 rfl ?_
                refine m_k2 (v := 6) (pc' := 202) cd_Mo_isGood rfl (by decide) rfl ?_
                refine m_ci (pc' := 205) cd_Mo_isGood rfl rfl rfl rfl rfl cd_Mo_cell rfl (Nat.le_of_ble_eq_true rfl) (m_cell (k := 6) hM hX hk7 (by decide) ?_)
                show mg _ _ _ 205 _ [.int ((mrw (A 1) (A 7) i 6))] _ _
                refine m_if1 (t := 221) (pc' := 208) cd_Mo_isGood rfl rfl rfl (fun c205 => ?_) (fun c205 => ?_)
                · have c205 : ¬ (mrw (A 1) (A 7) i 6) = 0 := c205
                  refine m_ald (pc' := 222) cd_Mo_isGood rfl (Or.inr ⟨_, rfl, rfl, rfl⟩) l0 rfl rfl ?_
                  refine m_ald (pc' := 223) cd_Mo_isGood rfl (Or.inr ⟨_, rfl, rfl, rfl⟩) l0 rfl rfl ?_
                  refine m_ild (pc' := 224) cd_Mo_isGood rfl (Or.inr ⟨_, rfl, rfl, rfl⟩) l1 rfl ?_
                  refine m_k2 (v := 6) (pc' := 226) cd_Mo_isGood rfl (by decide) rfl ?_
                  refine m_ci (pc' := 229) cd_Mo_isGood rfl rfl rfl rfl rfl cd_Mo_cell rfl (Nat.le_of_ble_eq_true rfl) (m_cell (k := 6) hM hX hk7 (by decide) ?_)
                  show mg _ _ _ 229 _ [.int ((mrw (A 1) (A 7) i 6)), .ref 1482] _ _
                  refine m_ci (pc' := 232) cd_Mo_isGood rfl rfl rfl rfl rfl cd_Mo_isPublic rfl (Nat.le_of_ble_eq_true rfl) (m_isPublic hM (hce.2 2 (by decide)) ?_)
                  show mg _ _ _ 232 _ [.int (bz (decide (kd (pt X 2) = 2)))] _ _
                  refine m_if1 (t := 263) (pc' := 235) cd_Mo_isGood rfl rfl rfl (fun c232 => ?_) (fun c232 => ?_)
                  · have c232 : (decide (kd (pt X 2) = 2)) = false := bz_f c232
                    refine m_k1 (v := 0) (pc' := 264) cd_Mo_isGood rfl (by decide) rfl ?_
                    exact m_retz cd_Mo_isGood rfl (Or.inl rfl) ⟨_, rfl, (by rw [TG3 hM hX hk7 hm, c135, c145, c157, c169, c182, c195, if_neg c205, c232] at kk; simp only [Bool.and_false, Bool.false_and, Bool.true_and, Bool.and_true, Bool.not_true, Bool.not_false, Bool.or_true, Bool.true_or, Bool.or_false, Bool.false_or] at kk; exact kk)⟩
                  · have c232 : (decide (kd (pt X 2) = 2)) = true := bz_t c232
                    refine m_ald (pc' := 236) cd_Mo_isGood rfl (Or.inr ⟨_, rfl, rfl, rfl⟩) l0 rfl rfl ?_
                    refine m_ild (pc' := 237) cd_Mo_isGood rfl (Or.inr ⟨_, rfl, rfl, rfl⟩) l1 rfl ?_
                    refine m_k2 (v := 7) (pc' := 239) cd_Mo_isGood rfl (by decide) rfl ?_
                    refine m_ci (pc' := 242) cd_Mo_isGood rfl rfl rfl rfl rfl cd_Mo_cell rfl (Nat.le_of_ble_eq_true rfl) (m_cell (k := 7) hM hX hk7 (by decide) ?_)
                    show mg _ _ _ 242 _ [.int ((mrw (A 1) (A 7) i 7))] _ _
                    refine m_if1 (t := 259) (pc' := 245) cd_Mo_isGood rfl rfl rfl (fun c242 => ?_) (fun c242 => ?_)
                    · have c242 : (mrw (A 1) (A 7) i 7) = 0 := c242
                      refine m_k1 (v := 1) (pc' := 260) cd_Mo_isGood rfl (by decide) rfl ?_
                      refine m_pure (pc' := 264) (st' := [.int 1]) cd_Mo_isGood rfl rfl (fun _ _ => rfl) ?_
                      exact m_retz cd_Mo_isGood rfl (Or.inr rfl) ⟨_, rfl, (by rw [TG3 hM hX hk7 hm, c135, c145, c157, c169, c182, c195, if_neg c205, c232, decide_eq_true c242] at kk; simp only [Bool.and_false, Bool.false_and, Bool.true_and, Bool.and_true, Bool.not_true, Bool.not_false, Bool.or_true, Bool.true_or, Bool.or_false, Bool.false_or] at kk; exact kk)⟩
                    · have c242 : ¬ (mrw (A 1) (A 7) i 7) = 0 := c242
                      refine m_ald (pc' := 246) cd_Mo_isGood rfl (Or.inr ⟨_, rfl, rfl, rfl⟩) l0 rfl rfl ?_
                      refine m_ald (pc' := 247) cd_Mo_isGood rfl (Or.inr ⟨_, rfl, rfl, rfl⟩) l0 rfl rfl ?_
                      refine m_ild (pc' := 248) cd_Mo_isGood rfl (Or.inr ⟨_, rfl, rfl, rfl⟩) l1 rfl ?_
                      refine m_k2 (v := 7) (pc' := 250) cd_Mo_isGood rfl (by decide) rfl ?_
                      refine m_ci (pc' := 253) cd_Mo_isGood rfl rfl rfl rfl rfl cd_Mo_cell rfl (Nat.le_of_ble_eq_true rfl) (m_cell (k := 7) hM hX hk7 (by decide) ?_)
                      show mg _ _ _ 253 _ [.int ((mrw (A 1) (A 7) i 7)), .ref 1482] _ _
                      refine m_ci (pc' := 256) cd_Mo_isGood rfl rfl rfl rfl rfl cd_Mo_isPublic rfl (Nat.le_of_ble_eq_true rfl) (m_isPublic hM (hce.2 3 (by decide)) ?_)
                      show mg _ _ _ 256 _ [.int (bz (decide (kd (pt X 3) = 2)))] _ _
                      refine m_if1 (t := 263) (pc' := 259) cd_Mo_isGood rfl rfl rfl (fun c256 => ?_) (fun c256 => ?_)
                      · have c256 : (decide (kd (pt X 3) = 2)) = false := bz_f c256
                        refine m_k1 (v := 0) (pc' := 264) cd_Mo_isGood rfl (by decide) rfl ?_
                        exact m_retz cd_Mo_isGood rfl (Or.inl rfl) ⟨_, rfl, (by rw [TG3 hM hX hk7 hm, c135, c145, c157, c169, c182, c195, if_neg c205, c232, decide_eq_false c242, c256] at kk; simp only [Bool.and_false, Bool.false_and, Bool.true_and, Bool.and_true, Bool.not_true, Bool.not_false, Bool.or_true, Bool.true_or, Bool.or_false, Bool.false_or] at kk; exact kk)⟩
                      · have c256 : (decide (kd (pt X 3) = 2)) = true := bz_t c256
                        refine m_k1 (v := 1) (pc' := 260) cd_Mo_isGood rfl (by decide) rfl ?_
                        refine m_pure (pc' := 264) (st' := [.int 1]) cd_Mo_isGood rfl rfl (fun _ _ => rfl) ?_
                        exact m_retz cd_Mo_isGood rfl (Or.inr rfl) ⟨_, rfl, (by rw [TG3 hM hX hk7 hm, c135, c145, c157, c169, c182, c195, if_neg c205, c232, decide_eq_false c242, c256] at kk; simp only [Bool.and_false, Bool.false_and, Bool.true_and, Bool.and_true, Bool.not_true, Bool.not_false, Bool.or_true, Bool.true_or, Bool.or_false, Bool.false_or] at kk; exact kk)⟩
                · have c205 : (mrw (A 1) (A 7) i 6) = 0 := Classical.not_not.mp c205
                  refine m_ald (pc' := 209) cd_Mo_isGood rfl (Or.inr ⟨_, rfl, rfl, rfl⟩) l0 rfl rfl ?_
                  refine m_ild (pc' := 210) cd_Mo_isGood rfl (Or.inr ⟨_, rfl, rfl, rfl⟩) l1 rfl ?_
                  refine m_k2 (v := 7) (pc' := 212) cd_Mo_isGood rfl (by decide) rfl ?_
                  refine m_ci (pc' := 215) cd_Mo_isGood rfl rfl rfl rfl rfl cd_Mo_cell rfl (Nat.le_of_ble_eq_true rfl) (m_cell (k := 7) hM hX hk7 (by decide) ?_)
                  show mg _ _ _ 215 _ [.int ((mrw (A 1) (A 7) i 7))] _ _
                  refine m_if1 (t := 263) (pc' := 218) cd_Mo_isGood rfl rfl rfl (fun c215 => ?_) (fun c215 => ?_)
                  · have c215 : ¬ (mrw (A 1) (A 7) i 7) = 0 := c215
                    refine m_k1 (v := 0) (pc' := 264) cd_Mo_isGood rfl (by decide) rfl ?_
                    exact m_retz cd_Mo_isGood rfl (Or.inl rfl) ⟨_, rfl, (by rw [TG3 hM hX hk7 hm, c135, c145, c157, c169, c182, c195, if_pos c205, decide_eq_false c215] at kk; simp only [Bool.and_false, Bool.false_and, Bool.true_and, Bool.and_true, Bool.not_true, Bool.not_false, Bool.or_true, Bool.true_or, Bool.or_false, Bool.false_or] at kk; exact kk)⟩
                  · have c215 : (mrw (A 1) (A 7) i 7) = 0 := Classical.not_not.mp c215
                    refine m_pure (pc' := 259) (st' := []) cd_Mo_isGood rfl rfl (fun _ _ => rfl) ?_
                    refine m_k1 (v := 1) (pc' := 260) cd_Mo_isGood rfl (by decide) rfl ?_
                    refine m_pure (pc' := 264) (st' := [.int 1]) cd_Mo_isGood rfl rfl (fun _ _ => rfl) ?_
                    exact m_retz cd_Mo_isGood rfl (Or.inr rfl) ⟨_, rfl, (by rw [TG3 hM hX hk7 hm, c135, c145, c157, c169, c182, c195, if_pos c205, decide_eq_true c215] at kk; simp only [Bool.and_false, Bool.false_and, Bool.true_and, Bool.and_true, Bool.not_true, Bool.not_false, Bool.or_true, Bool.true_or, Bool.or_false, Bool.false_or] at kk; exact kk)⟩
  · have c6 : (decide (kd X = 7) && decide (mk X = 3)) = false := bz_f (Classical.not_not.mp c6)
    refine m_k1 (v := 0) (pc' := 10) cd_Mo_isGood rfl (by decide) rfl ?_
    have hng : Tgood 3 X = false := Bool.eq_false_iff.mpr (fun q => by unfold Tgood at q; simp only [Bool.and_eq_true, decide_eq_true_eq] at q; rw [decide_eq_true q.1.1.1, decide_eq_true (show mk X = 3 from q.1.1.2)] at c6; cases c6)
    exact m_retz cd_Mo_isGood rfl (Or.inl rfl) ⟨_, rfl, (by rw [hng] at kk; exact kk)⟩
set_option maxRecDepth 100000 in
theorem m_isGood4 {sc : tm_X} {d : Nat} {f : Nat → Int32} {A : Nat → Nat → Int32} {T : List Tm} {DL : List (Int32 × Int32)} {G W : Tm → Prop} {i : Nat} {X : Tm} {Q : Int32 → MS → Prop} (hM : MT f A T DL G W) (hX : T[i]? = some X) (kk : Q (bz (Tgood 4 X)) (f, A)) : mGi sc (d + 2) 212 [.ref 1482, .int (nI i), .int 4] (f, A) Q := by
  show mg sc (d + 2) 212 0 [(0, .ref 1482), (1, .int (nI i)), (2, .int 4)] [] (f, A) _
  generalize elv : ([(0, .ref 1482), (1, .int (nI i)), (2, .int 4)] : tm_L) = lv
  have l0 : lv.lookup 0 = some (.ref 1482) := by rw [← elv]; rfl
  have l1 : lv.lookup 1 = some (.int (nI i)) := by rw [← elv]; rfl
  have l2 : lv.lookup 2 = some (.int 4) := by rw [← elv]; rfl
  clear elv
  refine m_ald (pc' := 1) cd_Mo_isGood rfl (Or.inr ⟨_, rfl, rfl, rfl⟩) l0 rfl rfl ?_
  refine m_ild (pc' := 2) cd_Mo_isGood rfl (Or.inr ⟨_, rfl, rfl, rfl⟩) l1 rfl ?_
  refine m_ild (pc' := 3) cd_Mo_isGood rfl (Or.inr ⟨_, rfl, rfl, rfl⟩) l2 rfl ?_
  refine m_ci (pc' := 6) cd_Mo_isGood rfl rfl rfl rfl rfl cd_Mo_isRow rfl (Nat.le_of_ble_eq_true rfl) (m_isRow hM hX ?_)
  show mg _ _ _ 6 _ [.int (bz (decide (kd X = 7) && decide (mk X = 4)))] _ _
  refine m_if1 (t := 11) (pc' := 9) cd_Mo_isGood rfl rfl rfl (fun c6 => ?_) (fun c6 => ?_)
  · have c6 : (decide (kd X = 7) && decide (mk X = 4)) = true := bz_t c6
    refine m_ald (pc' := 12) cd_Mo_isGood rfl (Or.inr ⟨_, rfl, rfl, rfl⟩) l0 rfl rfl ?_
    refine m_ild (pc' := 13) cd_Mo_isGood rfl (Or.inr ⟨_, rfl, rfl, rfl⟩) l1 rfl ?_
    refine m_k1 (v := 0) (pc' := 14) cd_Mo_isGood rfl (by decide) rfl ?_
    have h67 := Bool.and_eq_true_iff.mp c6
    have hk7 : kd X = 7 := of_decide_eq_true h67.1
    have hm : mk X = 4 := of_decide_eq_true h67.2
    have hce := MT_cells hM hX hk7
    refine m_ci (pc' := 17) cd_Mo_isGood rfl rfl rfl rfl rfl cd_Mo_cell rfl (Nat.le_of_ble_eq_true rfl) (m_cell (k := 0) hM hX hk7 (by decide) ?_)
    show mg _ _ _ 17 _ [.int ((mrw (A 1) (A 7) i 0))] _ _
    refine m_ist (pc' := 18) cd_Mo_isGood rfl (Or.inr ⟨_, rfl, rfl, rfl⟩) (by decide) rfl (fun lv el => ?_)
    have l0 := tm_lk el l0 rfl (by decide)
    have l1 := tm_lk el l1 rfl (by decide)
    have l2 := tm_lk el l2 rfl (by decide)
    have l3 : lv.lookup 3 = some (.int ((mrw (A 1) (A 7) i 0))) := tm_lks el
    clear el
    refine m_ald (pc' := 19) cd_Mo_isGood rfl (Or.inr ⟨_, rfl, rfl, rfl⟩) l0 rfl rfl ?_
    refine m_ild (pc' := 20) cd_Mo_isGood rfl (Or.inr ⟨_, rfl, rfl, rfl⟩) l1 rfl ?_
    refine m_k1 (v := 1) (pc' := 21) cd_Mo_isGood rfl (by decide) rfl ?_
    refine m_ci (pc' := 24) cd_Mo_isGood rfl rfl rfl rfl rfl cd_Mo_cell rfl (Nat.le_of_ble_eq_true rfl) (m_cell (k := 1) hM hX hk7 (by decide) ?_)
    show mg _ _ _ 24 _ [.int ((mrw (A 1) (A 7) i 1))] _ _
    refine m_ist (pc' := 26) cd_Mo_isGood rfl (Or.inl ⟨rfl, rfl⟩) (by decide) rfl (fun lv el => ?_)
    have l0 := tm_lk el l0 rfl (by decide)
    have l1 := tm_lk el l1 rfl (by decide)
    have l2 := tm_lk el l2 rfl (by decide)
    have l3 := tm_lk el l3 rfl (by decide)
    have l4 : lv.lookup 4 = some (.int ((mrw (A 1) (A 7) i 1))) := tm_lks el
    clear el
    refine m_ald (pc' := 27) cd_Mo_isGood rfl (Or.inr ⟨_, rfl, rfl, rfl⟩) l0 rfl rfl ?_
    refine m_ild (pc' := 28) cd_Mo_isGood rfl (Or.inr ⟨_, rfl, rfl, rfl⟩) l1 rfl ?_
    refine m_k1 (v := 2) (pc' := 29) cd_Mo_isGood rfl (by decide) rfl ?_
    refine m_ci (pc' := 32) cd_Mo_isGood rfl rfl rfl rfl rfl cd_Mo_cell rfl (Nat.le_of_ble_eq_true rfl) (m_cell (k := 2) hM hX hk7 (by decide) ?_)
    show mg _ _ _ 32 _ [.int ((mrw (A 1) (A 7) i 2))] _ _
    refine m_ist (pc' := 34) cd_Mo_isGood rfl (Or.inl ⟨rfl, rfl⟩) (by decide) rfl (fun lv el => ?_)
    have l0 := tm_lk el l0 rfl (by decide)
    have l1 := tm_lk el l1 rfl (by decide)
    have l2 := tm_lk el l2 rfl (by decide)
    have l3 := tm_lk el l3 rfl (by decide)
    have l4 := tm_lk el l4 rfl (by decide)
    have l5 : lv.lookup 5 = some (.int ((mrw (A 1) (A 7) i 2))) := tm_lks el
    clear el
    refine m_ald (pc' := 35) cd_Mo_isGood rfl (Or.inr ⟨_, rfl, rfl, rfl⟩) l0 rfl rfl ?_
    refine m_ild (pc' := 36) cd_Mo_isGood rfl (Or.inr ⟨_, rfl, rfl, rfl⟩) l1 rfl ?_
    refine m_k1 (v := 3) (pc' := 37) cd_Mo_isGood rfl (by decide) rfl ?_
    refine m_ci (pc' := 40) cd_Mo_isGood rfl rfl rfl rfl rfl cd_Mo_cell rfl (Nat.le_of_ble_eq_true rfl) (m_cell (k := 3) hM hX hk7 (by decide) ?_)
    show mg _ _ _ 40 _ [.int ((mrw (A 1) (A 7) i 3))] _ _
    refine m_ist (pc' := 42) cd_Mo_isGood rfl (Or.inl ⟨rfl, rfl⟩) (by decide) rfl (fun lv el => ?_)
    have l0 := tm_lk el l0 rfl (by decide)
    have l1 := tm_lk el l1 rfl (by decide)
    have l2 := tm_lk el l2 rfl (by decide)
    have l3 := tm_lk el l3 rfl (by decide)
    have l4 := tm_lk el l4 rfl (by decide)
    have l5 := tm_lk el l5 rfl (by decide)
    have l6 : lv.lookup 6 = some (.int ((mrw (A 1) (A 7) i 3))) := tm_lks el
    clear el
    refine m_ild (pc' := 43) cd_Mo_isGood rfl (Or.inr ⟨_, rfl, rfl, rfl⟩) l2 rfl ?_
    refine m_pure (pc' := 265) (st' := []) cd_Mo_isGood rfl rfl (fun _ _ => rfl) ?_
    refine m_ald (pc' := 266) cd_Mo_isGood rfl (Or.inr ⟨_, rfl, rfl, rfl⟩) l0 rfl rfl ?_
    refine m_ild (pc' := 267) cd_Mo_isGood rfl (Or.inr ⟨_, rfl, rfl, rfl⟩) l1 rfl ?_
    refine m_k1 (v := 0) (pc' := 268) cd_Mo_isGood rfl (by decide) rfl ?_
    refine m_k1 (v := 4) (pc' := 269) cd_Mo_isGood rfl (by decide) rfl ?_
    refine m_ci (pc' := 272) cd_Mo_isGood rfl rfl rfl rfl rfl cd_Mo_isBare rfl (Nat.le_of_ble_eq_true rfl) (m_isBare (lo := 0) (m := 4) hM hX hk7 (by decide) ?_)
    show mg _ _ _ 272 _ [.int (bz (brb (mrw (A 1) (A 7) i) 0 4))] _ _
    refine m_if1 (t := 299) (pc' := 275) cd_Mo_isGood rfl rfl rfl (fun c272 => ?_) (fun c272 => ?_)
    · have c272 : (brb (mrw (A 1) (A 7) i) 0 4) = false := bz_f c272
      refine m_k1 (v := 0) (pc' := 300) cd_Mo_isGood rfl (by decide) rfl ?_
      exact m_retz cd_Mo_isGood rfl (Or.inl rfl) ⟨_, rfl, (by rw [TG4 hM hX hk7 hm, c272] at kk; simp only [Bool.and_false, Bool.false_and, Bool.true_and, Bool.and_true, Bool.not_true, Bool.not_false, Bool.or_true, Bool.true_or, Bool.or_false, Bool.false_or] at kk; exact kk)⟩
    · have c272 : (brb (mrw (A 1) (A 7) i) 0 4) = true := bz_t c272
      refine m_ald (pc' := 276) cd_Mo_isGood rfl (Or.inr ⟨_, rfl, rfl, rfl⟩) l0 rfl rfl ?_
      refine m_ild (pc' := 277) cd_Mo_isGood rfl (Or.inr ⟨_, rfl, rfl, rfl⟩) l1 rfl ?_
      refine m_k1 (v := 4) (pc' := 278) cd_Mo_isGood rfl (by decide) rfl ?_
      refine m_ci (pc' := 281) cd_Mo_isGood rfl rfl rfl rfl rfl cd_Mo_cell rfl (Nat.le_of_ble_eq_true rfl) (m_cell (k := 4) hM hX hk7 (by decide) ?_)
      show mg _ _ _ 281 _ [.int ((mrw (A 1) (A 7) i 4))] _ _
      refine m_if1 (t := 299) (pc' := 284) cd_Mo_isGood rfl rfl rfl (fun c281 => ?_) (fun c281 => ?_)
      · have c281 : (mrw (A 1) (A 7) i 4) = 0 := c281
        refine m_k1 (v := 0) (pc' := 300) cd_Mo_isGood rfl (by decide) rfl ?_
        exact m_retz cd_Mo_isGood rfl (Or.inl rfl) ⟨_, rfl, (by rw [TG4 hM hX hk7 hm, c272, decide_eq_true c281] at kk; simp only [Bool.and_false, Bool.false_and, Bool.true_and, Bool.and_true, Bool.not_true, Bool.not_false, Bool.or_true, Bool.true_or, Bool.or_false, Bool.false_or] at kk; exact kk)⟩
      · have c281 : ¬ (mrw (A 1) (A 7) i 4) = 0 := c281
        refine m_ald (pc' := 285) cd_Mo_isGood rfl (Or.inr ⟨_, rfl, rfl, rfl⟩) l0 rfl rfl ?_
        refine m_ild (pc' := 286) cd_Mo_isGood rfl (Or.inr ⟨_, rfl, rfl, rfl⟩) l1 rfl ?_
        refine m_k1 (v := 5) (pc' := 287) cd_Mo_isGood rfl (by decide) rfl ?_
        refine m_k2 (v := 8) (pc' := 289) cd_Mo_isGood rfl (by decide) rfl ?_
        refine m_ci (pc' := 292) cd_Mo_isGood rfl rfl rfl rfl rfl cd_Mo_isBare rfl (Nat.le_of_ble_eq_true rfl) (m_isBare (lo := 5) (m := 3) hM hX hk7 (by decide) ?_)
        show mg _ _ _ 292 _ [.int (bz (brb (mrw (A 1) (A 7) i) 5 3))] _ _
        refine m_if1 (t := 299) (pc' := 295) cd_Mo_isGood rfl rfl rfl (fun c292 => ?_) (fun c292 => ?_)
        · have c292 : (brb (mrw (A 1) (A 7) i) 5 3) = false := bz_f c292
          refine m_k1 (v := 0) (pc' := 300) cd_Mo_isGood rfl (by decide) rfl ?_
          exact m_retz cd_Mo_isGood rfl (Or.inl rfl) ⟨_, rfl, (by rw [TG4 hM hX hk7 hm, c272, decide_eq_false c281, c292] at kk; simp only [Bool.and_false, Bool.false_and, Bool.true_and, Bool.and_true, Bool.not_true, Bool.not_false, Bool.or_true, Bool.true_or, Bool.or_false, Bool.false_or] at kk; exact kk)⟩
        · have c292 : (brb (mrw (A 1) (A 7) i) 5 3) = true := bz_t c292
          refine m_k1 (v := 1) (pc' := 296) cd_Mo_isGood rfl (by decide) rfl ?_
          refine m_pure (pc' := 300) (st' := [.int 1]) cd_Mo_isGood rfl rfl (fun _ _ => rfl) ?_
          exact m_retz cd_Mo_isGood rfl (Or.inr rfl) ⟨_, rfl, (by rw [TG4 hM hX hk7 hm, c272, decide_eq_false c281, c292] at kk; simp only [Bool.and_false, Bool.false_and, Bool.true_and, Bool.and_true, Bool.not_true, Bool.not_false, Bool.or_true, Bool.true_or, Bool.or_false, Bool.false_or] at kk; exact kk)⟩
  · have c6 : (decide (kd X = 7) && decide (mk X = 4)) = false := bz_f (Classical.not_not.mp c6)
    refine m_k1 (v := 0) (pc' := 10) cd_Mo_isGood rfl (by decide) rfl ?_
    have hng : Tgood 4 X = false := Bool.eq_false_iff.mpr (fun q => by unfold Tgood at q; simp only [Bool.and_eq_true, decide_eq_true_eq] at q; rw [decide_eq_true q.1.1.1, decide_eq_true (show mk X = 4 from q.1.1.2)] at c6; cases c6)
    exact m_retz cd_Mo_isGood rfl (Or.inl rfl) ⟨_, rfl, (by rw [hng] at kk; exact kk)⟩
set_option maxRecDepth 100000 in
theorem m_isGood5 {sc : tm_X} {d : Nat} {f : Nat → Int32} {A : Nat → Nat → Int32} {T : List Tm} {DL : List (Int32 × Int32)} {G W : Tm → Prop} {i : Nat} {X : Tm} {Q : Int32 → MS → Prop} (hM : MT f A T DL G W) (hX : T[i]? = some X) (kk : Q (bz (Tgood 5 X)) (f, A)) : mGi sc (d + 2) 212 [.ref 1482, .int (nI i), .int 5] (f, A) Q := by
  show mg sc (d + 2) 212 0 [(0, .ref 1482), (1, .int (nI i)), (2, .int 5)] [] (f, A) _
  generalize elv : ([(0, .ref 1482), (1, .int (nI i)), (2, .int 5)] : tm_L) = lv
  have l0 : lv.lookup 0 = some (.ref 1482) := by rw [← elv]; rfl
  have l1 : lv.lookup 1 = some (.int (nI i)) := by rw [← elv]; rfl
  have l2 : lv.lookup 2 = some (.int 5) := by rw [← elv]; rfl
  clear elv
  refine m_ald (pc' := 1) cd_Mo_isGood rfl (Or.inr ⟨_, rfl, rfl, rfl⟩) l0 rfl rfl ?_
  refine m_ild (pc' := 2) cd_Mo_isGood rfl (Or.inr ⟨_, rfl, rfl, rfl⟩) l1 rfl ?_
  refine m_ild (pc' := 3) cd_Mo_isGood rfl (Or.inr ⟨_, rfl, rfl, rfl⟩) l2 rfl ?_
  refine m_ci (pc' := 6) cd_Mo_isGood rfl rfl rfl rfl rfl cd_Mo_isRow rfl (Nat.le_of_ble_eq_true rfl) (m_isRow hM hX ?_)
  show mg _ _ _ 6 _ [.int (bz (decide (kd X = 7) && decide (mk X = 5)))] _ _
  refine m_if1 (t := 11) (pc' := 9) cd_Mo_isGood rfl rfl rfl (fun c6 => ?_) (fun c6 => ?_)
  · have c6 : (decide (kd X = 7) && decide (mk X = 5)) = true := bz_t c6
    refine m_ald (pc' := 12) cd_Mo_isGood rfl (Or.inr ⟨_, rfl, rfl, rfl⟩) l0 rfl rfl ?_
    refine m_ild (pc' := 13) cd_Mo_isGood rfl (Or.inr ⟨_, rfl, rfl, rfl⟩) l1 rfl ?_
    refine m_k1 (v := 0) (pc' := 14) cd_Mo_isGood rfl (by decide) rfl ?_
    have h67 := Bool.and_eq_true_iff.mp c6
    have hk7 : kd X = 7 := of_decide_eq_true h67.1
    have hm : mk X = 5 := of_decide_eq_true h67.2
    have hce := MT_cells hM hX hk7
    refine m_ci (pc' := 17) cd_Mo_isGood rfl rfl rfl rfl rfl cd_Mo_cell rfl (Nat.le_of_ble_eq_true rfl) (m_cell (k := 0) hM hX hk7 (by decide) ?_)
    show mg _ _ _ 17 _ [.int ((mrw (A 1) (A 7) i 0))] _ _
    refine m_ist (pc' := 18) cd_Mo_isGood rfl (Or.inr ⟨_, rfl, rfl, rfl⟩) (by decide) rfl (fun lv el => ?_)
    have l0 := tm_lk el l0 rfl (by decide)
    have l1 := tm_lk el l1 rfl (by decide)
    have l2 := tm_lk el l2 rfl (by decide)
    have l3 : lv.lookup 3 = some (.int ((mrw (A 1) (A 7) i 0))) := tm_lks el
    clear el
    refine m_ald (pc' := 19) cd_Mo_isGood rfl (Or.inr ⟨_, rfl, rfl, rfl⟩) l0 rfl rfl ?_
    refine m_ild (pc' := 20) cd_Mo_isGood rfl (Or.inr ⟨_, rfl, rfl, rfl⟩) l1 rfl ?_
    refine m_k1 (v := 1) (pc' := 21) cd_Mo_isGood rfl (by decide) rfl ?_
    refine m_ci (pc' := 24) cd_Mo_isGood rfl rfl rfl rfl rfl cd_Mo_cell rfl (Nat.le_of_ble_eq_true rfl) (m_cell (k := 1) hM hX hk7 (by decide) ?_)
    show mg _ _ _ 24 _ [.int ((mrw (A 1) (A 7) i 1))] _ _
    refine m_ist (pc' := 26) cd_Mo_isGood rfl (Or.inl ⟨rfl, rfl⟩) (by decide) rfl (fun lv el => ?_)
    have l0 := tm_lk el l0 rfl (by decide)
    have l1 := tm_lk el l1 rfl (by decide)
    have l2 := tm_lk el l2 rfl (by decide)
    have l3 := tm_lk el l3 rfl (by decide)
    have l4 : lv.lookup 4 = some (.int ((mrw (A 1) (A 7) i 1))) := tm_lks el
    clear el
    refine m_ald (pc' := 27) cd_Mo_isGood rfl (Or.inr ⟨_, rfl, rfl, rfl⟩) l0 rfl rfl ?_
    refine m_ild (pc' := 28) cd_Mo_isGood rfl (Or.inr ⟨_, rfl, rfl, rfl⟩) l1 rfl ?_
    refine m_k1 (v := 2) (pc' := 29) cd_Mo_isGood rfl (by decide) rfl ?_
    refine m_ci (pc' := 32) cd_Mo_isGood rfl rfl rfl rfl rfl cd_Mo_cell rfl (Nat.le_of_ble_eq_true rfl) (m_cell (k := 2) hM hX hk7 (by decide) ?_)
    show mg _ _ _ 32 _ [.int ((mrw (A 1) (A 7) i 2))] _ _
    refine m_ist (pc' := 34) cd_Mo_isGood rfl (Or.inl ⟨rfl, rfl⟩) (by decide) rfl (fun lv el => ?_)
    have l0 := tm_lk el l0 rfl (by decide)
    have l1 := tm_lk el l1 rfl (by decide)
    have l2 := tm_lk el l2 rfl (by decide)
    have l3 := tm_lk el l3 rfl (by decide)
    have l4 := tm_lk el l4 rfl (by decide)
    have l5 : lv.lookup 5 = some (.int ((mrw (A 1) (A 7) i 2))) := tm_lks el
    clear el
    refine m_ald (pc' := 35) cd_Mo_isGood rfl (Or.inr ⟨_, rfl, rfl, rfl⟩) l0 rfl rfl ?_
    refine m_ild (pc' := 36) cd_Mo_isGood rfl (Or.inr ⟨_, rfl, rfl, rfl⟩) l1 rfl ?_
    refine m_k1 (v := 3) (pc' := 37) cd_Mo_isGood rfl (by decide) rfl ?_
    refine m_ci (pc' := 40) cd_Mo_isGood rfl rfl rfl rfl rfl cd_Mo_cell rfl (Nat.le_of_ble_eq_true rfl) (m_cell (k := 3) hM hX hk7 (by decide) ?_)
    show mg _ _ _ 40 _ [.int ((mrw (A 1) (A 7) i 3))] _ _
    refine m_ist (pc' := 42) cd_Mo_isGood rfl (Or.inl ⟨rfl, rfl⟩) (by decide) rfl (fun lv el => ?_)
    have l0 := tm_lk el l0 rfl (by decide)
    have l1 := tm_lk el l1 rfl (by decide)
    have l2 := tm_lk el l2 rfl (by decide)
    have l3 := tm_lk el l3 rfl (by decide)
    have l4 := tm_lk el l4 rfl (by decide)
    have l5 := tm_lk el l5 rfl (by decide)
    have l6 : lv.lookup 6 = some (.int ((mrw (A 1) (A 7) i 3))) := tm_lks el
    clear el
    refine m_ild (pc' := 43) cd_Mo_isGood rfl (Or.inr ⟨_, rfl, rfl, rfl⟩) l2 rfl ?_
    refine m_pure (pc' := 301) (st' := []) cd_Mo_isGood rfl rfl (fun _ _ => rfl) ?_
    refine m_ild (pc' := 302) cd_Mo_isGood rfl (Or.inr ⟨_, rfl, rfl, rfl⟩) l3 rfl ?_
    refine m_k1 (v := 0) (pc' := 303) cd_Mo_isGood rfl (by decide) rfl ?_
    refine m_k1 (v := 3) (pc' := 304) cd_Mo_isGood rfl (by decide) rfl ?_
    refine m_si (pc' := 307) cd_Mo_isGood rfl rfl rfl rfl rfl cd_Mo_within rfl (Nat.le_of_ble_eq_true rfl) (m_w3 ?_)
    show mg _ _ _ 307 _ [.int (bz (ib_grp (mrw (A 1) (A 7) i 0)))] _ _
    refine m_if1 (t := 371) (pc' := 310) cd_Mo_isGood rfl rfl rfl (fun c307 => ?_) (fun c307 => ?_)
    · have c307 : (ib_grp (mrw (A 1) (A 7) i 0)) = false := bz_f c307
      refine m_k1 (v := 0) (pc' := 372) cd_Mo_isGood rfl (by decide) rfl ?_
      exact m_retz cd_Mo_isGood rfl (Or.inl rfl) ⟨_, rfl, (by rw [TG5 hM hX hk7 hm, c307] at kk; simp only [Bool.and_false, Bool.false_and, Bool.true_and, Bool.and_true, Bool.not_true, Bool.not_false, Bool.or_true, Bool.true_or, Bool.or_false, Bool.false_or] at kk; exact kk)⟩
    · have c307 : (ib_grp (mrw (A 1) (A 7) i 0)) = true := bz_t c307
      refine m_ild (pc' := 312) cd_Mo_isGood rfl (Or.inl ⟨rfl, rfl⟩) l4 rfl ?_
      refine m_k1 (v := 1) (pc' := 313) cd_Mo_isGood rfl (by decide) rfl ?_
      refine m_if2 (t := 371) (pc' := 316) cd_Mo_isGood rfl rfl rfl (fun c313 => ?_) (fun c313 => ?_)
      · have c313 : (mrw (A 1) (A 7) i 1) < 1 := c313
        refine m_k1 (v := 0) (pc' := 372) cd_Mo_isGood rfl (by decide) rfl ?_
        exact m_retz cd_Mo_isGood rfl (Or.inl rfl) ⟨_, rfl, (by rw [TG5 hM hX hk7 hm, c307, decide_eq_true c313] at kk; simp only [Bool.and_false, Bool.false_and, Bool.true_and, Bool.and_true, Bool.not_true, Bool.not_false, Bool.or_true, Bool.true_or, Bool.or_false, Bool.false_or] at kk; exact kk)⟩
      · have c313 : ¬ (mrw (A 1) (A 7) i 1) < 1 := c313
        refine m_ild (pc' := 318) cd_Mo_isGood rfl (Or.inl ⟨rfl, rfl⟩) l5 rfl ?_
        refine m_k1 (v := 0) (pc' := 319) cd_Mo_isGood rfl (by decide) rfl ?_
        refine m_k3 (v := 9999) (pc' := 322) cd_Mo_isGood rfl (by decide) rfl ?_
        refine m_si (pc' := 325) cd_Mo_isGood rfl rfl rfl rfl rfl cd_Mo_within rfl (Nat.le_of_ble_eq_true rfl) (m_w9 ?_)
        show mg _ _ _ 325 _ [.int (bz (ib_idx (mrw (A 1) (A 7) i 2)))] _ _
        refine m_if1 (t := 371) (pc' := 328) cd_Mo_isGood rfl rfl rfl (fun c325 => ?_) (fun c325 => ?_)
        · have c325 : (ib_idx (mrw (A 1) (A 7) i 2)) = false := bz_f c325
          refine m_k1 (v := 0) (pc' := 372) cd_Mo_isGood rfl (by decide) rfl ?_
          exact m_retz cd_Mo_isGood rfl (Or.inl rfl) ⟨_, rfl, (by rw [TG5 hM hX hk7 hm, c307, decide_eq_false c313, c325] at kk; simp only [Bool.and_false, Bool.false_and, Bool.true_and, Bool.and_true, Bool.not_true, Bool.not_false, Bool.or_true, Bool.true_or, Bool.or_false, Bool.false_or] at kk; exact kk)⟩
        · have c325 : (ib_idx (mrw (A 1) (A 7) i 2)) = true := bz_t c325
          refine m_ild (pc' := 330) cd_Mo_isGood rfl (Or.inl ⟨rfl, rfl⟩) l6 rfl ?_
          refine m_if1 (t := 371) (pc' := 333) cd_Mo_isGood rfl rfl rfl (fun c330 => ?_) (fun c330 => ?_)
          · have c330 : ¬ (mrw (A 1) (A 7) i 3) = 0 := c330
            refine m_k1 (v := 0) (pc' := 372) cd_Mo_isGood rfl (by decide) rfl ?_
            exact m_retz cd_Mo_isGood rfl (Or.inl rfl) ⟨_, rfl, (by rw [TG5 hM hX hk7 hm, c307, decide_eq_false c313, c325, decide_eq_false c330] at kk; simp only [Bool.and_false, Bool.false_and, Bool.true_and, Bool.and_true, Bool.not_true, Bool.not_false, Bool.or_true, Bool.true_or, Bool.or_false, Bool.false_or] at kk; exact kk)⟩
          · have c330 : (mrw (A 1) (A 7) i 3) = 0 := Classical.not_not.mp c330
            refine m_ald (pc' := 334) cd_Mo_isGood rfl (Or.inr ⟨_, rfl, rfl, rfl⟩) l0 rfl rfl ?_
            refine m_ild (pc' := 335) cd_Mo_isGood rfl (Or.inr ⟨_, rfl, rfl, rfl⟩) l1 rfl ?_
            refine m_k1 (v := 4) (pc' := 336) cd_Mo_isGood rfl (by decide) rfl ?_
            refine m_ci (pc' := 339) cd_Mo_isGood rfl rfl rfl rfl rfl cd_Mo_cell rfl (Nat.le_of_ble_eq_true rfl) (m_cell (k := 4) hM hX hk7 (by decide) ?_)
            show mg _ _ _ 339 _ [.int ((mrw (A 1) (A 7) i 4))] _ _
            refine m_if1 (t := 371) (pc' := 342) cd_Mo_isGood rfl rfl rfl (fun c339 => ?_) (fun c339 => ?_)
            · have c339 : (mrw (A 1) (A 7) i 4) = 0 := c339
              refine m_k1 (v := 0) (pc' := 372) cd_Mo_isGood rfl (by decide) rfl ?_
              exact m_retz cd_Mo_isGood rfl (Or.inl rfl) ⟨_, rfl, (by rw [TG5 hM hX hk7 hm, c307, decide_eq_false c313, c325, decide_eq_true c330, decide_eq_true c339] at kk; simp only [Bool.and_false, Bool.false_and, Bool.true_and, Bool.and_true, Bool.not_true, Bool.not_false, Bool.or_true, Bool.true_or, Bool.or_false, Bool.false_or] at kk; exact kk)⟩
            · have c339 : ¬ (mrw (A 1) (A 7) i 4) = 0 := c339
              refine m_ald (pc' := 343) cd_Mo_isGood rfl (Or.inr ⟨_, rfl, rfl, rfl⟩) l0 rfl rfl ?_
              refine m_ald (pc' := 344) cd_Mo_isGood rfl (Or.inr ⟨_, rfl, rfl, rfl⟩) l0 rfl rfl ?_
              refine m_ild (pc' := 345) cd_Mo_isGood rfl (Or.inr ⟨_, rfl, rfl, rfl⟩) l1 rfl ?_
              refine m_k1 (v := 5) (pc' := 346) cd_Mo_isGood rfl (by decide) rfl ?_
              refine m_ci (pc' := 349) cd_Mo_isGood rfl rfl rfl rfl rfl cd_Mo_cell rfl (Nat.le_of_ble_eq_true rfl) (m_cell (k := 5) hM hX hk7 (by decide) ?_)
              show mg _ _ _ 349 _ [.int ((mrw (A 1) (A 7) i 5)), .ref 1482] _ _
              refine m_ci (pc' := 352) cd_Mo_isGood rfl rfl rfl rfl rfl cd_Mo_isPublic rfl (Nat.le_of_ble_eq_true rfl) (m_isPublic hM (hce.2 1 (by decide)) ?_)
              show mg _ _ _ 352 _ [.int (bz (decide (kd (pt X 1) = 2)))] _ _
              refine m_if1 (t := 371) (pc' := 355) cd_Mo_isGood rfl rfl rfl (fun c352 => ?_) (fun c352 => ?_)
              · have c352 : (decide (kd (pt X 1) = 2)) = false := bz_f c352
                refine m_k1 (v := 0) (pc' := 372) cd_Mo_isGood rfl (by decide) rfl ?_
                exact m_retz cd_Mo_isGood rfl (Or.inl rfl) ⟨_, rfl, (by rw [TG5 hM hX hk7 hm, c307, decide_eq_false c313, c325, decide_eq_true c330, decide_eq_false c339, c352] at kk; simp only [Bool.and_false, Bool.false_and, Bool.true_and, Bool.and_true, Bool.not_true, Bool.not_false, Bool.or_true, Bool.true_or, Bool.or_false, Bool.false_or] at kk; exact kk)⟩
              · have c352 : (decide (kd (pt X 1) = 2)) = true := bz_t c352
                refine m_ald (pc' := 356) cd_Mo_isGood rfl (Or.inr ⟨_, rfl, rfl, rfl⟩) l0 rfl rfl ?_
                refine m_ild (pc' := 357) cd_Mo_isGood rfl (Or.inr ⟨_, rfl, rfl, rfl⟩) l1 rfl ?_
                refine m_k2 (v := 6) (pc' := 359) cd_Mo_isGood rfl (by decide) rfl ?_
                refine m_k2 (v := 8) (pc' := 361) cd_Mo_isGood rfl (by decide) rfl ?_
                refine m_ci (pc' := 364) cd_Mo_isGood rfl rfl rfl rfl rfl cd_Mo_isBare rfl (Nat.le_of_ble_eq_true rfl) (m_isBare (lo := 6) (m := 2) hM hX hk7 (by decide) ?_)
                show mg _ _ _ 364 _ [.int (bz (brb (mrw (A 1) (A 7) i) 6 2))] _ _
                refine m_if1 (t := 371) (pc' := 367) cd_Mo_isGood rfl rfl rfl (fun c364 => ?_) (fun c364 => ?_)
                · have c364 : (brb (mrw (A 1) (A 7) i) 6 2) = false := bz_f c364
                  refine m_k1 (v := 0) (pc' := 372) cd_Mo_isGood rfl (by decide) rfl ?_
                  exact m_retz cd_Mo_isGood rfl (Or.inl rfl) ⟨_, rfl, (by rw [TG5 hM hX hk7 hm, c307, decide_eq_false c313, c325, decide_eq_true c330, decide_eq_false c339, c352, c364] at kk; simp only [Bool.and_false, Bool.false_and, Bool.true_and, Bool.and_true, Bool.not_true, Bool.not_false, Bool.or_true, Bool.true_or, Bool.or_false, Bool.false_or] at kk; exact kk)⟩
                · have c364 : (brb (mrw (A 1) (A 7) i) 6 2) = true := bz_t c364
                  refine m_k1 (v := 1) (pc' := 368) cd_Mo_isGood rfl (by decide) rfl ?_
                  refine m_pure (pc' := 372) (st' := [.int 1]) cd_Mo_isGood rfl rfl (fun _ _ => rfl) ?_
                  exact m_retz cd_Mo_isGood rfl (Or.inr rfl) ⟨_, rfl, (by rw [TG5 hM hX hk7 hm, c307, decide_eq_false c313, c325, decide_eq_true c330, decide_eq_false c339, c352, c364] at kk; simp only [Bool.and_false, Bool.false_and, Bool.true_and, Bool.and_true, Bool.not_true, Bool.not_false, Bool.or_true, Bool.true_or, Bool.or_false, Bool.false_or] at kk; exact kk)⟩
  · have c6 : (decide (kd X = 7) && decide (mk X = 5)) = false := bz_f (Classical.not_not.mp c6)
    refine m_k1 (v := 0) (pc' := 10) cd_Mo_isGood rfl (by decide) rfl ?_
    have hng : Tgood 5 X = false := Bool.eq_false_iff.mpr (fun q => by unfold Tgood at q; simp only [Bool.and_eq_true, decide_eq_true_eq] at q; rw [decide_eq_true q.1.1.1, decide_eq_true (show mk X = 5 from q.1.1.2)] at c6; cases c6)
    exact m_retz cd_Mo_isGood rfl (Or.inl rfl) ⟨_, rfl, (by rw [hng] at kk; exact kk)⟩
set_option maxRecDepth 100000 in
theorem m_isGood6 {sc : tm_X} {d : Nat} {f : Nat → Int32} {A : Nat → Nat → Int32} {T : List Tm} {DL : List (Int32 × Int32)} {G W : Tm → Prop} {i : Nat} {X : Tm} {Q : Int32 → MS → Prop} (hM : MT f A T DL G W) (hX : T[i]? = some X) (kk : Q (bz (Tgood 6 X)) (f, A)) : mGi sc (d + 2) 212 [.ref 1482, .int (nI i), .int 6] (f, A) Q := by
  show mg sc (d + 2) 212 0 [(0, .ref 1482), (1, .int (nI i)), (2, .int 6)] [] (f, A) _
  generalize elv : ([(0, .ref 1482), (1, .int (nI i)), (2, .int 6)] : tm_L) = lv
  have l0 : lv.lookup 0 = some (.ref 1482) := by rw [← elv]; rfl
  have l1 : lv.lookup 1 = some (.int (nI i)) := by rw [← elv]; rfl
  have l2 : lv.lookup 2 = some (.int 6) := by rw [← elv]; rfl
  clear elv
  refine m_ald (pc' := 1) cd_Mo_isGood rfl (Or.inr ⟨_, rfl, rfl, rfl⟩) l0 rfl rfl ?_
  refine m_ild (pc' := 2) cd_Mo_isGood rfl (Or.inr ⟨_, rfl, rfl, rfl⟩) l1 rfl ?_
  refine m_ild (pc' := 3) cd_Mo_isGood rfl (Or.inr ⟨_, rfl, rfl, rfl⟩) l2 rfl ?_
  refine m_ci (pc' := 6) cd_Mo_isGood rfl rfl rfl rfl rfl cd_Mo_isRow rfl (Nat.le_of_ble_eq_true rfl) (m_isRow hM hX ?_)
  show mg _ _ _ 6 _ [.int (bz (decide (kd X = 7) && decide (mk X = 6)))] _ _
  refine m_if1 (t := 11) (pc' := 9) cd_Mo_isGood rfl rfl rfl (fun c6 => ?_) (fun c6 => ?_)
  · have c6 : (decide (kd X = 7) && decide (mk X = 6)) = true := bz_t c6
    refine m_ald (pc' := 12) cd_Mo_isGood rfl (Or.inr ⟨_, rfl, rfl, rfl⟩) l0 rfl rfl ?_
    refine m_ild (pc' := 13) cd_Mo_isGood rfl (Or.inr ⟨_, rfl, rfl, rfl⟩) l1 rfl ?_
    refine m_k1 (v := 0) (pc' := 14) cd_Mo_isGood rfl (by decide) rfl ?_
    have h67 := Bool.and_eq_true_iff.mp c6
    have hk7 : kd X = 7 := of_decide_eq_true h67.1
    have hm : mk X = 6 := of_decide_eq_true h67.2
    have hce := MT_cells hM hX hk7
    refine m_ci (pc' := 17) cd_Mo_isGood rfl rfl rfl rfl rfl cd_Mo_cell rfl (Nat.le_of_ble_eq_true rfl) (m_cell (k := 0) hM hX hk7 (by decide) ?_)
    show mg _ _ _ 17 _ [.int ((mrw (A 1) (A 7) i 0))] _ _
    refine m_ist (pc' := 18) cd_Mo_isGood rfl (Or.inr ⟨_, rfl, rfl, rfl⟩) (by decide) rfl (fun lv el => ?_)
    have l0 := tm_lk el l0 rfl (by decide)
    have l1 := tm_lk el l1 rfl (by decide)
    have l2 := tm_lk el l2 rfl (by decide)
    have l3 : lv.lookup 3 = some (.int ((mrw (A 1) (A 7) i 0))) := tm_lks el
    clear el
    refine m_ald (pc' := 19) cd_Mo_isGood rfl (Or.inr ⟨_, rfl, rfl, rfl⟩) l0 rfl rfl ?_
    refine m_ild (pc' := 20) cd_Mo_isGood rfl (Or.inr ⟨_, rfl, rfl, rfl⟩) l1 rfl ?_
    refine m_k1 (v := 1) (pc' := 21) cd_Mo_isGood rfl (by decide) rfl ?_
    refine m_ci (pc' := 24) cd_Mo_isGood rfl rfl rfl rfl rfl cd_Mo_cell rfl (Nat.le_of_ble_eq_true rfl) (m_cell (k := 1) hM hX hk7 (by decide) ?_)
    show mg _ _ _ 24 _ [.int ((mrw (A 1) (A 7) i 1))] _ _
    refine m_ist (pc' := 26) cd_Mo_isGood rfl (Or.inl ⟨rfl, rfl⟩) (by decide) rfl (fun lv el => ?_)
    have l0 := tm_lk el l0 rfl (by decide)
    have l1 := tm_lk el l1 rfl (by decide)
    have l2 := tm_lk el l2 rfl (by decide)
    have l3 := tm_lk el l3 rfl (by decide)
    have l4 : lv.lookup 4 = some (.int ((mrw (A 1) (A 7) i 1))) := tm_lks el
    clear el
    refine m_ald (pc' := 27) cd_Mo_isGood rfl (Or.inr ⟨_, rfl, rfl, rfl⟩) l0 rfl rfl ?_
    refine m_ild (pc' := 28) cd_Mo_isGood rfl (Or.inr ⟨_, rfl, rfl, rfl⟩) l1 rfl ?_
    refine m_k1 (v := 2) (pc' := 29) cd_Mo_isGood rfl (by decide) rfl ?_
    refine m_ci (pc' := 32) cd_Mo_isGood rfl rfl rfl rfl rfl cd_Mo_cell rfl (Nat.le_of_ble_eq_true rfl) (m_cell (k := 2) hM hX hk7 (by decide) ?_)
    show mg _ _ _ 32 _ [.int ((mrw (A 1) (A 7) i 2))] _ _
    refine m_ist (pc' := 34) cd_Mo_isGood rfl (Or.inl ⟨rfl, rfl⟩) (by decide) rfl (fun lv el => ?_)
    have l0 := tm_lk el l0 rfl (by decide)
    have l1 := tm_lk el l1 rfl (by decide)
    have l2 := tm_lk el l2 rfl (by decide)
    have l3 := tm_lk el l3 rfl (by decide)
    have l4 := tm_lk el l4 rfl (by decide)
    have l5 : lv.lookup 5 = some (.int ((mrw (A 1) (A 7) i 2))) := tm_lks el
    clear el
    refine m_ald (pc' := 35) cd_Mo_isGood rfl (Or.inr ⟨_, rfl, rfl, rfl⟩) l0 rfl rfl ?_
    refine m_ild (pc' := 36) cd_Mo_isGood rfl (Or.inr ⟨_, rfl, rfl, rfl⟩) l1 rfl ?_
    refine m_k1 (v := 3) (pc' := 37) cd_Mo_isGood rfl (by decide) rfl ?_
    refine m_ci (pc' := 40) cd_Mo_isGood rfl rfl rfl rfl rfl cd_Mo_cell rfl (Nat.le_of_ble_eq_true rfl) (m_cell (k := 3) hM hX hk7 (by decide) ?_)
    show mg _ _ _ 40 _ [.int ((mrw (A 1) (A 7) i 3))] _ _
    refine m_ist (pc' := 42) cd_Mo_isGood rfl (Or.inl ⟨rfl, rfl⟩) (by decide) rfl (fun lv el => ?_)
    have l0 := tm_lk el l0 rfl (by decide)
    have l1 := tm_lk el l1 rfl (by decide)
    have l2 := tm_lk el l2 rfl (by decide)
    have l3 := tm_lk el l3 rfl (by decide)
    have l4 := tm_lk el l4 rfl (by decide)
    have l5 := tm_lk el l5 rfl (by decide)
    have l6 : lv.lookup 6 = some (.int ((mrw (A 1) (A 7) i 3))) := tm_lks el
    clear el
    refine m_ild (pc' := 43) cd_Mo_isGood rfl (Or.inr ⟨_, rfl, rfl, rfl⟩) l2 rfl ?_
    refine m_pure (pc' := 373) (st' := []) cd_Mo_isGood rfl rfl (fun _ _ => rfl) ?_
    refine m_ild (pc' := 374) cd_Mo_isGood rfl (Or.inr ⟨_, rfl, rfl, rfl⟩) l3 rfl ?_
    refine m_k1 (v := 0) (pc' := 375) cd_Mo_isGood rfl (by decide) rfl ?_
    refine m_k1 (v := 3) (pc' := 376) cd_Mo_isGood rfl (by decide) rfl ?_
    refine m_si (pc' := 379) cd_Mo_isGood rfl rfl rfl rfl rfl cd_Mo_within rfl (Nat.le_of_ble_eq_true rfl) (m_w3 ?_)
    show mg _ _ _ 379 _ [.int (bz (ib_grp (mrw (A 1) (A 7) i 0)))] _ _
    refine m_if1 (t := 414) (pc' := 382) cd_Mo_isGood rfl rfl rfl (fun c379 => ?_) (fun c379 => ?_)
    · have c379 : (ib_grp (mrw (A 1) (A 7) i 0)) = false := bz_f c379
      refine m_k1 (v := 0) (pc' := 415) cd_Mo_isGood rfl (by decide) rfl ?_
      exact m_retz cd_Mo_isGood rfl (Or.inl rfl) ⟨_, rfl, (by rw [TG6 hM hX hk7 hm, c379] at kk; simp only [Bool.and_false, Bool.false_and, Bool.true_and, Bool.and_true, Bool.not_true, Bool.not_false, Bool.or_true, Bool.true_or, Bool.or_false, Bool.false_or] at kk; exact kk)⟩
    · have c379 : (ib_grp (mrw (A 1) (A 7) i 0)) = true := bz_t c379
      refine m_ild (pc' := 384) cd_Mo_isGood rfl (Or.inl ⟨rfl, rfl⟩) l4 rfl ?_
      refine m_k1 (v := 1) (pc' := 385) cd_Mo_isGood rfl (by decide) rfl ?_
      refine m_if2 (t := 414) (pc' := 388) cd_Mo_isGood rfl rfl rfl (fun c385 => ?_) (fun c385 => ?_)
      · have c385 : (mrw (A 1) (A 7) i 1) < 1 := c385
        refine m_k1 (v := 0) (pc' := 415) cd_Mo_isGood rfl (by decide) rfl ?_
        exact m_retz cd_Mo_isGood rfl (Or.inl rfl) ⟨_, rfl, (by rw [TG6 hM hX hk7 hm, c379, decide_eq_true c385] at kk; simp only [Bool.and_false, Bool.false_and, Bool.true_and, Bool.and_true, Bool.not_true, Bool.not_false, Bool.or_true, Bool.true_or, Bool.or_false, Bool.false_or] at kk; exact kk)⟩
      · have c385 : ¬ (mrw (A 1) (A 7) i 1) < 1 := c385
        refine m_ild (pc' := 390) cd_Mo_isGood rfl (Or.inl ⟨rfl, rfl⟩) l5 rfl ?_
        refine m_k1 (v := 0) (pc' := 391) cd_Mo_isGood rfl (by decide) rfl ?_
        refine m_k2 (v := 63) (pc' := 393) cd_Mo_isGood rfl (by decide) rfl ?_
        refine m_si (pc' := 396) cd_Mo_isGood rfl rfl rfl rfl rfl cd_Mo_within rfl (Nat.le_of_ble_eq_true rfl) (m_w63 ?_)
        show mg _ _ _ 396 _ [.int (bz (ib_msk (mrw (A 1) (A 7) i 2)))] _ _
        refine m_if1 (t := 414) (pc' := 399) cd_Mo_isGood rfl rfl rfl (fun c396 => ?_) (fun c396 => ?_)
        · have c396 : (ib_msk (mrw (A 1) (A 7) i 2)) = false := bz_f c396
          refine m_k1 (v := 0) (pc' := 415) cd_Mo_isGood rfl (by decide) rfl ?_
          exact m_retz cd_Mo_isGood rfl (Or.inl rfl) ⟨_, rfl, (by rw [TG6 hM hX hk7 hm, c379, decide_eq_false c385, c396] at kk; simp only [Bool.and_false, Bool.false_and, Bool.true_and, Bool.and_true, Bool.not_true, Bool.not_false, Bool.or_true, Bool.true_or, Bool.or_false, Bool.false_or] at kk; exact kk)⟩
        · have c396 : (ib_msk (mrw (A 1) (A 7) i 2)) = true := bz_t c396
          refine m_ald (pc' := 400) cd_Mo_isGood rfl (Or.inr ⟨_, rfl, rfl, rfl⟩) l0 rfl rfl ?_
          refine m_ild (pc' := 401) cd_Mo_isGood rfl (Or.inr ⟨_, rfl, rfl, rfl⟩) l1 rfl ?_
          refine m_k1 (v := 3) (pc' := 402) cd_Mo_isGood rfl (by decide) rfl ?_
          refine m_k2 (v := 8) (pc' := 404) cd_Mo_isGood rfl (by decide) rfl ?_
          refine m_ci (pc' := 407) cd_Mo_isGood rfl rfl rfl rfl rfl cd_Mo_isBare rfl (Nat.le_of_ble_eq_true rfl) (m_isBare (lo := 3) (m := 5) hM hX hk7 (by decide) ?_)
          show mg _ _ _ 407 _ [.int (bz (brb (mrw (A 1) (A 7) i) 3 5))] _ _
          refine m_if1 (t := 414) (pc' := 410) cd_Mo_isGood rfl rfl rfl (fun c407 => ?_) (fun c407 => ?_)
          · have c407 : (brb (mrw (A 1) (A 7) i) 3 5) = false := bz_f c407
            refine m_k1 (v := 0) (pc' := 415) cd_Mo_isGood rfl (by decide) rfl ?_
            exact m_retz cd_Mo_isGood rfl (Or.inl rfl) ⟨_, rfl, (by rw [TG6 hM hX hk7 hm, c379, decide_eq_false c385, c396, c407] at kk; simp only [Bool.and_false, Bool.false_and, Bool.true_and, Bool.and_true, Bool.not_true, Bool.not_false, Bool.or_true, Bool.true_or, Bool.or_false, Bool.false_or] at kk; exact kk)⟩
          · have c407 : (brb (mrw (A 1) (A 7) i) 3 5) = true := bz_t c407
            refine m_k1 (v := 1) (pc' := 411) cd_Mo_isGood rfl (by decide) rfl ?_
            refine m_pure (pc' := 415) (st' := [.int 1]) cd_Mo_isGood rfl rfl (fun _ _ => rfl) ?_
            exact m_retz cd_Mo_isGood rfl (Or.inr rfl) ⟨_, rfl, (by rw [TG6 hM hX hk7 hm, c379, decide_eq_false c385, c396, c407] at kk; simp only [Bool.and_false, Bool.false_and, Bool.true_and, Bool.and_true, Bool.not_true, Bool.not_false, Bool.or_true, Bool.true_or, Bool.or_false, Bool.false_or] at kk; exact kk)⟩
  · have c6 : (decide (kd X = 7) && decide (mk X = 6)) = false := bz_f (Classical.not_not.mp c6)
    refine m_k1 (v := 0) (pc' := 10) cd_Mo_isGood rfl (by decide) rfl ?_
    have hng : Tgood 6 X = false := Bool.eq_false_iff.mpr (fun q => by unfold Tgood at q; simp only [Bool.and_eq_true, decide_eq_true_eq] at q; rw [decide_eq_true q.1.1.1, decide_eq_true (show mk X = 6 from q.1.1.2)] at c6; cases c6)
    exact m_retz cd_Mo_isGood rfl (Or.inl rfl) ⟨_, rfl, (by rw [hng] at kk; exact kk)⟩
set_option maxRecDepth 100000 in
theorem m_isGood7 {sc : tm_X} {d : Nat} {f : Nat → Int32} {A : Nat → Nat → Int32} {T : List Tm} {DL : List (Int32 × Int32)} {G W : Tm → Prop} {i : Nat} {X : Tm} {Q : Int32 → MS → Prop} (hM : MT f A T DL G W) (hX : T[i]? = some X) (kk : Q (bz (Tgood 7 X)) (f, A)) : mGi sc (d + 2) 212 [.ref 1482, .int (nI i), .int 7] (f, A) Q := by
  show mg sc (d + 2) 212 0 [(0, .ref 1482), (1, .int (nI i)), (2, .int 7)] [] (f, A) _
  generalize elv : ([(0, .ref 1482), (1, .int (nI i)), (2, .int 7)] : tm_L) = lv
  have l0 : lv.lookup 0 = some (.ref 1482) := by rw [← elv]; rfl
  have l1 : lv.lookup 1 = some (.int (nI i)) := by rw [← elv]; rfl
  have l2 : lv.lookup 2 = some (.int 7) := by rw [← elv]; rfl
  clear elv
  refine m_ald (pc' := 1) cd_Mo_isGood rfl (Or.inr ⟨_, rfl, rfl, rfl⟩) l0 rfl rfl ?_
  refine m_ild (pc' := 2) cd_Mo_isGood rfl (Or.inr ⟨_, rfl, rfl, rfl⟩) l1 rfl ?_
  refine m_ild (pc' := 3) cd_Mo_isGood rfl (Or.inr ⟨_, rfl, rfl, rfl⟩) l2 rfl ?_
  refine m_ci (pc' := 6) cd_Mo_isGood rfl rfl rfl rfl rfl cd_Mo_isRow rfl (Nat.le_of_ble_eq_true rfl) (m_isRow hM hX ?_)
  show mg _ _ _ 6 _ [.int (bz (decide (kd X = 7) && decide (mk X = 7)))] _ _
  refine m_if1 (t := 11) (pc' := 9) cd_Mo_isGood rfl rfl rfl (fun c6 => ?_) (fun c6 => ?_)
  · have c6 : (decide (kd X = 7) && decide (mk X = 7)) = true := bz_t c6
    refine m_ald (pc' := 12) cd_Mo_isGood rfl (Or.inr ⟨_, rfl, rfl, rfl⟩) l0 rfl rfl ?_
    refine m_ild (pc' := 13) cd_Mo_isGood rfl (Or.inr ⟨_, rfl, rfl, rfl⟩) l1 rfl ?_
    refine m_k1 (v := 0) (pc' := 14) cd_Mo_isGood rfl (by decide) rfl ?_
    have h67 := Bool.and_eq_true_iff.mp c6
    have hk7 : kd X = 7 := of_decide_eq_true h67.1
    have hm : mk X = 7 := of_decide_eq_true h67.2
    have hce := MT_cells hM hX hk7
    refine m_ci (pc' := 17) cd_Mo_isGood rfl rfl rfl rfl rfl cd_Mo_cell rfl (Nat.le_of_ble_eq_true rfl) (m_cell (k := 0) hM hX hk7 (by decide) ?_)
    show mg _ _ _ 17 _ [.int ((mrw (A 1) (A 7) i 0))] _ _
    refine m_ist (pc' := 18) cd_Mo_isGood rfl (Or.inr ⟨_, rfl, rfl, rfl⟩) (by decide) rfl (fun lv el => ?_)
    have l0 := tm_lk el l0 rfl (by decide)
    have l1 := tm_lk el l1 rfl (by decide)
    have l2 := tm_lk el l2 rfl (by decide)
    have l3 : lv.lookup 3 = some (.int ((mrw (A 1) (A 7) i 0))) := tm_lks el
    clear el
    refine m_ald (pc' := 19) cd_Mo_isGood rfl (Or.inr ⟨_, rfl, rfl, rfl⟩) l0 rfl rfl ?_
    refine m_ild (pc' := 20) cd_Mo_isGood rfl (Or.inr ⟨_, rfl, rfl, rfl⟩) l1 rfl ?_
    refine m_k1 (v := 1) (pc' := 21) cd_Mo_isGood rfl (by decide) rfl ?_
    refine m_ci (pc' := 24) cd_Mo_isGood rfl rfl rfl rfl rfl cd_Mo_cell rfl (Nat.le_of_ble_eq_true rfl) (m_cell (k := 1) hM hX hk7 (by decide) ?_)
    show mg _ _ _ 24 _ [.int ((mrw (A 1) (A 7) i 1))] _ _
    refine m_ist (pc' := 26) cd_Mo_isGood rfl (Or.inl ⟨rfl, rfl⟩) (by decide) rfl (fun lv el => ?_)
    have l0 := tm_lk el l0 rfl (by decide)
    have l1 := tm_lk el l1 rfl (by decide)
    have l2 := tm_lk el l2 rfl (by decide)
    have l3 := tm_lk el l3 rfl (by decide)
    have l4 : lv.lookup 4 = some (.int ((mrw (A 1) (A 7) i 1))) := tm_lks el
    clear el
    refine m_ald (pc' := 27) cd_Mo_isGood rfl (Or.inr ⟨_, rfl, rfl, rfl⟩) l0 rfl rfl ?_
    refine m_ild (pc' := 28) cd_Mo_isGood rfl (Or.inr ⟨_, rfl, rfl, rfl⟩) l1 rfl ?_
    refine m_k1 (v := 2) (pc' := 29) cd_Mo_isGood rfl (by decide) rfl ?_
    refine m_ci (pc' := 32) cd_Mo_isGood rfl rfl rfl rfl rfl cd_Mo_cell rfl (Nat.le_of_ble_eq_true rfl) (m_cell (k := 2) hM hX hk7 (by decide) ?_)
    show mg _ _ _ 32 _ [.int ((mrw (A 1) (A 7) i 2))] _ _
    refine m_ist (pc' := 34) cd_Mo_isGood rfl (Or.inl ⟨rfl, rfl⟩) (by decide) rfl (fun lv el => ?_)
    have l0 := tm_lk el l0 rfl (by decide)
    have l1 := tm_lk el l1 rfl (by decide)
    have l2 := tm_lk el l2 rfl (by decide)
    have l3 := tm_lk el l3 rfl (by decide)
    have l4 := tm_lk el l4 rfl (by decide)
    have l5 : lv.lookup 5 = some (.int ((mrw (A 1) (A 7) i 2))) := tm_lks el
    clear el
    refine m_ald (pc' := 35) cd_Mo_isGood rfl (Or.inr ⟨_, rfl, rfl, rfl⟩) l0 rfl rfl ?_
    refine m_ild (pc' := 36) cd_Mo_isGood rfl (Or.inr ⟨_, rfl, rfl, rfl⟩) l1 rfl ?_
    refine m_k1 (v := 3) (pc' := 37) cd_Mo_isGood rfl (by decide) rfl ?_
    refine m_ci (pc' := 40) cd_Mo_isGood rfl rfl rfl rfl rfl cd_Mo_cell rfl (Nat.le_of_ble_eq_true rfl) (m_cell (k := 3) hM hX hk7 (by decide) ?_)
    show mg _ _ _ 40 _ [.int ((mrw (A 1) (A 7) i 3))] _ _
    refine m_ist (pc' := 42) cd_Mo_isGood rfl (Or.inl ⟨rfl, rfl⟩) (by decide) rfl (fun lv el => ?_)
    have l0 := tm_lk el l0 rfl (by decide)
    have l1 := tm_lk el l1 rfl (by decide)
    have l2 := tm_lk el l2 rfl (by decide)
    have l3 := tm_lk el l3 rfl (by decide)
    have l4 := tm_lk el l4 rfl (by decide)
    have l5 := tm_lk el l5 rfl (by decide)
    have l6 : lv.lookup 6 = some (.int ((mrw (A 1) (A 7) i 3))) := tm_lks el
    clear el
    refine m_ild (pc' := 43) cd_Mo_isGood rfl (Or.inr ⟨_, rfl, rfl, rfl⟩) l2 rfl ?_
    refine m_pure (pc' := 416) (st' := []) cd_Mo_isGood rfl rfl (fun _ _ => rfl) ?_
    refine m_ild (pc' := 417) cd_Mo_isGood rfl (Or.inr ⟨_, rfl, rfl, rfl⟩) l3 rfl ?_
    refine m_k1 (v := 0) (pc' := 418) cd_Mo_isGood rfl (by decide) rfl ?_
    refine m_k1 (v := 3) (pc' := 419) cd_Mo_isGood rfl (by decide) rfl ?_
    refine m_si (pc' := 422) cd_Mo_isGood rfl rfl rfl rfl rfl cd_Mo_within rfl (Nat.le_of_ble_eq_true rfl) (m_w3 ?_)
    show mg _ _ _ 422 _ [.int (bz (ib_grp (mrw (A 1) (A 7) i 0)))] _ _
    refine m_if1 (t := 468) (pc' := 425) cd_Mo_isGood rfl rfl rfl (fun c422 => ?_) (fun c422 => ?_)
    · have c422 : (ib_grp (mrw (A 1) (A 7) i 0)) = false := bz_f c422
      refine m_k1 (v := 0) (pc' := 469) cd_Mo_isGood rfl (by decide) rfl ?_
      exact m_retz cd_Mo_isGood rfl (Or.inl rfl) ⟨_, rfl, (by rw [TG7 hM hX hk7 hm, c422] at kk; simp only [Bool.and_false, Bool.false_and, Bool.true_and, Bool.and_true, Bool.not_true, Bool.not_false, Bool.or_true, Bool.true_or, Bool.or_false, Bool.false_or] at kk; exact kk)⟩
    · have c422 : (ib_grp (mrw (A 1) (A 7) i 0)) = true := bz_t c422
      refine m_ild (pc' := 427) cd_Mo_isGood rfl (Or.inl ⟨rfl, rfl⟩) l4 rfl ?_
      refine m_k1 (v := 0) (pc' := 428) cd_Mo_isGood rfl (by decide) rfl ?_
      refine m_k1 (v := 5) (pc' := 429) cd_Mo_isGood rfl (by decide) rfl ?_
      refine m_si (pc' := 432) cd_Mo_isGood rfl rfl rfl rfl rfl cd_Mo_within rfl (Nat.le_of_ble_eq_true rfl) (m_w5 ?_)
      show mg _ _ _ 432 _ [.int (bz (ib_dev (mrw (A 1) (A 7) i 1)))] _ _
      refine m_if1 (t := 468) (pc' := 435) cd_Mo_isGood rfl rfl rfl (fun c432 => ?_) (fun c432 => ?_)
      · have c432 : (ib_dev (mrw (A 1) (A 7) i 1)) = false := bz_f c432
        refine m_k1 (v := 0) (pc' := 469) cd_Mo_isGood rfl (by decide) rfl ?_
        exact m_retz cd_Mo_isGood rfl (Or.inl rfl) ⟨_, rfl, (by rw [TG7 hM hX hk7 hm, c422, c432] at kk; simp only [Bool.and_false, Bool.false_and, Bool.true_and, Bool.and_true, Bool.not_true, Bool.not_false, Bool.or_true, Bool.true_or, Bool.or_false, Bool.false_or] at kk; exact kk)⟩
      · have c432 : (ib_dev (mrw (A 1) (A 7) i 1)) = true := bz_t c432
        refine m_ild (pc' := 437) cd_Mo_isGood rfl (Or.inl ⟨rfl, rfl⟩) l5 rfl ?_
        refine m_k1 (v := 1) (pc' := 438) cd_Mo_isGood rfl (by decide) rfl ?_
        refine m_if2 (t := 468) (pc' := 441) cd_Mo_isGood rfl rfl rfl (fun c438 => ?_) (fun c438 => ?_)
        · have c438 : (mrw (A 1) (A 7) i 2) < 1 := c438
          refine m_k1 (v := 0) (pc' := 469) cd_Mo_isGood rfl (by decide) rfl ?_
          exact m_retz cd_Mo_isGood rfl (Or.inl rfl) ⟨_, rfl, (by rw [TG7 hM hX hk7 hm, c422, c432, decide_eq_true c438] at kk; simp only [Bool.and_false, Bool.false_and, Bool.true_and, Bool.and_true, Bool.not_true, Bool.not_false, Bool.or_true, Bool.true_or, Bool.or_false, Bool.false_or] at kk; exact kk)⟩
        · have c438 : ¬ (mrw (A 1) (A 7) i 2) < 1 := c438
          refine m_ild (pc' := 443) cd_Mo_isGood rfl (Or.inl ⟨rfl, rfl⟩) l6 rfl ?_
          refine m_k1 (v := 0) (pc' := 444) cd_Mo_isGood rfl (by decide) rfl ?_
          refine m_k3 (v := 9999) (pc' := 447) cd_Mo_isGood rfl (by decide) rfl ?_
          refine m_si (pc' := 450) cd_Mo_isGood rfl rfl rfl rfl rfl cd_Mo_within rfl (Nat.le_of_ble_eq_true rfl) (m_w9 ?_)
          show mg _ _ _ 450 _ [.int (bz (ib_idx (mrw (A 1) (A 7) i 3)))] _ _
          refine m_if1 (t := 468) (pc' := 453) cd_Mo_isGood rfl rfl rfl (fun c450 => ?_) (fun c450 => ?_)
          · have c450 : (ib_idx (mrw (A 1) (A 7) i 3)) = false := bz_f c450
            refine m_k1 (v := 0) (pc' := 469) cd_Mo_isGood rfl (by decide) rfl ?_
            exact m_retz cd_Mo_isGood rfl (Or.inl rfl) ⟨_, rfl, (by rw [TG7 hM hX hk7 hm, c422, c432, decide_eq_false c438, c450] at kk; simp only [Bool.and_false, Bool.false_and, Bool.true_and, Bool.and_true, Bool.not_true, Bool.not_false, Bool.or_true, Bool.true_or, Bool.or_false, Bool.false_or] at kk; exact kk)⟩
          · have c450 : (ib_idx (mrw (A 1) (A 7) i 3)) = true := bz_t c450
            refine m_ald (pc' := 454) cd_Mo_isGood rfl (Or.inr ⟨_, rfl, rfl, rfl⟩) l0 rfl rfl ?_
            refine m_ild (pc' := 455) cd_Mo_isGood rfl (Or.inr ⟨_, rfl, rfl, rfl⟩) l1 rfl ?_
            refine m_k1 (v := 4) (pc' := 456) cd_Mo_isGood rfl (by decide) rfl ?_
            refine m_k2 (v := 8) (pc' := 458) cd_Mo_isGood rfl (by decide) rfl ?_
            refine m_ci (pc' := 461) cd_Mo_isGood rfl rfl rfl rfl rfl cd_Mo_isBare rfl (Nat.le_of_ble_eq_true rfl) (m_isBare (lo := 4) (m := 4) hM hX hk7 (by decide) ?_)
            show mg _ _ _ 461 _ [.int (bz (brb (mrw (A 1) (A 7) i) 4 4))] _ _
            refine m_if1 (t := 468) (pc' := 464) cd_Mo_isGood rfl rfl rfl (fun c461 => ?_) (fun c461 => ?_)
            · have c461 : (brb (mrw (A 1) (A 7) i) 4 4) = false := bz_f c461
              refine m_k1 (v := 0) (pc' := 469) cd_Mo_isGood rfl (by decide) rfl ?_
              exact m_retz cd_Mo_isGood rfl (Or.inl rfl) ⟨_, rfl, (by rw [TG7 hM hX hk7 hm, c422, c432, decide_eq_false c438, c450, c461] at kk; simp only [Bool.and_false, Bool.false_and, Bool.true_and, Bool.and_true, Bool.not_true, Bool.not_false, Bool.or_true, Bool.true_or, Bool.or_false, Bool.false_or] at kk; exact kk)⟩
            · have c461 : (brb (mrw (A 1) (A 7) i) 4 4) = true := bz_t c461
              refine m_k1 (v := 1) (pc' := 465) cd_Mo_isGood rfl (by decide) rfl ?_
              refine m_pure (pc' := 469) (st' := [.int 1]) cd_Mo_isGood rfl rfl (fun _ _ => rfl) ?_
              exact m_retz cd_Mo_isGood rfl (Or.inr rfl) ⟨_, rfl, (by rw [TG7 hM hX hk7 hm, c422, c432, decide_eq_false c438, c450, c461] at kk; simp only [Bool.and_false, Bool.false_and, Bool.true_and, Bool.and_true, Bool.not_true, Bool.not_false, Bool.or_true, Bool.true_or, Bool.or_false, Bool.false_or] at kk; exact kk)⟩
  · have c6 : (decide (kd X = 7) && decide (mk X = 7)) = false := bz_f (Classical.not_not.mp c6)
    refine m_k1 (v := 0) (pc' := 10) cd_Mo_isGood rfl (by decide) rfl ?_
    have hng : Tgood 7 X = false := Bool.eq_false_iff.mpr (fun q => by unfold Tgood at q; simp only [Bool.and_eq_true, decide_eq_true_eq] at q; rw [decide_eq_true q.1.1.1, decide_eq_true (show mk X = 7 from q.1.1.2)] at c6; cases c6)
    exact m_retz cd_Mo_isGood rfl (Or.inl rfl) ⟨_, rfl, (by rw [hng] at kk; exact kk)⟩
set_option maxRecDepth 100000 in
theorem m_isSealed3 {sc : tm_X} {d : Nat} {f : Nat → Int32} {A : Nat → Nat → Int32} {T : List Tm} {DL : List (Int32 × Int32)} {G W : Tm → Prop} {i : Nat} {X : Tm} {Q : Int32 → MS → Prop} (hM : MT f A T DL G W) (hX : T[i]? = some X) (kk : Q (bz (decide (kd X = 5) && Tgood 3 (pt X 1))) (f, A)) : mGi sc (d + 3) 231 [.ref 1482, .int (nI i), .int 3] (f, A) Q := by
  have hlen := MT_len hM
  have hi := tv_lt hX
  have hw := MT_kd hM hX
  show mg sc (d + 3) 231 0 [(0, .ref 1482), (1, .int (nI i)), (2, .int 3)] [] (f, A) _
  generalize elv : ([(0, .ref 1482), (1, .int (nI i)), (2, .int 3)] : tm_L) = lv
  have l0 : lv.lookup 0 = some (.ref 1482) := by rw [← elv]; rfl
  have l1 : lv.lookup 1 = some (.int (nI i)) := by rw [← elv]; rfl
  have l2 : lv.lookup 2 = some (.int 3) := by rw [← elv]; rfl
  clear elv
  refine m_ild (pc' := 1) cd_Mo_isSealed rfl (Or.inr ⟨_, rfl, rfl, rfl⟩) l1 rfl ?_
  refine m_if1 (t := 32) (pc' := 4) cd_Mo_isSealed rfl rfl rfl (fun c1 => ?_) (fun c1 => ?_)
  · have c1 : (nI i) ≤ 0 := c1
    refine m_k1 (v := 0) (pc' := 33) cd_Mo_isSealed rfl (by decide) rfl ?_
    have hz : X = tz := (MT_0 hM ⟨i, rfl, hX⟩).mp (by
      rcases Nat.eq_zero_or_pos i with z | z
      · rw [z]; rfl
      · exact absurd c1 (nI_nle z (by omega)))
    exact m_retz cd_Mo_isSealed rfl (Or.inl rfl) ⟨_, rfl, (by rw [hz] at kk; exact kk)⟩
  · have c1 : ¬ (nI i) ≤ 0 := c1
    refine m_ald (pc' := 5) cd_Mo_isSealed rfl (Or.inr ⟨_, rfl, rfl, rfl⟩) l0 rfl rfl ?_
    refine m_fR (r := 0) (a := 1) (ad := 1483) (pc' := 8) rfl rfl cd_Mo_isSealed rfl rfl rfl rfl rfl ?_
    refine m_ild (pc' := 9) cd_Mo_isSealed rfl (Or.inr ⟨_, rfl, rfl, rfl⟩) l1 rfl ?_
    refine m_aI (r := 0) (a := 1) (g := (A 1)) (x := (kd X)) (pc' := 10) rfl rfl cd_Mo_isSealed rfl rfl rfl (vp_in_nI (by omega) (by decide)) (by rw [(nI_clamp (by omega))]; exact hw) ?_
    refine m_k1 (v := 5) (pc' := 11) cd_Mo_isSealed rfl (by decide) rfl ?_
    refine m_if2 (t := 32) (pc' := 14) cd_Mo_isSealed rfl rfl rfl (fun c11 => ?_) (fun c11 => ?_)
    · have c11 : ¬ (kd X) = 5 := c11
      refine m_k1 (v := 0) (pc' := 33) cd_Mo_isSealed rfl (by decide) rfl ?_
      exact m_retz cd_Mo_isSealed rfl (Or.inl rfl) ⟨_, rfl, (by rw [decide_eq_false c11] at kk; exact kk)⟩
    · have c11 : (kd X) = 5 := Classical.not_not.mp c11
      refine m_ald (pc' := 15) cd_Mo_isSealed rfl (Or.inr ⟨_, rfl, rfl, rfl⟩) l0 rfl rfl ?_
      refine m_ald (pc' := 16) cd_Mo_isSealed rfl (Or.inr ⟨_, rfl, rfl, rfl⟩) l0 rfl rfl ?_
      refine m_fR (r := 2) (a := 3) (ad := 1485) (pc' := 19) rfl rfl cd_Mo_isSealed rfl rfl rfl rfl rfl ?_
      refine m_ild (pc' := 20) cd_Mo_isSealed rfl (Or.inr ⟨_, rfl, rfl, rfl⟩) l1 rfl ?_
      obtain ⟨j, ej, hj, hY⟩ := tv_ix (MT_two hM hX (Or.inr (Or.inl c11)))
      refine m_aI (r := 2) (a := 3) (g := (A 3)) (x := (nI j)) (pc' := 21) rfl rfl cd_Mo_isSealed rfl rfl rfl (vp_in_nI (by omega) (by decide)) (by rw [(nI_clamp (by omega))]; exact ej) ?_
      refine m_ild (pc' := 22) cd_Mo_isSealed rfl (Or.inr ⟨_, rfl, rfl, rfl⟩) l2 rfl ?_
      refine m_ci (pc' := 25) cd_Mo_isSealed rfl rfl rfl rfl rfl cd_Mo_isGood rfl (Nat.le_of_ble_eq_true rfl) (m_isGood3 hM hY ?_)
      show mg _ _ _ 25 _ [.int (bz (Tgood 3 (pt X 1)))] _ _
      refine m_if1 (t := 32) (pc' := 28) cd_Mo_isSealed rfl rfl rfl (fun c25 => ?_) (fun c25 => ?_)
      · have c25 : (Tgood 3 (pt X 1)) = false := bz_f c25
        refine m_k1 (v := 0) (pc' := 33) cd_Mo_isSealed rfl (by decide) rfl ?_
        exact m_retz cd_Mo_isSealed rfl (Or.inl rfl) ⟨_, rfl, (by rw [decide_eq_true c11, c25] at kk; exact kk)⟩
      · have c25 : (Tgood 3 (pt X 1)) = true := bz_t c25
        refine m_k1 (v := 1) (pc' := 29) cd_Mo_isSealed rfl (by decide) rfl ?_
        refine m_pure (pc' := 33) (st' := [.int 1]) cd_Mo_isSealed rfl rfl (fun _ _ => rfl) ?_
        exact m_retz cd_Mo_isSealed rfl (Or.inr rfl) ⟨_, rfl, (by rw [decide_eq_true c11, c25] at kk; exact kk)⟩
set_option maxRecDepth 100000 in
theorem m_isSealed7 {sc : tm_X} {d : Nat} {f : Nat → Int32} {A : Nat → Nat → Int32} {T : List Tm} {DL : List (Int32 × Int32)} {G W : Tm → Prop} {i : Nat} {X : Tm} {Q : Int32 → MS → Prop} (hM : MT f A T DL G W) (hX : T[i]? = some X) (kk : Q (bz (decide (kd X = 5) && Tgood 7 (pt X 1))) (f, A)) : mGi sc (d + 3) 231 [.ref 1482, .int (nI i), .int 7] (f, A) Q := by
  have hlen := MT_len hM
  have hi := tv_lt hX
  have hw := MT_kd hM hX
  show mg sc (d + 3) 231 0 [(0, .ref 1482), (1, .int (nI i)), (2, .int 7)] [] (f, A) _
  generalize elv : ([(0, .ref 1482), (1, .int (nI i)), (2, .int 7)] : tm_L) = lv
  have l0 : lv.lookup 0 = some (.ref 1482) := by rw [← elv]; rfl
  have l1 : lv.lookup 1 = some (.int (nI i)) := by rw [← elv]; rfl
  have l2 : lv.lookup 2 = some (.int 7) := by rw [← elv]; rfl
  clear elv
  refine m_ild (pc' := 1) cd_Mo_isSealed rfl (Or.inr ⟨_, rfl, rfl, rfl⟩) l1 rfl ?_
  refine m_if1 (t := 32) (pc' := 4) cd_Mo_isSealed rfl rfl rfl (fun c1 => ?_) (fun c1 => ?_)
  · have c1 : (nI i) ≤ 0 := c1
    refine m_k1 (v := 0) (pc' := 33) cd_Mo_isSealed rfl (by decide) rfl ?_
    have hz : X = tz := (MT_0 hM ⟨i, rfl, hX⟩).mp (by
      rcases Nat.eq_zero_or_pos i with z | z
      · rw [z]; rfl
      · exact absurd c1 (nI_nle z (by omega)))
    exact m_retz cd_Mo_isSealed rfl (Or.inl rfl) ⟨_, rfl, (by rw [hz] at kk; exact kk)⟩
  · have c1 : ¬ (nI i) ≤ 0 := c1
    refine m_ald (pc' := 5) cd_Mo_isSealed rfl (Or.inr ⟨_, rfl, rfl, rfl⟩) l0 rfl rfl ?_
    refine m_fR (r := 0) (a := 1) (ad := 1483) (pc' := 8) rfl rfl cd_Mo_isSealed rfl rfl rfl rfl rfl ?_
    refine m_ild (pc' := 9) cd_Mo_isSealed rfl (Or.inr ⟨_, rfl, rfl, rfl⟩) l1 rfl ?_
    refine m_aI (r := 0) (a := 1) (g := (A 1)) (x := (kd X)) (pc' := 10) rfl rfl cd_Mo_isSealed rfl rfl rfl (vp_in_nI (by omega) (by decide)) (by rw [(nI_clamp (by omega))]; exact hw) ?_
    refine m_k1 (v := 5) (pc' := 11) cd_Mo_isSealed rfl (by decide) rfl ?_
    refine m_if2 (t := 32) (pc' := 14) cd_Mo_isSealed rfl rfl rfl (fun c11 => ?_) (fun c11 => ?_)
    · have c11 : ¬ (kd X) = 5 := c11
      refine m_k1 (v := 0) (pc' := 33) cd_Mo_isSealed rfl (by decide) rfl ?_
      exact m_retz cd_Mo_isSealed rfl (Or.inl rfl) ⟨_, rfl, (by rw [decide_eq_false c11] at kk; exact kk)⟩
    · have c11 : (kd X) = 5 := Classical.not_not.mp c11
      refine m_ald (pc' := 15) cd_Mo_isSealed rfl (Or.inr ⟨_, rfl, rfl, rfl⟩) l0 rfl rfl ?_
      refine m_ald (pc' := 16) cd_Mo_isSealed rfl (Or.inr ⟨_, rfl, rfl, rfl⟩) l0 rfl rfl ?_
      refine m_fR (r := 2) (a := 3) (ad := 1485) (pc' := 19) rfl rfl cd_Mo_isSealed rfl rfl rfl rfl rfl ?_
      refine m_ild (pc' := 20) cd_Mo_isSealed rfl (Or.inr ⟨_, rfl, rfl, rfl⟩) l1 rfl ?_
      obtain ⟨j, ej, hj, hY⟩ := tv_ix (MT_two hM hX (Or.inr (Or.inl c11)))
      refine m_aI (r := 2) (a := 3) (g := (A 3)) (x := (nI j)) (pc' := 21) rfl rfl cd_Mo_isSealed rfl rfl rfl (vp_in_nI (by omega) (by decide)) (by rw [(nI_clamp (by omega))]; exact ej) ?_
      refine m_ild (pc' := 22) cd_Mo_isSealed rfl (Or.inr ⟨_, rfl, rfl, rfl⟩) l2 rfl ?_
      refine m_ci (pc' := 25) cd_Mo_isSealed rfl rfl rfl rfl rfl cd_Mo_isGood rfl (Nat.le_of_ble_eq_true rfl) (m_isGood7 hM hY ?_)
      show mg _ _ _ 25 _ [.int (bz (Tgood 7 (pt X 1)))] _ _
      refine m_if1 (t := 32) (pc' := 28) cd_Mo_isSealed rfl rfl rfl (fun c25 => ?_) (fun c25 => ?_)
      · have c25 : (Tgood 7 (pt X 1)) = false := bz_f c25
        refine m_k1 (v := 0) (pc' := 33) cd_Mo_isSealed rfl (by decide) rfl ?_
        exact m_retz cd_Mo_isSealed rfl (Or.inl rfl) ⟨_, rfl, (by rw [decide_eq_true c11, c25] at kk; exact kk)⟩
      · have c25 : (Tgood 7 (pt X 1)) = true := bz_t c25
        refine m_k1 (v := 1) (pc' := 29) cd_Mo_isSealed rfl (by decide) rfl ?_
        refine m_pure (pc' := 33) (st' := [.int 1]) cd_Mo_isSealed rfl rfl (fun _ _ => rfl) ?_
        exact m_retz cd_Mo_isSealed rfl (Or.inr rfl) ⟨_, rfl, (by rw [decide_eq_true c11, c25] at kk; exact kk)⟩
set_option maxRecDepth 100000 in
theorem l_forget {sc : tm_X} {d : Nat} {T : List Tm} {DL : List (Int32 × Int32)} {G W : Tm → Prop} {f0 : Nat → Int32} {A0 : Nat → Nat → Int32} {Q : MS → Prop} (hT1 : 1 ≤ T.length) (kk : ∀ f1 A1, MT (mjF f1 f0) (mjA A1 A0) T DL G W → Q (mjF f1 f0, mjA A1 A0)) : ∀ (m : Nat) (E : List Tm) (f : Nat → Int32) (A : Nat → Nat → Int32), E.length = m → MT f A (T ++ E) DL G W → (∀ X, X ∈ E → ¬ G X ∧ ¬ W X) → (∀ k, ¬ (k = 0 ∨ k = 7) → f k = f0 k) → (∀ j, ¬ (1 ≤ j ∧ j ≤ 8) → A j = A0 j) → ∀ lv : tm_L, lv.lookup 0 = some (.ref 1482) → lv.lookup 1 = some (.int (nI T.length)) → mg sc (d + 3) 246 0 lv [] (f, A) (fun r s' => r = none ∧ Q s') := by
  intro m
  induction m with
  | zero =>
    intro E f A hE hM hG ef eA lv l0 l1
    have hE0 : E = [] := List.length_eq_zero_iff.mp hE
    subst hE0
    rw [List.append_nil] at hM
    have hlen := MT_len hM
    refine m_ald (pc' := 1) cd_Mo_forget rfl (Or.inr ⟨_, rfl, rfl, rfl⟩) l0 rfl rfl ?_
    refine m_fI (k := 0) (x := (nI T.length)) (pc' := 4) cd_Mo_forget rfl rfl rfl rfl rfl hM.1.1.1 ?_
    refine m_ild (pc' := 5) cd_Mo_forget rfl (Or.inr ⟨_, rfl, rfl, rfl⟩) l1 rfl ?_
    refine m_if2 (t := 61) (pc' := 8) cd_Mo_forget rfl rfl rfl (fun c5 => ?_) (fun c5 => ?_)
    · have c5 : (nI T.length) ≤ (nI T.length) := c5
      exact m_retv cd_Mo_forget rfl ⟨rfl, (by have k2 := kk f A; rw [mjF_of ef, mjA_of eA] at k2; exact k2 hM)⟩
    · have c5 : ¬ (nI T.length) ≤ (nI T.length) := c5
      exact absurd (Int32.le_refl _) c5
  | succ m ih =>
    intro E f A hE hM hG ef eA lv l0 l1
    obtain ⟨E1, X, rfl⟩ : ∃ E1 X, E = E1 ++ [X] := by
      rcases List.eq_nil_or_concat E with z | ⟨E1, X, z⟩
      · rw [z] at hE; simp at hE
      · exact ⟨E1, X, by rw [z, List.concat_eq_append]⟩
    rw [← List.append_assoc] at hM
    have hlen := MT_len hM
    have hl1 : ((T ++ E1) ++ [X]).length = (T ++ E1).length + 1 := by simp; omega
    obtain ⟨n, en⟩ : ∃ n, n = (T ++ E1).length := ⟨_, rfl⟩
    have hn1 : T.length ≤ n := by rw [en]; simp
    have hEl : E1.length = m := by simp at hE; exact hE
    have hnT : n = T.length + E1.length := by rw [en]; simp
    have hXn : ((T ++ E1) ++ [X])[n]? = some X := by rw [en]; simp
    rw [← en] at hl1
    have h0 : f 0 = nI (n + 1) := by have := hM.1.1.1; rw [hl1] at this; exact this
    have hu := MT_u hM (by omega) hXn
    obtain ⟨sl, q1, q2⟩ := hM.2.2.1.2
    obtain ⟨a1, e, a2, a3, a4⟩ := q1 n (by omega) (by omega)
    have hX0 := hG X (by simp)
    have hmh : mhs (A 1) (A 2) (A 3) (A 4) (A 7) n = hix (hky (A 1 n) (A 2 n) (if A 1 n = 7 then 0 else A 3 n) (A 4 n) (fun k => A 7 (8 * rc (A 1) n + k))) := rfl
    have hsl : sl n < 8192 := by rw [a3]; exact Nat.mod_lt _ (by decide)
    have hdel := MT_del (p := sl n) hM (by rw [← en]; omega) hX0.1 hX0.2 hsl (by rw [a1, en])
    rw [← en] at hdel
    refine m_ald (pc' := 1) cd_Mo_forget rfl (Or.inr ⟨_, rfl, rfl, rfl⟩) l0 rfl rfl ?_
    refine m_fI (k := 0) (x := (nI (n + 1))) (pc' := 4) cd_Mo_forget rfl rfl rfl rfl rfl h0 ?_
    refine m_ild (pc' := 5) cd_Mo_forget rfl (Or.inr ⟨_, rfl, rfl, rfl⟩) l1 rfl ?_
    refine m_if2 (t := 61) (pc' := 8) cd_Mo_forget rfl rfl rfl (fun c5 => ?_) (fun c5 => ?_)
    · have c5 : (nI (n + 1)) ≤ (nI T.length) := c5
      exact absurd c5 (nI_ge (by omega) (by omega))
    · have c5 : ¬ (nI (n + 1)) ≤ (nI T.length) := c5
      refine m_ald (pc' := 9) cd_Mo_forget rfl (Or.inr ⟨_, rfl, rfl, rfl⟩) l0 rfl rfl ?_
      refine m_fR (r := 7) (a := 8) (ad := 1490) (pc' := 12) rfl rfl cd_Mo_forget rfl rfl rfl rfl rfl ?_
      refine m_ald (pc' := 13) cd_Mo_forget rfl (Or.inr ⟨_, rfl, rfl, rfl⟩) l0 rfl rfl ?_
      refine m_ald (pc' := 14) cd_Mo_forget rfl (Or.inr ⟨_, rfl, rfl, rfl⟩) l0 rfl rfl ?_
      refine m_fI (k := 0) (x := (nI (n + 1))) (pc' := 17) cd_Mo_forget rfl rfl rfl rfl rfl h0 ?_
      refine m_k1 (v := 1) (pc' := 18) cd_Mo_forget rfl (by decide) rfl ?_
      refine m_pure (pc' := 19) (st' := [.int ((nI (n + 1)) - 1), .ref 1482, .ref 1490]) cd_Mo_forget rfl rfl (fun _ _ => rfl) ?_
      refine m_eq (show ((nI (n + 1)) - 1 : Int32) = nI n from pk_sub (a := n + 1) (b := 1) (by omega)) ?_
      refine m_ci (pc' := 22) cd_Mo_forget rfl rfl rfl rfl rfl cd_Mo_slot rfl (Nat.le_of_ble_eq_true rfl) (m_slot (u := rc (A 1) n) (e := e) a2 (by omega) (by omega) hu (by rw [← hmh, ← a3]; exact a1) (by rw [← hmh]; exact a4) ?_)
      rw [← hmh, ← a3]
      show mg _ _ _ 22 _ [.int (nI (sl n)), .ref 1490] _ _
      refine m_k1 (v := 0) (pc' := 23) cd_Mo_forget rfl (by decide) rfl ?_
      refine m_aS (r := 7) (a := 8) (g := (A 8)) (p := (sl n)) (pc' := 24) rfl rfl cd_Mo_forget rfl rfl rfl (vp_in_nI (by omega) (by decide)) (nI_clamp (by omega)) ?_
      refine m_ald (pc' := 25) cd_Mo_forget rfl (Or.inr ⟨_, rfl, rfl, rfl⟩) l0 rfl rfl ?_
      refine m_pure (pc' := 26) (st' := [.ref 1482, .ref 1482]) cd_Mo_forget rfl rfl (fun _ _ => rfl) ?_
      refine m_fI (k := 0) (x := (nI (n + 1))) (pc' := 29) cd_Mo_forget rfl rfl rfl rfl rfl h0 ?_
      refine m_k1 (v := 1) (pc' := 30) cd_Mo_forget rfl (by decide) rfl ?_
      refine m_pure (pc' := 31) (st' := [.int ((nI (n + 1)) - 1), .ref 1482]) cd_Mo_forget rfl rfl (fun _ _ => rfl) ?_
      refine m_eq (show ((nI (n + 1)) - 1 : Int32) = nI n from pk_sub (a := n + 1) (b := 1) (by omega)) ?_
      refine m_pI (k := 0) (pc' := 34) cd_Mo_forget rfl rfl rfl rfl (by simp [tm_okV, narrow, fits]) rfl rfl ?_
      refine m_ald (pc' := 35) cd_Mo_forget rfl (Or.inr ⟨_, rfl, rfl, rfl⟩) l0 rfl rfl ?_
      refine m_fR (r := 0) (a := 1) (ad := 1483) (pc' := 38) rfl rfl cd_Mo_forget rfl rfl rfl rfl rfl ?_
      refine m_ald (pc' := 39) cd_Mo_forget rfl (Or.inr ⟨_, rfl, rfl, rfl⟩) l0 rfl rfl ?_
      refine m_fI (k := 0) (x := (nI n)) (pc' := 42) cd_Mo_forget rfl rfl rfl rfl rfl rfl ?_
      refine m_aI (r := 0) (a := 1) (g := (A 1)) (x := ((A 1) n)) (pc' := 43) rfl rfl cd_Mo_forget rfl rfl rfl (vp_in_nI (show n < 4096 by omega) (by decide)) (congrArg (A 1) (nI_clamp (by omega))) ?_
      refine m_k2 (v := 7) (pc' := 45) cd_Mo_forget rfl (by decide) rfl ?_
      refine m_if2 (t := 0) (pc' := 48) cd_Mo_forget rfl rfl rfl (fun c45 => ?_) (fun c45 => ?_)
      · have c45 : ¬ ((A 1) n) = 7 := c45
        have h7 : f 7 = nI (rc (A 1) n) := by have := hM.1.2.1.1; rw [hl1] at this; rw [this]; show nI (rc (A 1) n + (if A 1 n = 7 then 1 else 0)) = _; rw [if_neg c45]; rfl
        rw [← h7] at hdel
        exact ih E1 _ _ hEl (by exact hdel) (fun Y q => hG Y (List.mem_append.mpr (Or.inl q))) (fun k q => (fset_ne (show k ≠ 0 by omega)).trans (ef k q)) (fun j q => (fset_ne (show j ≠ 8 by omega)).trans (eA j q)) lv l0 l1
      · have c45 : ((A 1) n) = 7 := Classical.not_not.mp c45
        refine m_ald (pc' := 49) cd_Mo_forget rfl (Or.inr ⟨_, rfl, rfl, rfl⟩) l0 rfl rfl ?_
        refine m_pure (pc' := 50) (st' := [.ref 1482, .ref 1482]) cd_Mo_forget rfl rfl (fun _ _ => rfl) ?_
        refine m_fI (k := 7) (x := (nI (rc (A 1) n + 1))) (pc' := 53) cd_Mo_forget rfl rfl rfl rfl rfl (by have := hM.1.2.1.1; rw [hl1] at this; show f 7 = _; rw [this]; show nI (rc (A 1) n + (if A 1 n = 7 then 1 else 0)) = _; rw [if_pos c45]) ?_
        refine m_k1 (v := 1) (pc' := 54) cd_Mo_forget rfl (by decide) rfl ?_
        refine m_pure (pc' := 55) (st' := [.int ((nI (rc (A 1) n + 1)) - 1), .ref 1482]) cd_Mo_forget rfl rfl (fun _ _ => rfl) ?_
        refine m_eq (show ((nI (rc (A 1) n + 1)) - 1 : Int32) = nI (rc (A 1) n) from pk_sub (a := rc (A 1) n + 1) (b := 1) (by omega)) ?_
        refine m_pI (k := 7) (pc' := 58) cd_Mo_forget rfl rfl rfl rfl (by simp [tm_okV, narrow, fits]) rfl rfl ?_
        refine m_pure (pc' := 0) (st' := []) cd_Mo_forget rfl rfl (fun _ _ => rfl) ?_
        exact ih E1 _ _ hEl (by exact hdel) (fun Y q => hG Y (List.mem_append.mpr (Or.inl q))) (fun k q => ((fset_ne (show k ≠ 7 by omega)).trans (fset_ne (show k ≠ 0 by omega))).trans (ef k q)) (fun j q => (fset_ne (show j ≠ 8 by omega)).trans (eA j q)) lv l0 l1
set_option maxRecDepth 100000 in
theorem m_forget {sc : tm_X} {d : Nat} {f : Nat → Int32} {A : Nat → Nat → Int32} {T E : List Tm} {DL : List (Int32 × Int32)} {G W : Tm → Prop} {Q : MS → Prop} (hM : MT f A (T ++ E) DL G W) (hT1 : 1 ≤ T.length) (hG : ∀ X, X ∈ E → ¬ G X ∧ ¬ W X) (kk : ∀ f1 A1, MT (mjF f1 f) (mjA A1 A) T DL G W → Q (mjF f1 f, mjA A1 A)) : mGv sc (d + 3) 246 [.ref 1482, .int (nI T.length)] (f, A) Q := by
  show mg sc (d + 3) 246 0 [(0, .ref 1482), (1, .int (nI T.length))] [] (f, A) _
  generalize elv : ([(0, .ref 1482), (1, .int (nI T.length))] : tm_L) = lv
  have l0 : lv.lookup 0 = some (.ref 1482) := by rw [← elv]; rfl
  have l1 : lv.lookup 1 = some (.int (nI T.length)) := by rw [← elv]; rfl
  clear elv
  exact l_forget hT1 kk E.length E f A rfl hM hG (fun _ _ => rfl) (fun _ _ => rfl) lv l0 l1
