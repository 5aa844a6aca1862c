/-! Makers of Terms, told by trees: secrets, changed rows, GOOD rows, room -/
/-- nothing is made, and what lies outside of X stays -/
def fz (X : Nat → Prop) (B B' : bm_H) : Prop := fr X B B' ∧ bm_n B' = bm_n B ∧ bm_sl B' = bm_sl B
theorem fz_rfl (X : Nat → Prop) (B : bm_H) : fz X B B := ⟨fr_rfl X B, rfl, rfl⟩
theorem fz_trans {X : Nat → Prop} {B B1 B2 : bm_H} (h : fz X B B1) (g : fz X B1 B2) : fz X B B2 := ⟨fr_trans h.1 g.1, g.2.1.trans h.2.1, g.2.2.trans h.2.2⟩
theorem fz_mono {X Y : Nat → Prop} {B B' : bm_H} (hXY : ∀ x, X x → Y x) (h : fz X B B') : fz Y B B' := ⟨fr_mono hXY h.1, h.2⟩
theorem fz_te {B B' : bm_H} {a ca ba da : Nat} (h : te_fr B B' a ca ba da) : fz (fun x => x = a ∨ x = ca ∨ x = ba ∨ x = da) B B' := ⟨fr_te h, h.1, h.2.1⟩
def tnil (A : Tm) : Bool := match A with
  | .leaf => true
  | _ => false
theorem tnil_iff {A : Tm} : tnil A = true ↔ A = tz := by cases A <;> simp [tnil, tz]
/-- a GOOD ROW of KIND k -/
def Tgood (k : Nat) (A : Tm) : Bool := decide (kd A = 7) && decide (mk A = nI k) && gn k (nu A 0) (nu A 1) (nu A 2) (nu A 3) && gp k (bz (!tnil (pt A 0))) (bz (!tnil (pt A 1))) (bz (!tnil (pt A 2))) (bz (!tnil (pt A 3))) (kd (pt A 0)) (kd (pt A 1)) (kd (pt A 2)) (kd (pt A 3))
theorem gp_congr {k : Nat} {a b c d a' b' c' d' ka kb kc kd : Int32} (ha : decide (a = 0) = decide (a' = 0)) (hb : decide (b = 0) = decide (b' = 0)) (hc : decide (c = 0) = decide (c' = 0)) (hd : decide (d = 0) = decide (d' = 0)) : gp k a b c d ka kb kc kd = gp k a' b' c' d' ka kb kc kd := by
  unfold gp
  split <;> simp only [ha, hb, hc, hd]
section MK2
variable {sc : tm_X} {d : Nat} {B B' : bm_H} {a ca ba da rm dr : Nat} {T : List Tm} {Q : Int32 → bm_H → Prop}
theorem tt_nil {x : Int32} {A : Tm} (h : TI B a ca ba da rm dr T) (hx : tv T x A) : decide (x = 0) = decide (bz (!tnil A) = 0) := by
  by_cases e : A = tz
  · have := (TI_0 h hx).mpr e
    subst this
    subst e
    rfl
  · have n1 : ¬ x = 0 := fun w => e ((TI_0 h hx).mp w)
    have n2 : tnil A = false := by cases hA : tnil A with
      | true => exact absurd (tnil_iff.mp hA) e
      | false => rfl
    rw [n2]
    simp [n1, bz]
theorem TI_good {t : Int32} {A : Tm} {k : Nat} (h : TI B a ca ba da rm dr T) (ht : tv T t A) : te_good B ca T.length t k = Tgood k A := by
  have g0 := TI_pt h ht (i := 0) (by decide)
  have g1 := TI_pt h ht (i := 1) (by decide)
  have g2 := TI_pt h ht (i := 2) (by decide)
  have g3 := TI_pt h ht (i := 3) (by decide)
  unfold te_good Tgood te_gn te_gp
  have e0 : te_gt2 B ca T.length t 0 2 = nu A 0 := TI_nu h ht (i := 0) (by decide)
  have e1 : te_gt2 B ca T.length t 1 2 = nu A 1 := TI_nu h ht (i := 1) (by decide)
  have e2 : te_gt2 B ca T.length t 2 2 = nu A 2 := TI_nu h ht (i := 2) (by decide)
  have e3 : te_gt2 B ca T.length t 3 2 = nu A 3 := TI_nu h ht (i := 3) (by decide)
  rw [TI_kd h ht, TI_mk h ht, e0, e1, e2, e3]
  congr 1
  have k0 := TI_kd h g0
  have k1 := TI_kd h g1
  have k2 := TI_kd h g2
  have k3 := TI_kd h g3
  change te_get B ca T.length (te_gt2 B ca T.length t 0 6) 0 = _ at k0
  change te_get B ca T.length (te_gt2 B ca T.length t 1 6) 0 = _ at k1
  change te_get B ca T.length (te_gt2 B ca T.length t 2 6) 0 = _ at k2
  change te_get B ca T.length (te_gt2 B ca T.length t 3 6) 0 = _ at k3
  rw [k0, k1, k2, k3]
  exact gp_congr (tt_nil h g0) (tt_nil h g1) (tt_nil h g2) (tt_nil h g3)
theorem t_kindOf {t : Int32} {A : Tm} (h : TI B a ca ba da rm dr T) (ht : tv T t A) (kk : Q (kd A) B) : bm_Gi sc d 17 [.ref a, .int t] B Q := k_Te_kindOf h.1 (TI_kd h ht ▸ kk)
theorem t_markOf {t : Int32} {A : Tm} (h : TI B a ca ba da rm dr T) (ht : tv T t A) (kk : Q (mk A) B) : bm_Gi sc d 69 [.ref a, .int t] B Q := k_Te_markOf h.1 (TI_mk h ht ▸ kk)
theorem t_numberOf {t : Int32} {A : Tm} {i : Nat} (h : TI B a ca ba da rm dr T) (ht : tv T t A) (hi : i < 4) (kk : Q (nu A i) B) : bm_Gi sc d 71 [.ref a, .int t, .int (nI i)] B Q := k_Te_numberOf h.1 (TI_nu h ht hi ▸ kk)
theorem t_partOf {t : Int32} {A : Tm} {i : Nat} (h : TI B a ca ba da rm dr T) (ht : tv T t A) (hi : i < 4) (kk : ∀ r, tv T r (pt A i) → Q r B) : bm_Gi sc d 23 [.ref a, .int t, .int (nI i)] B Q := k_Te_partOf h.1 (kk _ (TI_pt h ht hi))
theorem t_isGood {t : Int32} {A : Tm} {k : Nat} (hk : 1 ≤ k ∧ k ≤ 7) (h : TI B a ca ba da rm dr T) (ht : tv T t A) (kk : Q (bz (Tgood k A)) B) : bm_Gi sc (d + 2) 68 [.ref a, .int t, .int (nI k)] B Q := by
  rw [← TI_good h ht] at kk
  rcases (by omega : k = 1 ∨ k = 2 ∨ k = 3 ∨ k = 4 ∨ k = 5 ∨ k = 6 ∨ k = 7) with rfl | rfl | rfl | rfl | rfl | rfl | rfl
  · exact k_Te_isGood_1 h.1 kk
  · exact k_Te_isGood_2 h.1 kk
  · exact k_Te_isGood_3 h.1 kk
  · exact k_Te_isGood_4 h.1 kk
  · exact k_Te_isGood_5 h.1 kk
  · exact k_Te_isGood_6 h.1 kk
  · exact k_Te_isGood_7 h.1 kk
/-- a secret is drawn: it and its PUBLIC are new -/
theorem TI_secret {xd xp : Int32} {B1 B2 : bm_H} {r1 r2 sz1 sz2 : Nat} (h : TI B a ca ba da rm dr T) (hd : dr < 100000) (hm1 : te_made (bm_putI B 9 5 a (nI (dr + 1))) B1 a ca ba da rm T.length (dr + 1) (te_rw [1, nI dr, xd, xp, 0, 0, 0, 0, 0, 0]) r1 sz1) (hm2 : te_made B1 B2 a ca ba da rm sz1 (dr + 1) (te_rw [2, 0, 0, 0, 0, 0, nI r1, 0, 0, 0]) r2 sz2) : r1 = T.length ∧ TI B2 a ca ba da rm (dr + 1) (T ++ [Tsec (nI dr) xd xp, Tpub (Tsec (nI dr) xd xp)]) ∧ te_fr B B2 a ca ba da := by
  have hl := TI_len h
  have hf0 : te_fr B (bm_putI B 9 5 a (nI (dr + 1))) a ca ba da := ⟨rfl, rfl, rfl, fun c k x q => if_neg (fun w => q ⟨w.1, Or.inr w.2.1, w.2.2⟩), rfl, rfl, fun _ _ _ _ => rfl, rfl⟩
  obtain ⟨m1, m2, ⟨m3, m4⟩, m5, m6, m7, m8⟩ := hm1
  obtain ⟨w1, w2, ⟨w3, w4⟩, w5, w6, w7, w8⟩ := hm2
  obtain ⟨t1, t2, ⟨t3, t3'⟩, ⟨t4, t4'⟩, t5, t6⟩ := h
  have m6' : ∀ t k, t < T.length → k < 10 → bm_AI B1 ca (t * 11 + k) = bm_AI B ca (t * 11 + k) := m6
  have hr1 : sz1 = T.length + 1 ∧ r1 = T.length := by
    rcases m7 with e | e
    · exfalso
      rw [e] at m4
      obtain ⟨A, hA⟩ : ∃ A, T[r1]? = some A := ⟨T[r1], List.getElem?_eq_getElem m4⟩
      obtain ⟨s0, s1, s2, s3, S0, S1, S2, S3, -, -, eA⟩ := t3' r1 A m3 hA
      have g0 : bm_AI B ca (r1 * 11) = 1 := (m6' r1 0 m4 (by decide)).symm.trans (m5 0 (by decide))
      have g1 : bm_AI B ca (r1 * 11 + 1) = nI dr := (m6' r1 1 m4 (by decide)).symm.trans (m5 1 (by decide))
      have k1 : kd A = 1 := by rw [eA]; exact g0
      have k2 : mk A = nI dr := by rw [eA]; exact g1
      obtain ⟨-, m, hm, w⟩ := t4 r1 A hA k1
      rw [k2, nI_eq (by omega) (by omega)] at w
      omega
    · exact ⟨e.1, e.2⟩
  obtain ⟨e1, e2⟩ := hr1
  subst e2
  subst e1
  have hr2 : sz2 = T.length + 2 ∧ r2 = T.length + 1 := by
    rcases w7 with e | e
    · exfalso
      rw [e] at w4
      by_cases q : r2 < T.length
      · obtain ⟨A, hA⟩ : ∃ A, T[r2]? = some A := ⟨T[r2], List.getElem?_eq_getElem q⟩
        obtain ⟨s0, s1, s2, s3, S0, S1, S2, S3, ⟨⟨a0, -⟩, b0, -⟩, -, -⟩ := t3' r2 A w3 hA
        have g6 : bm_AI B2 ca (r2 * 11 + 6) = nI T.length := w5 6 (by decide)
        rw [w6 r2 6 (by omega) (by decide), m6' r2 6 q (by decide), b0, nI_eq (by omega) (by omega)] at g6
        omega
      · have e3 : r2 = T.length := by omega
        subst e3
        have g0 : bm_AI B2 ca (T.length * 11 + 0) = 2 := w5 0 (by decide)
        rw [w6 T.length 0 (by omega) (by decide), m5 0 (by decide)] at g0
        exact absurd g0 (by show ¬ (1 : Int32) = 2; decide)
    · exact ⟨by omega, e.2⟩
  obtain ⟨e3, e4⟩ := hr2
  subst e3
  subst e4
  refine ⟨rfl, ?_, te_fr_trans hf0 (te_fr_trans m8 w8)⟩
  generalize eS : Tsec (nI dr) xd xp = S
  have hSk : kd S = 1 := by rw [← eS]; rfl
  have hSm : mk S = nI dr := by rw [← eS]; rfl
  have hPk : kd (Tpub S) ≠ 1 := by show ¬ (2 : Int32) = 1; decide
  have hlen : (T ++ [S, Tpub S]).length = T.length + 2 := by simp
  have hold : ∀ {i : Nat} {A : Tm}, T[i]? = some A → (T ++ [S, Tpub S])[i]? = some A := fun {i A} hA => by rw [List.getElem?_append_left (tv_lt hA)]; exact hA
  have hS : (T ++ [S, Tpub S])[T.length]? = some S := by simp
  have hP : (T ++ [S, Tpub S])[T.length + 1]? = some (Tpub S) := by simp
  have hcase : ∀ {i : Nat} {A : Tm}, (T ++ [S, Tpub S])[i]? = some A → T[i]? = some A ∨ (i = T.length ∧ A = S) ∨ (i = T.length + 1 ∧ A = Tpub S) := fun {i A} hA => by
    by_cases hi : i < T.length
    · rw [List.getElem?_append_left hi] at hA; exact Or.inl hA
    · have := tv_lt hA
      rw [hlen] at this
      by_cases e : i = T.length
      · subst e; rw [hS] at hA; exact Or.inr (Or.inl ⟨rfl, (Option.some.inj hA).symm⟩)
      · have e : i = T.length + 1 := by omega
        subst e; rw [hP] at hA; exact Or.inr (Or.inr ⟨rfl, (Option.some.inj hA).symm⟩)
  have g : ∀ i k, i < T.length → k < 10 → bm_AI B2 ca (i * 11 + k) = bm_AI B ca (i * 11 + k) := fun i k hi hk => (w6 i k (by omega) hk).trans (m6' i k hi hk)
  have gS : ∀ k, k < 10 → bm_AI B2 ca (T.length * 11 + k) = te_rw [1, nI dr, xd, xp, 0, 0, 0, 0, 0, 0] k := fun k hk => (w6 _ k (by omega) hk).trans (m5 k hk)
  have gS0 : bm_AI B2 ca (T.length * 11) = 1 := gS 0 (by decide)
  have gP0 : bm_AI B2 ca ((T.length + 1) * 11) = 2 := w5 0 (by decide)
  refine ⟨by rw [hlen]; exact w1, by rw [hlen]; exact w2, ⟨hold t3, fun i A i0 hA => ?_⟩, ⟨fun i A hA hk => ?_, fun i j A C hij hA hC kA kC => ?_⟩, fun A hA => ?_, by omega⟩
  · rcases hcase hA with hA | ⟨rfl, rfl⟩ | ⟨rfl, rfl⟩
    · obtain ⟨s0, s1, s2, s3, S0, S1, S2, S3, ⟨g1, g2⟩, ⟨d0, d1, d2, d3⟩, g3⟩ := t3' i A i0 hA
      have hi := tv_lt hA
      have gg : bm_AI B2 ca (i * 11) = bm_AI B ca (i * 11) := g i 0 hi (by decide)
      refine ⟨s0, s1, s2, s3, S0, S1, S2, S3, ⟨g1, ?_⟩, ⟨hold d0, hold d1, hold d2, hold d3⟩, ?_⟩
      · rw [g i 6 hi (by decide), g i 7 hi (by decide), g i 8 hi (by decide), g i 9 hi (by decide)]; exact g2
      · rw [gg, g i 1 hi (by decide), g i 2 hi (by decide), g i 3 hi (by decide), g i 4 hi (by decide), g i 5 hi (by decide)]; exact g3
    · refine ⟨0, 0, 0, 0, tz, tz, tz, tz, ⟨⟨i0, i0, i0, i0⟩, gS 6 (by decide), gS 7 (by decide), gS 8 (by decide), gS 9 (by decide)⟩, ⟨hold t3, hold t3, hold t3, hold t3⟩, ?_⟩
      rw [gS0, gS 1 (by decide), gS 2 (by decide), gS 3 (by decide), gS 4 (by decide), gS 5 (by decide)]
      exact eS.symm
    · refine ⟨T.length, 0, 0, 0, S, tz, tz, tz, ⟨⟨by omega, i0, i0, i0⟩, w5 6 (by decide), w5 7 (by decide), w5 8 (by decide), w5 9 (by decide)⟩, ⟨hS, hold t3, hold t3, hold t3⟩, ?_⟩
      rw [gP0, w5 1 (by decide), w5 2 (by decide), w5 3 (by decide), w5 4 (by decide), w5 5 (by decide)]
      rfl
  · rcases hcase hA with hA | ⟨rfl, rfl⟩ | ⟨rfl, rfl⟩
    · obtain ⟨q1, m, hm, q2⟩ := t4 i A hA hk
      exact ⟨hold q1, m, by omega, q2⟩
    · exact ⟨hP, dr, by omega, hSm⟩
    · exact absurd hk hPk
  · rcases hcase hA with hA' | ⟨rfl, rfl⟩ | ⟨rfl, rfl⟩
    · rcases hcase hC with hC | ⟨rfl, rfl⟩ | ⟨rfl, rfl⟩
      · exact t4' i j A C hij hA' hC kA kC
      · obtain ⟨-, m, hm, q2⟩ := t4 i A hA' kA
        rw [q2, hSm]
        exact nI_lt hm (by omega)
      · exact absurd kC hPk
    · rcases hcase hC with hC | ⟨rfl, rfl⟩ | ⟨rfl, rfl⟩
      · have := tv_lt hC; omega
      · omega
      · exact absurd kC hPk
    · exact absurd kA hPk
  · rcases List.mem_append.mp hA with hA | hA
    · exact t5 A hA
    · simp only [List.mem_cons, List.not_mem_nil, or_false] at hA
      rcases hA with rfl | rfl
      · exact Or.inr (Or.inl ⟨_, _, _, eS.symm⟩)
      · exact Or.inr (Or.inr (Or.inl ⟨S, hSk, rfl⟩))
theorem t_secret {xd xp : Int32} (h : TI B a ca ba da rm dr T) (hrm : T.length + 1 < rm) (hd : dr < 100000) (kk : ∀ B' r, tx B B' a ca ba da rm (dr + 1) T (T ++ [Tsec (nI dr) xd xp, Tpub (Tsec (nI dr) xd xp)]) 2 → tv (T ++ [Tsec (nI dr) xd xp, Tpub (Tsec (nI dr) xd xp)]) r (Tsec (nI dr) xd xp) → Q r B') : bm_Gi sc (d + 2) 13 [.ref a, .int xd, .int xp] B Q := by
  refine k_Te_secret h.1 h.2.1 hrm (fun B1 r1 sz1 B2 r2 sz2 hm1 hm2 => ?_)
  obtain ⟨rfl, h1, h2⟩ := TI_secret h hd hm1 hm2
  exact kk _ _ ⟨List.prefix_append _ _, by simp, h1, h2⟩ ⟨_, rfl, by simp⟩
/-- a ROW with a new KIND, number or part -/
theorem t_withKind {x v : Int32} {k n0 n1 n2 n3 : Int32} {P0 P1 P2 P3 : Tm} (h : TI B a ca ba da rm dr T) (hrm : T.length < rm) (hx : tv T x (Trw k n0 n1 n2 n3 P0 P1 P2 P3)) (kk : ∀ B' T' r, tx B B' a ca ba da rm dr T T' 1 → tv T' r (Trw v n0 n1 n2 n3 P0 P1 P2 P3) → Q r B') : bm_Gi sc (d + 3) 146 [.ref a, .int x, .int v] B Q := by
  have hl := TI_len h
  obtain ⟨u, rfl, hu⟩ := hx
  have u0 : 0 < u := Nat.pos_of_ne_zero (fun e => by subst e; rw [h.2.2.1.1] at hu; cases hu)
  obtain ⟨p0, p1, p2, p3, R0, R1, R2, R3, ⟨-, b0, b1, b2, b3⟩, ⟨c0, c1, c2, c3⟩, e⟩ := h.2.2.1.2 u _ u0 hu
  obtain ⟨el, rfl, rfl, rfl, rfl⟩ := tn_inj e
  simp only [List.cons.injEq, and_true] at el
  obtain ⟨l0, l1, l2, l3, l4, l5⟩ := el
  refine k_Te_withKind h.1 h.2.1 hrm u0 (tv_lt hu) (fun B' r sz' hm => ?_)
  obtain ⟨T', h1, h2⟩ := tx_of h hm (P0 := P0) (P1 := P1) (P2 := P2) (P3 := P3) ⟨p0, b0, c0⟩ ⟨p1, b1, c1⟩ ⟨p2, b2, c2⟩ ⟨p3, b3, c3⟩ (A := Trw v n0 n1 n2 n3 P0 P1 P2 P3) (by simp only [upd, te_row, Trw]; simp [l0, l2, l3, l4, l5]) (Or.inr (Or.inr (Or.inr (Or.inr (Or.inr (Or.inr (Or.inr ⟨_, _, _, _, _, _, _, _, _, rfl⟩))))))) (by show ¬ bm_AI B ca (u * 11) = 1; rw [← l0]; decide)
  exact kk _ _ _ h1 h2
def lset4 (n0 n1 n2 n3 : Int32) (i : Nat) (v : Int32) : List Int32 := [n0, n1, n2, n3].set i v
/-- a ROW with number i changed -/
def TwN (A : Tm) (i : Nat) (v : Int32) : Tm := tn ((lb A).set (2 + i) v) (pt A 0) (pt A 1) (pt A 2) (pt A 3)
def TwP (A : Tm) (i : Nat) (C : Tm) : Tm := tn (lb A) (if i = 0 then C else pt A 0) (if i = 1 then C else pt A 1) (if i = 2 then C else pt A 2) (if i = 3 then C else pt A 3)
theorem Tsp_row {A : Tm} (h : Tsp A) (hk : kd A = 7) : ∃ k n0 n1 n2 n3 a b c d, A = Trw k n0 n1 n2 n3 a b c d := by
  rcases h with rfl | ⟨n, e, p, rfl⟩ | ⟨s, -, rfl⟩ | ⟨s, t, -, -, rfl⟩ | ⟨n, s, t, rfl⟩ | ⟨s, t, u, rfl⟩ | ⟨s, t, rfl⟩ | h
  · exact absurd hk (by decide)
  · exact absurd hk (by show ¬ (1 : Int32) = 7; decide)
  · exact absurd hk (by show ¬ (2 : Int32) = 7; decide)
  · exact absurd hk (by show ¬ (3 : Int32) = 7; decide)
  · exact absurd hk (by show ¬ (4 : Int32) = 7; decide)
  · exact absurd hk (by show ¬ (5 : Int32) = 7; decide)
  · exact absurd hk (by show ¬ (6 : Int32) = 7; decide)
  · exact h
theorem t_withNumber {x v : Int32} {i : Nat} {A : Tm} (h : TI B a ca ba da rm dr T) (hrm : T.length < rm) (hx : tv T x A) (hk : kd A = 7) (hi : i < 4) (kk : ∀ B' T' r, tx B B' a ca ba da rm dr T T' 1 → tv T' r (TwN A i v) → Q r B') : bm_Gi sc (d + 3) 148 [.ref a, .int x, .int (nI i), .int v] B Q := by
  have hl := TI_len h
  obtain ⟨k, n0, n1, n2, n3, P0, P1, P2, P3, rfl⟩ := Tsp_row (TI_sp h hx) hk
  obtain ⟨u, rfl, hu⟩ := hx
  have u0 : 0 < u := Nat.pos_of_ne_zero (fun e => by subst e; rw [h.2.2.1.1] at hu; cases hu)
  obtain ⟨p0, p1, p2, p3, R0, R1, R2, R3, ⟨-, b0, b1, b2, b3⟩, ⟨c0, c1, c2, c3⟩, e⟩ := h.2.2.1.2 u _ u0 hu
  obtain ⟨el, rfl, rfl, rfl, rfl⟩ := tn_inj e
  simp only [List.cons.injEq, and_true] at el
  obtain ⟨l0, l1, l2, l3, l4, l5⟩ := el
  have hg : ∀ q, q < i → True := fun _ _ => trivial
  refine k_Te_withNumber h.1 h.2.1 hrm u0 (tv_lt hu) hi (fun B' r sz' hm => ?_)
  rcases (by omega : i = 0 ∨ i = 1 ∨ i = 2 ∨ i = 3) with rfl | rfl | rfl | rfl
  · obtain ⟨T', h1, h2⟩ := tx_of h hm (P0 := P0) (P1 := P1) (P2 := P2) (P3 := P3) ⟨p0, b0, c0⟩ ⟨p1, b1, c1⟩ ⟨p2, b2, c2⟩ ⟨p3, b3, c3⟩ (A := Trw k v n1 n2 n3 P0 P1 P2 P3) (by simp only [upd, te_row, Trw]; simp [l0, l1, l2, l3, l4, l5]) (Or.inr (Or.inr (Or.inr (Or.inr (Or.inr (Or.inr (Or.inr ⟨_, _, _, _, _, _, _, _, _, rfl⟩))))))) (by show ¬ bm_AI B ca (u * 11) = 1; rw [← l0]; decide)
    exact kk _ _ _ h1 h2
  · obtain ⟨T', h1, h2⟩ := tx_of h hm (P0 := P0) (P1 := P1) (P2 := P2) (P3 := P3) ⟨p0, b0, c0⟩ ⟨p1, b1, c1⟩ ⟨p2, b2, c2⟩ ⟨p3, b3, c3⟩ (A := Trw k n0 v n2 n3 P0 P1 P2 P3) (by simp only [upd, te_row, Trw]; simp [l0, l1, l2, l3, l4, l5]) (Or.inr (Or.inr (Or.inr (Or.inr (Or.inr (Or.inr (Or.inr ⟨_, _, _, _, _, _, _, _, _, rfl⟩))))))) (by show ¬ bm_AI B ca (u * 11) = 1; rw [← l0]; decide)
    exact kk _ _ _ h1 h2
  · obtain ⟨T', h1, h2⟩ := tx_of h hm (P0 := P0) (P1 := P1) (P2 := P2) (P3 := P3) ⟨p0, b0, c0⟩ ⟨p1, b1, c1⟩ ⟨p2, b2, c2⟩ ⟨p3, b3, c3⟩ (A := Trw k n0 n1 v n3 P0 P1 P2 P3) (by simp only [upd, te_row, Trw]; simp [l0, l1, l2, l3, l4, l5]) (Or.inr (Or.inr (Or.inr (Or.inr (Or.inr (Or.inr (Or.inr ⟨_, _, _, _, _, _, _, _, _, rfl⟩))))))) (by show ¬ bm_AI B ca (u * 11) = 1; rw [← l0]; decide)
    exact kk _ _ _ h1 h2
  · obtain ⟨T', h1, h2⟩ := tx_of h hm (P0 := P0) (P1 := P1) (P2 := P2) (P3 := P3) ⟨p0, b0, c0⟩ ⟨p1, b1, c1⟩ ⟨p2, b2, c2⟩ ⟨p3, b3, c3⟩ (A := Trw k n0 n1 n2 v P0 P1 P2 P3) (by simp only [upd, te_row, Trw]; simp [l0, l1, l2, l3, l4, l5]) (Or.inr (Or.inr (Or.inr (Or.inr (Or.inr (Or.inr (Or.inr ⟨_, _, _, _, _, _, _, _, _, rfl⟩))))))) (by show ¬ bm_AI B ca (u * 11) = 1; rw [← l0]; decide)
    exact kk _ _ _ h1 h2
theorem t_withPart {x y : Int32} {i : Nat} {A C : Tm} (h : TI B a ca ba da rm dr T) (hrm : T.length < rm) (hx : tv T x A) (hk : kd A = 7) (hi : i < 4) (hy : tv T y C) (kk : ∀ B' T' r, tx B B' a ca ba da rm dr T T' 1 → tv T' r (TwP A i C) → Q r B') : bm_Gi sc (d + 3) 150 [.ref a, .int x, .int (nI i), .int y] B Q := by
  have hl := TI_len h
  obtain ⟨k, n0, n1, n2, n3, P0, P1, P2, P3, rfl⟩ := Tsp_row (TI_sp h hx) hk
  obtain ⟨u, rfl, hu⟩ := hx
  have u0 : 0 < u := Nat.pos_of_ne_zero (fun e => by subst e; rw [h.2.2.1.1] at hu; cases hu)
  obtain ⟨p0, p1, p2, p3, R0, R1, R2, R3, ⟨-, b0, b1, b2, b3⟩, ⟨c0, c1, c2, c3⟩, e⟩ := h.2.2.1.2 u _ u0 hu
  obtain ⟨el, rfl, rfl, rfl, rfl⟩ := tn_inj e
  simp only [List.cons.injEq, and_true] at el
  obtain ⟨l0, l1, l2, l3, l4, l5⟩ := el
  refine k_Te_withPart h.1 h.2.1 hrm u0 (tv_lt hu) hi (fun B' r sz' hm => ?_)
  rcases (by omega : i = 0 ∨ i = 1 ∨ i = 2 ∨ i = 3) with rfl | rfl | rfl | rfl
  · obtain ⟨T', h1, h2⟩ := tx_of h hm (P0 := C) (P1 := P1) (P2 := P2) (P3 := P3) hy ⟨p1, b1, c1⟩ ⟨p2, b2, c2⟩ ⟨p3, b3, c3⟩ (A := Trw k n0 n1 n2 n3 C P1 P2 P3) (by simp only [upd, te_row, Trw]; simp [l0, l1, l2, l3, l4, l5]) (Or.inr (Or.inr (Or.inr (Or.inr (Or.inr (Or.inr (Or.inr ⟨_, _, _, _, _, _, _, _, _, rfl⟩))))))) (by show ¬ bm_AI B ca (u * 11) = 1; rw [← l0]; decide)
    exact kk _ _ _ h1 h2
  · obtain ⟨T', h1, h2⟩ := tx_of h hm (P0 := P0) (P1 := C) (P2 := P2) (P3 := P3) ⟨p0, b0, c0⟩ hy ⟨p2, b2, c2⟩ ⟨p3, b3, c3⟩ (A := Trw k n0 n1 n2 n3 P0 C P2 P3) (by simp only [upd, te_row, Trw]; simp [l0, l1, l2, l3, l4, l5]) (Or.inr (Or.inr (Or.inr (Or.inr (Or.inr (Or.inr (Or.inr ⟨_, _, _, _, _, _, _, _, _, rfl⟩))))))) (by show ¬ bm_AI B ca (u * 11) = 1; rw [← l0]; decide)
    exact kk _ _ _ h1 h2
  · obtain ⟨T', h1, h2⟩ := tx_of h hm (P0 := P0) (P1 := P1) (P2 := C) (P3 := P3) ⟨p0, b0, c0⟩ ⟨p1, b1, c1⟩ hy ⟨p3, b3, c3⟩ (A := Trw k n0 n1 n2 n3 P0 P1 C P3) (by simp only [upd, te_row, Trw]; simp [l0, l1, l2, l3, l4, l5]) (Or.inr (Or.inr (Or.inr (Or.inr (Or.inr (Or.inr (Or.inr ⟨_, _, _, _, _, _, _, _, _, rfl⟩))))))) (by show ¬ bm_AI B ca (u * 11) = 1; rw [← l0]; decide)
    exact kk _ _ _ h1 h2
  · obtain ⟨T', h1, h2⟩ := tx_of h hm (P0 := P0) (P1 := P1) (P2 := P2) (P3 := C) ⟨p0, b0, c0⟩ ⟨p1, b1, c1⟩ ⟨p2, b2, c2⟩ hy (A := Trw k n0 n1 n2 n3 P0 P1 P2 C) (by simp only [upd, te_row, Trw]; simp [l0, l1, l2, l3, l4, l5]) (Or.inr (Or.inr (Or.inr (Or.inr (Or.inr (Or.inr (Or.inr ⟨_, _, _, _, _, _, _, _, _, rfl⟩))))))) (by show ¬ bm_AI B ca (u * 11) = 1; rw [← l0]; decide)
    exact kk _ _ _ h1 h2
/-- room for 256 more terms -/
theorem t_hasRoom (h : TI B a ca ba da rm dr T) (h1 : 1024 ≤ rm) (hT : T.length ≤ 30000) (kk : ∀ B' ca' rm', TI B' a ca' ba da rm' dr T → T.length + 256 ≤ rm' → 1024 ≤ rm' → fr (fun x => x = a) B B' → (ca' = ca ∨ bm_n B ≤ ca') → bm_FI B' 9 4 a = bm_FI B 9 4 a → (bm_sl B' + 22 * (65536 - rm') ≤ bm_sl B + 22 * (65536 - rm) ∧ bm_n B' + (65536 - rm') ≤ bm_n B + (65536 - rm)) → Q 1 B') : bm_Gi sc (d + 2) 34 [.ref a] B Q := by
  have hl := TI_len h
  refine k_Te_hasRoom h.1 (fun w => kk B ca rm h w h1 (fr_rfl _ _) (Or.inl rfl) rfl ⟨Nat.le_refl _, Nat.le_refl _⟩) (fun w1 w2 => ?_) (fun w1 w2 => by omega)
  obtain ⟨⟨⟨a1, a2⟩, ⟨a3, a4, a5⟩, ⟨⟨b1, b2, b3⟩, ⟨b4, b5, b6⟩, b7, b8, b9⟩, ⟨e1, e2, e3⟩, ⟨e4, e5, e6⟩, e7, e8, e9⟩, t2, t3, t4, t5, t6⟩ := h
  have hnew : ∀ x, x < bm_n B → x ≠ bm_n B := fun x hx => Nat.ne_of_lt hx
  have hAI : ∀ x, x < bm_n B → bm_AI (te_grow B a ca rm) x = bm_AI B x := fun x hx => by
    funext q
    show (if x = bm_n B then _ else (if x = bm_n B then _ else bm_AI B x q)) = _
    rw [if_neg (hnew x hx), if_neg (hnew x hx)]
  have hK : ∀ x, x < bm_n B → bm_K (te_grow B a ca rm) x = bm_K B x := fun x hx => va_up_ne _ _ (hnew x hx)
  have hAL : ∀ x, x < bm_n B → bm_AL (te_grow B a ca rm) x = bm_AL B x := fun x hx => va_up_ne _ _ (hnew x hx)
  have hnc : ∀ q, q < rm * 11 → bm_AI (te_grow B a ca rm) (bm_n B) q = bm_AI B ca q := fun q hq => by
    show (if bm_n B = bm_n B then (if q < rm * 11 then bm_AI B ca q else 0) else _) = _
    rw [if_pos rfl, if_pos hq]
  have hFR : ∀ c k x, ¬ (c = 9 ∧ k = 0 ∧ x = a) → bm_FR (te_grow B a ca rm) c k x = bm_FR B c k x := fun c k x q => if_neg q
  have hrow : ∀ i k, i < T.length → k < 11 → bm_AI (te_grow B a ca rm) (bm_n B) (i * 11 + k) = bm_AI B ca (i * 11 + k) := fun i k hi hk => hnc _ (by omega)
  refine kk _ (bm_n B) (rm * 2) ⟨⟨⟨Nat.lt_succ_of_lt a1, (hK a a1).trans a2⟩, ⟨if_pos ⟨rfl, rfl, rfl⟩, (hFR 9 1 a (by simp)).trans a4, (hFR 9 2 a (by simp)).trans a5⟩, ⟨⟨Nat.lt_succ_self _, va_up_self _ _ _, va_up_self _ _ _⟩, ⟨Nat.lt_succ_of_lt b4, (hK ba b4).trans b5, (hAL ba b4).trans b6⟩, Nat.lt_succ_of_lt b7, (hK da b7).trans b8, (hAL da b7).trans b9⟩, ⟨if_pos ⟨rfl, rfl, rfl⟩, e2, e3⟩, ⟨e4, by omega, by omega⟩, (hnew ba b4).symm, (hnew da b7).symm, e9⟩, ?_, ⟨t3.1, fun i A i0 hA => ?_⟩, t4, t5, t6⟩ (by omega) (by omega) ⟨Nat.le_succ _, fun x hx => ⟨hK x hx, hAL x hx, fun c k q => hFR c k x (fun w => by rw [w.1, w.2.1] at q; exact absurd q (by decide)), fun q => ⟨fun c k => if_neg (fun w => q w.2.2), fun c k => hFR c k x (fun w => q w.2.2), hAI x hx, ?_⟩⟩⟩ (Or.inr (Nat.le_refl _)) rfl ⟨?_, ?_⟩
  · rw [hAI ba b4]
    have hl2 : ∀ s n, n ≤ T.length → te_last (bm_AI (te_grow B a ca rm) (bm_n B)) s n = te_last (bm_AI B ca) s n := fun s n hn => te_last_congr (fun t ht k hk => hrow t k (by omega) (by omega))
    refine ⟨fun s hs => by rw [hl2 s _ (Nat.le_refl _)]; exact t2.1 s hs, fun t t0 t1 => ?_, fun t u t0 t1 u0 u1 heq => t2.2.2 t u t0 t1 u0 u1 (fun k hk => ?_)⟩
    · rw [hrow t 10 t1 (by decide), te_sn_congr (f := te_row (bm_AI (te_grow B a ca rm) (bm_n B)) t) (g := te_row (bm_AI B ca) t) (fun k hk => hrow t k t1 (by omega)), hl2 _ t (by omega)]
      exact t2.2.1 t t0 t1
    · have := heq k hk
      unfold te_row at this ⊢
      rwa [hrow t k t1 (by omega), hrow u k u1 (by omega)] at this
  · have hi := tv_lt hA
    have g0 : bm_AI (te_grow B a ca rm) (bm_n B) (i * 11) = bm_AI B ca (i * 11) := hrow i 0 hi (by decide)
    rw [g0, hrow i 1 hi (by decide), hrow i 2 hi (by decide), hrow i 3 hi (by decide), hrow i 4 hi (by decide), hrow i 5 hi (by decide), hrow i 6 hi (by decide), hrow i 7 hi (by decide), hrow i 8 hi (by decide), hrow i 9 hi (by decide)]
    exact t3.2 i A i0 hA
  · funext i
    show (if x = bm_n B then _ else bm_AR B x i) = _
    rw [if_neg (hnew x hx)]
  · show bm_sl B + rm * 2 * 11 + _ ≤ _
    omega
  · show bm_n B + 1 + _ ≤ _
    omega
end MK2
