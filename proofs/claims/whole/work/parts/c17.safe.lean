/-! Letters that ought to be safe: the two ways of saying it -/
theorem and0 {ma x : Int32} (h : ∀ i, 6 ≤ i → i < 32 → bt ma i = false) : ma &&& x = 0 ↔ ∀ p, p < 6 → hbit ma (nI p) = true → hbit x (nI p) = false := by
  constructor
  · intro e p hp hm
    rw [hbit_bt _ (by omega)] at hm ⊢
    have z : bt (ma &&& x) p = bt 0 p := by rw [e]
    rw [b_and, b_0, hm, Bool.true_and] at z
    exact z
  · intro q
    apply b_ext
    intro i hi
    rw [b_and, b_0]
    by_cases c : i < 6
    · cases hm : bt ma i
      · rfl
      · have := q i c (by rw [hbit_bt _ (by omega)]; exact hm)
        rw [hbit_bt _ (by omega)] at this
        rw [this]; rfl
    · rw [h i (by omega) hi]; rfl
theorem hbit_not (x : Int32) {p : Nat} (hp : p < 6) : hbit (x ^^^ (-1)) (nI p) = !hbit x (nI p) := by
  rw [hbit_bt _ (by omega), hbit_bt _ (by omega), b_xor, b_m1 p (by omega), Bool.xor_true]
theorem andn {ma x : Int32} (h : ∀ i, 6 ≤ i → i < 32 → bt ma i = false) : ma &&& (x ^^^ (-1)) = 0 ↔ ∀ p, p < 6 → hbit ma (nI p) = true → hbit x (nI p) = true := by
  rw [and0 h]
  constructor
  · intro q p hp hm
    have := q p hp hm
    rw [hbit_not x hp] at this
    simpa using this
  · intro q p hp hm
    rw [hbit_not x hp, q p hp hm]
    rfl
theorem bit1 {m i : Int32} : m >>> (i &&& 31) &&& 1 = 1 ↔ hbit m i = true := by
  constructor
  · exact hbit_1
  · intro h
    rcases and1 (m >>> (i &&& 31)) with z | z
    · rw [hbit_f z] at h; cases h
    · exact z
theorem bit0 {m i : Int32} : m >>> (i &&& 31) &&& 1 = 0 ↔ hbit m i = false := by
  constructor
  · exact hbit_f
  · intro h
    rcases and1 (m >>> (i &&& 31)) with z | z
    · exact z
    · rw [hbit_1 z] at h; cases h
theorem le_N (x : Int32) : ¬ (2147483647 : Int32) < x := fun q => by
  have h1 := Int32.lt_iff_toInt_lt.mp q
  have h2 := Int32.toInt_lt x
  exact absurd h1 (by show ¬ ((2147483647 : Int) < x.toInt); omega)
theorem lt_N {x : Int32} (h : x ≠ 2147483647) : x < 2147483647 := by
  have h2 := Int32.toInt_lt x
  refine Int32.lt_iff_toInt_lt.mpr ?_
  show x.toInt < 2147483647
  have : x.toInt ≠ 2147483647 := fun e => h (Int32.toInt_inj.mp (by rw [e]; rfl))
  omega
theorem fmin_lt {ma : Int32} {fl : Nat → Int32} {t : Int32} : ∀ n, n ≤ 6 → (t < fmin ma fl n ↔ t < 2147483647 ∧ ∀ p, p < n → hbit ma (nI p) = true → t < fl p)
  | 0, _ => ⟨fun h => ⟨h, fun p hp => by omega⟩, fun h => h.1⟩
  | n + 1, hn => by
    have ih := fmin_lt (ma := ma) (fl := fl) (t := t) n (by omega)
    unfold fmin
    by_cases c : ma >>> (nI n &&& 31) &&& 1 = 1 ∧ fl n < fmin ma fl n
    · rw [if_pos c]
      constructor
      · intro h
        have h2 := ih.mp (Int32.lt_trans h c.2)
        refine ⟨h2.1, fun p hp hm => ?_⟩
        by_cases z : p = n
        · rw [z]; exact h
        · exact h2.2 p (by omega) hm
      · intro h
        exact h.2 n (by omega) (bit1.mp c.1)
    · rw [if_neg c]
      constructor
      · intro h
        have h2 := ih.mp h
        refine ⟨h2.1, fun p hp hm => ?_⟩
        by_cases z : p = n
        · subst z
          have : ¬ fl p < fmin ma fl p := fun q => c ⟨bit1.mpr hm, q⟩
          have h3 := Int32.lt_iff_toInt_lt.mp h
          have h4 : ¬ (fl p).toInt < (fmin ma fl p).toInt := fun q => this (Int32.lt_iff_toInt_lt.mpr q)
          exact Int32.lt_iff_toInt_lt.mpr (by omega)
        · exact h2.2 p (by omega) hm
      · intro h
        exact ih.mpr ⟨h.1, fun p hp hm => h.2 p (by omega) hm⟩
theorem fmin_N {ma : Int32} {fl : Nat → Int32} : ∀ n, n ≤ 6 → (fmin ma fl n = 2147483647 ↔ ∀ p, p < n → hbit ma (nI p) = true → fl p = 2147483647)
  | 0, _ => ⟨fun _ p hp => by omega, fun _ => rfl⟩
  | n + 1, hn => by
    have ih := fmin_N (ma := ma) (fl := fl) n (by omega)
    unfold fmin
    by_cases c : ma >>> (nI n &&& 31) &&& 1 = 1 ∧ fl n < fmin ma fl n
    · rw [if_pos c]
      constructor
      · intro h
        rw [h] at c
        exact absurd c.2 (le_N _)
      · intro h
        exact h n (by omega) (bit1.mp c.1)
    · rw [if_neg c]
      constructor
      · intro h p hp hm
        by_cases z : p = n
        · subst z
          apply Classical.byContradiction
          intro q
          exact c ⟨bit1.mpr hm, by rw [h]; exact lt_N q⟩
        · exact ih.mp h p (by omega) hm
      · intro h
        exact ih.mpr (fun p hp hm => h p (by omega) hm)
theorem fall_t {fm ma gi x : Int32} {tk : Nat → Int32} {b0 : Bool} : ∀ n, n ≤ 6 → (fall fm ma gi x tk b0 n = true ↔ b0 = true ∧ ∀ p, p < n → nI p ≠ fm → hbit ma (nI p) = true → tk p < x ∧ hbit gi (nI p) = true)
  | 0, _ => ⟨fun h => ⟨h, fun p hp => by omega⟩, fun h => h.1⟩
  | n + 1, hn => by
    have ih := fall_t (fm := fm) (ma := ma) (gi := gi) (x := x) (tk := tk) (b0 := b0) n (by omega)
    unfold fall
    by_cases c : nI n = fm ∨ ma >>> (nI n &&& 31) &&& 1 = 0
    · rw [if_pos c, ih]
      refine ⟨fun h => ⟨h.1, fun p hp h1 h2 => ?_⟩, fun h => ⟨h.1, fun p hp h1 h2 => h.2 p (by omega) h1 h2⟩⟩
      by_cases z : p = n
      · subst z
        rcases c with c | c
        · exact absurd c h1
        · rw [bit0.mp c] at h2; cases h2
      · exact h.2 p (by omega) h1 h2
    · rw [if_neg c, Bool.and_eq_true, ih, Bool.and_eq_true, decide_eq_true_eq, decide_eq_true_eq]
      refine ⟨fun h => ⟨h.1.1, fun p hp h1 h2 => ?_⟩, fun h => ⟨⟨h.1, fun p hp h1 h2 => h.2 p (by omega) h1 h2⟩, ?_⟩⟩
      · by_cases z : p = n
        · subst z; exact ⟨h.2.1, bit1.mp h.2.2⟩
        · exact h.1.2 p (by omega) h1 h2
      · have h1 : nI n ≠ fm := fun q => c (Or.inl q)
        have h2 : hbit ma (nI n) = true := by
          cases z : hbit ma (nI n)
          · exact absurd (Or.inr (bit0.mpr z)) c
          · rfl
        obtain ⟨a, b⟩ := h.2 n (by omega) h1 h2
        exact ⟨a, bit1.mpr b⟩
/-- how the class marks what was taken in time -/
def SF (fl dt : Nat → Int32) (e : LT) (r : RL) : Prop := (r.2.2.1 < 16 → r.2.2.2.1 = true → ∀ s d, s < 6 → d < 6 → r.2.1 = nI s → r.2.2.1 = nI d → (hbit e.2.2.2.2.2.2.2.2.2 (nI d) = true ↔ (r.2.2.2.2.2.2.2.2 d ≠ 2147483647 ∧ r.2.2.2.2.2.2.2.2 d < fl s ∧ r.2.2.2.2.2.2.2.2 d < fl d))) ∧ (¬ r.2.2.1 < 16 → (∀ q, q < 6 → r.2.2.2.2.2.2.2.2 q = 2147483647 → hbit r.2.2.2.2.2.2.2.1 (nI q) = false) ∧ ((∀ i, 6 ≤ i → i < 32 → bt r.2.2.2.2.2.2.1 i = false) ∧ ∀ s, s < 6 → r.2.1 = nI s → hbit r.2.2.2.2.2.2.1 (nI s) = true) ∧ ∀ s, s < 6 → r.2.1 = nI s → (hbit e.2.2.2.2.2.2.2.2.2 (nI s) = true ↔ ∀ p, p < 6 → hbit r.2.2.2.2.2.2.1 (nI p) = true → dt (nx r.1) < fl p) ∧ ∀ q, q < 6 → q ≠ s → hbit r.2.2.2.2.2.2.1 (nI q) = true → (hbit e.2.2.2.2.2.2.2.2.2 (nI q) = true ↔ (r.2.2.2.2.2.2.2.2 q ≠ 2147483647 ∧ hbit r.2.2.2.2.2.2.2.1 (nI q) = true ∧ ∀ p, p < 6 → hbit r.2.2.2.2.2.2.1 (nI p) = true → r.2.2.2.2.2.2.2.2 q < fl p)))
theorem bool_iff {a b : Bool} (h : a = true ↔ b = true) : a = b := by
  cases a <;> cases b
  · rfl
  · exact absurd (h.mpr rfl) (by decide)
  · exact absurd (h.mp rfl) (by decide)
  · rfl
section LGX
variable {b : Nat} {DL : List (Int32 × Int32)} {ls : List RL} {lo : Nat → Int32} {Lc : List LT} {bd llc tc tlc tfc tgc : Nat → Int32} {cf cg : Int32} {ct : Tm} {co : Bool} {li foc dbc : Int32} {dt db rt fl ll tl tf tg tm : Nat → Int32} {ck fo du : Int32}
theorem heal_eq (h : LGX b b DL ls lo (Lc, bd, llc, tc, tlc, tfc, tgc, cf, cg, ct, co, li, foc, dbc) (dt, db, rt, fl, ll, tl, tf, tg, tm, ck, fo, du)) (hdl : DL.length ≤ 2960) {s d : Nat} {mi th se : Tm} {gr ma on tk sf : Int32} (hs : s < 6) (hd : d < 6) (h1 : SD DL mi) (h2 : SD DL th) : lt_fresh (se, nI s, nI d, gr, ma, on, mi, th, tk, sf) llc = rl_heal dt db rt ll s d mi th := by
  obtain ⟨m1, d1, p1, e1, rfl⟩ := h1
  obtain ⟨m2, d2, p2, e2, rfl⟩ := h2
  have l1 := (List.getElem?_eq_some_iff.mp e1).1
  have l2 := (List.getElem?_eq_some_iff.mp e2).1
  obtain ⟨-, -, -, a1⟩ := h.2.2.2.1 m1 d1 p1 e1
  obtain ⟨-, b1, b2, b3⟩ := h.2.2.2.1 m2 d2 p2 e2
  have x1 : nx (Tsec (nI m1) d1 p1) = m1 := nI_clamp (by omega)
  have x2 : nx (Tsec (nI m2) d2 p2) = m2 := nI_clamp (by omega)
  have q : (lt_fresh (se, nI s, nI d, gr, ma, on, Tsec (nI m1) d1 p1, Tsec (nI m2) d2 p2, tk, sf) llc = true) ↔ (rl_heal dt db rt ll s d (Tsec (nI m1) d1 p1) (Tsec (nI m2) d2 p2) = true) := by
    have u : lt_fresh (se, nI s, nI d, gr, ma, on, Tsec (nI m1) d1 p1, Tsec (nI m2) d2 p2, tk, sf) llc = (decide ((1 : Int32) = 1) && (decide (d2 = nI d) && ((decide (p2 = 1) || decide (p2 = 2)) && (decide (llc (nI d).toNatClampNeg ≤ nI m2) && decide (llc (nI s).toNatClampNeg ≤ nI m1))))) := rfl
    rw [u]
    unfold rl_heal
    rw [x1, x2, nI_clamp (by omega), nI_clamp (by omega), b1]
    simp only [Bool.and_eq_true, Bool.or_eq_true, decide_eq_true_eq]
    constructor
    · rintro ⟨-, rfl, c2, c3, c4⟩
      exact ⟨(a1 s hs).mp c4, b2 c2, by rw [decide_eq_true c2]; decide, (b3 d hd).mp c3⟩
    · rintro ⟨c1, c2, c3, c4⟩
      have c5 : p2 = 1 ∨ p2 = 2 := by
        apply Classical.byContradiction
        intro z
        rw [decide_eq_false z] at c3
        exact c3 rfl
      exact ⟨trivial, (b2 c5).symm.trans c2, c5, (b3 d hd).mpr c4, (a1 s hs).mpr c1⟩
  exact bool_iff q
theorem safe_eq (h : LGX b b DL ls lo (Lc, bd, llc, tc, tlc, tfc, tgc, cf, cg, ct, co, li, foc, dbc) (dt, db, rt, fl, ll, tl, tf, tg, tm, ck, fo, du)) (hdl : DL.length ≤ 2960) (hb : b ≤ 100) {e : LT} {r : RL} (hE : LE DL b e r) (hF : SF fl dt e r) : lt_safe e llc li = rl_safe dt db rt fl ll r := by
  obtain ⟨se, fm, to, gr, ma, on, mi, th, tk, sf⟩ := e
  obtain ⟨se', fm', to', on', mi', th', ma', gi, tks⟩ := r
  obtain ⟨⟨e1, e2, s, hs, e3, m, e4, e5⟩, hk, ht⟩ := hE
  obtain ⟨hF1, hF2⟩ := hF
  have h5 := h.2.2.1.1
  rcases hk with ⟨g1, ⟨d, hd, g2⟩, g3, g4, g5, g6, g7, g8, g9⟩ | ⟨g, hg, g1, g2, g3⟩
  · subst e3 g2 g3 g5 g6 e2 g4
    have h16 : nI d < 16 := Int32.lt_iff_toInt_lt.mpr (by rw [nI_toInt (by omega)]; show (d : Int) < 16; omega)
    have u1 : lt_safe (se, nI s, nI d, gr, ma, bz on', mi', th', tk, sf) llc li = ((decide (bz on' = 1) && hbit sf (nI d)) || lt_fresh (se, nI s, nI d, gr, ma, bz on', mi', th', tk, sf) llc) := if_pos g1
    have u2 : rl_safe dt db rt fl ll (se', nI s, nI d, on', mi', th', ma', gi, tks) = ((on' && (decide (tks (nI d).toNatClampNeg ≠ 2147483647) && (decide (tks (nI d).toNatClampNeg < fl (nI s).toNatClampNeg) && decide (tks (nI d).toNatClampNeg < fl (nI d).toNatClampNeg)))) || rl_heal dt db rt ll (nI s).toNatClampNeg (nI d).toNatClampNeg mi' th') := if_pos h16
    rw [u1, u2, nI_clamp (by omega), nI_clamp (by omega), heal_eq h hdl hs hd g7 g8]
    congr 1
    cases on'
    · rfl
    · have q := hF1 h16 rfl s d hs hd rfl rfl
      rw [show decide (bz true = 1) = true from rfl, Bool.true_and, Bool.true_and]
      refine bool_iff ?_
      rw [Bool.and_eq_true, Bool.and_eq_true, decide_eq_true_eq, decide_eq_true_eq, decide_eq_true_eq]
      exact q
  · have h16 : ¬ to' < 16 := fun q => by
      rw [g2] at q
      have := Int32.lt_iff_toInt_lt.mp q
      rw [nI_toInt (by omega)] at this
      exact absurd this (by show ¬ (((16 + g : Nat) : Int) < 16); omega)
    obtain ⟨f0, ⟨f1, f2⟩, f3⟩ := hF2 h16
    obtain ⟨f4, f5⟩ := f3 s hs (e2.trans e3)
    have f2 := f2 s hs (e2.trans e3)
    have u1 : lt_safe (se, fm, to, gr, ma, on, mi, th, tk, sf) llc li = (decide (ma &&& li = 0) || decide (ma &&& (sf ^^^ (-1)) = 0)) := if_neg (by rw [g1]; exact nI_nm1 (by omega))
    have u2 : rl_safe dt db rt fl ll (se', fm', to', on', mi', th', ma', gi, tks) = (if fmin ma' fl 6 = 2147483647 then true else fall fm' ma' gi (fmin ma' fl 6) tks (decide (dt (nx se') < fmin ma' fl 6)) 6) := if_neg h16
    have g3 : ma' = ma := g3
    subst g3
    rw [u1, u2]
    have k1 : ma' &&& li = 0 ↔ ∀ p, p < 6 → hbit ma' (nI p) = true → fl p = 2147483647 := by
      rw [and0 f1]
      refine ⟨fun q p hp hm => ?_, fun q p hp hm => ?_⟩
      · have := q p hp hm
        rw [(h5 p hp).1] at this
        exact Classical.byContradiction (fun z => by rw [decide_eq_true z] at this; cases this)
      · rw [(h5 p hp).1, decide_eq_false (fun z => z (q p hp hm))]
    by_cases c : fmin ma' fl 6 = 2147483647
    · rw [if_pos c, decide_eq_true (k1.mpr ((fmin_N 6 (Nat.le_refl _)).mp c)), Bool.true_or]
    · rw [if_neg c, decide_eq_false (fun q => c ((fmin_N 6 (Nat.le_refl _)).mpr (k1.mp q))), Bool.false_or]
      refine bool_iff ?_
      rw [decide_eq_true_eq, andn f1, fall_t 6 (Nat.le_refl _), decide_eq_true_eq, fmin_lt 6 (Nat.le_refl _)]
      have e2' : fm' = nI s := e2.trans e3
      obtain ⟨⟨t, a1, a2⟩, -⟩ := h.2.2.2.1 m _ _ e4
      have hml := (List.getElem?_eq_some_iff.mp e4).1
      have hnx : nx se' = m := by
        have : se' = Tsec (nI m) (nI s) 0 := e1.trans e5
        rw [this]; exact nI_clamp (by omega)
      constructor
      · intro q
        refine ⟨⟨by rw [hnx, a2]; exact lt_N (nI_nN (by omega)), f4.mp (q s hs f2)⟩, fun p hp hne hm => ?_⟩
        obtain ⟨z1, z2, z3⟩ := (f5 p hp (fun w => hne (by rw [w]; exact e2'.symm)) hm).mp (q p hp hm)
        exact ⟨(fmin_lt 6 (Nat.le_refl _)).mpr ⟨lt_N z1, z3⟩, z2⟩
      · rintro ⟨⟨-, q1⟩, q2⟩ p hp hm
        by_cases z : p = s
        · rw [z]; exact f4.mpr q1
        · obtain ⟨w1, w2⟩ := q2 p hp (fun w => z (nI_cxl (by omega) (by omega) (w.trans e2'))) hm
          have w3 := (fmin_lt 6 (Nat.le_refl _)).mp w1
          exact (f5 p hp z hm).mpr ⟨fun y => by have := w3.1; rw [show tks p = 2147483647 from y] at this; exact le_N _ this, w2, w3.2⟩
theorem count_eq {K : Tm → Prop} : ∀ (Lc : List LT) (ls : List RL), Lc.length = ls.length → (∀ (i : Nat) (e : LT) (r : RL), Lc[i]? = some e → ls[i]? = some r → e.1 = r.1 ∧ lt_safe e llc li = rl_safe dt db rt fl ll r) → lk_count K llc li Lc = rl_count K dt db rt fl ll ls
  | [], [], _, _ => rfl
  | [], _ :: _, h, _ => by simp at h
  | _ :: _, [], h, _ => by simp at h
  | e :: Lc, r :: ls, h, hh => by
    obtain ⟨h1, h2⟩ := hh 0 e r rfl rfl
    rw [lk_cons, rl_cons, h1, h2, count_eq Lc ls (by simpa using h) (fun i e' r' he hr => hh (i + 1) e' r' he hr)]
end LGX
