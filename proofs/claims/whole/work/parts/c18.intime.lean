/-! What was taken in time: kept -/
theorem SF_dt {fl dt dt' : Nat → Int32} {e : LT} {r : RL} (h : SF fl dt e r) (hd : dt' (nx r.1) = dt (nx r.1)) : SF fl dt' e r := by
  unfold SF at h ⊢
  rw [hd]
  exact h
theorem SF_sent {fl dt : Nat → Int32} {X mi th : Tm} {s p : Nat} {on : Bool} {S : SS} (hp : p < 6) : SF fl dt (lt_sent X (nI s) (nI p) S) (X, nI s, nI p, on, mi, th, 0, 0, fun _ => 2147483647) := by
  refine ⟨fun _ _ s' d _ hd _ _ => ⟨fun q => ?_, fun q => absurd rfl q.1⟩, fun q => absurd (Int32.lt_iff_toInt_lt.mpr (by rw [nI_toInt (by omega)]; show (p : Int) < 16; omega)) q⟩
  have q : hbit 0 (nI d) = true := q
  rw [hbit_z (by omega)] at q
  cases q
theorem SF_post {b : Nat} {fl dt : Nat → Int32} {m s g : Nat} {ma li : Int32} (hb : b ≤ 100) (hm3 : m ≤ 2960) (hg : g < 4) (hs : s < 6) (h1 : ∀ i, 6 ≤ i → i < 32 → bt ma i = false) (h2 : hbit ma (nI s) = true) (h5 : ∀ p, p < 6 → hbit li (nI p) = decide (fl p ≠ 2147483647) ∧ (fl p = 2147483647 ∨ ∃ t, t ≤ b ∧ fl p = nI t)) (hd : dt m = nI (b + 1)) : SF fl dt (lt_post (Tsec (nI m) (nI s) 0) (nI s) (nI g) ma li) (Tsec (nI m) (nI s) 0, nI s, nI (16 + g), false, tz, tz, ma, 0, fun _ => 2147483647) := by
  have k1 : ma &&& li = 0 ↔ ∀ p, p < 6 → hbit ma (nI p) = true → fl p = 2147483647 := by
    rw [and0 h1]
    refine ⟨fun q p hp hm => ?_, fun q p hp hm => ?_⟩
    · have := q p hp hm
      rw [(h5 p hp).1] at this
      exact Classical.byContradiction (fun z => by rw [decide_eq_true z] at this; cases this)
    · rw [(h5 p hp).1, decide_eq_false (fun z => z (q p hp hm))]
  refine ⟨fun q => absurd q (fun q => by
    have := Int32.lt_iff_toInt_lt.mp q
    rw [nI_toInt (by omega)] at this
    exact absurd this (by show ¬ (((16 + g : Nat) : Int) < 16); omega)), fun _ => ⟨fun q hq _ => hbit_z (by omega), ⟨h1, fun s' hs' e => ?_⟩, fun s' hs' e => ⟨?_, fun q hq hne hm => ⟨fun z => ?_, fun z => absurd rfl z.1⟩⟩⟩⟩
  · have e : nI s = nI s' := e
    rw [← e]; exact h2
  · have e : s = s' := nI_cxl (by omega) (by omega) (show nI s = nI s' from e)
    subst e
    show hbit (if ma &&& li = 0 then 1 <<< (nI s &&& 31) else 0) (nI s) = true ↔ ∀ p, p < 6 → hbit ma (nI p) = true → dt (nx (Tsec (nI m) (nI s) 0)) < fl p
    rw [show nx (Tsec (nI m) (nI s) 0) = m from nI_clamp (by omega), hd]
    by_cases c : ma &&& li = 0
    · rw [if_pos c, hbit_one (by omega) (by omega), decide_eq_true rfl]
      refine ⟨fun _ p hp hm => ?_, fun _ => rfl⟩
      rw [k1.mp c p hp hm]
      exact lt_N (nI_nN (by omega))
    · rw [if_neg c, hbit_z (by omega)]
      refine ⟨fun q => (by cases q), fun q => absurd (k1.mpr (fun p hp hm => ?_)) c⟩
      rcases (h5 p hp).2 with z | ⟨t, z1, z2⟩
      · exact z
      · have := Int32.lt_iff_toInt_lt.mp (q p hp hm)
        rw [z2, nI_toInt (by omega), nI_toInt (by omega)] at this
        omega
  · have e : s = s' := nI_cxl (by omega) (by omega) (show nI s = nI s' from e)
    subst e
    have z : hbit (if ma &&& li = 0 then 1 <<< (nI s &&& 31) else 0) (nI q) = true := z
    split at z
    · rw [hbit_one (by omega) (by omega), decide_eq_false hne] at z; cases z
    · rw [hbit_z (by omega)] at z; cases z
theorem fl_look {b p0 : Nat} {fl : Nat → Int32} {k : Nat} (hk : k ≤ b) (hb : b ≤ 100) : ∀ p, nI k < fl p ↔ nI k < (if fl p0 = 2147483647 then upd fl p0 (nI (b + 1)) else fl) p := fun p => by
  by_cases c : fl p0 = 2147483647
  · rw [if_pos c]
    by_cases z : p = p0
    · subst z
      rw [upd_same, c]
      exact ⟨fun _ => Int32.lt_iff_toInt_lt.mpr (by rw [nI_toInt (by omega), nI_toInt (by omega)]; omega), fun _ => lt_N (nI_nN (by omega))⟩
    · rw [upd_ne z]
  · rw [if_neg c]
theorem SF_look {b p0 : Nat} {DL : List (Int32 × Int32)} {fl dt : Nat → Int32} {e : LT} {r : RL} (hb : b ≤ 100) (hE : LE DL b e r) (hdt : ∃ k, k ≤ b ∧ dt (nx r.1) = nI k) (h : SF fl dt e r) : SF (if fl p0 = 2147483647 then upd fl p0 (nI (b + 1)) else fl) dt e r := by
  obtain ⟨se, fm, to, gr, ma, on, mi, th, tk, sf⟩ := e
  obtain ⟨se', fm', to', on', mi', th', ma', gi, tks⟩ := r
  obtain ⟨-, -, ht⟩ := hE
  obtain ⟨k0, d1, d2⟩ := hdt
  obtain ⟨h1, h2⟩ := h
  have key : ∀ q, q < 6 → tks q ≠ 2147483647 → ∀ p, tks q < fl p ↔ tks q < (if fl p0 = 2147483647 then upd fl p0 (nI (b + 1)) else fl) p := fun q hq hn p => by
    rcases (ht q hq).2 with z | ⟨t, z1, z2⟩
    · exact absurd z hn
    · rw [z2]; exact fl_look z1 hb p
  refine ⟨fun a1 a2 s d hs hd a3 a4 => (h1 a1 a2 s d hs hd a3 a4).trans ⟨fun q => ⟨q.1, (key d hd q.1 s).mp q.2.1, (key d hd q.1 d).mp q.2.2⟩, fun q => ⟨q.1, (key d hd q.1 s).mpr q.2.1, (key d hd q.1 d).mpr q.2.2⟩⟩, fun a1 => ⟨(h2 a1).1, (h2 a1).2.1, fun s hs a2 => ⟨((h2 a1).2.2 s hs a2).1.trans ?_, fun q hq hne hm => (((h2 a1).2.2 s hs a2).2 q hq hne hm).trans ?_⟩⟩⟩
  · refine ⟨fun z p hp hm => ?_, fun z p hp hm => ?_⟩
    · have := z p hp hm; rw [d2] at this ⊢; exact (fl_look d1 hb p).mp this
    · have := z p hp hm; rw [d2] at this ⊢; exact (fl_look d1 hb p).mpr this
  · exact ⟨fun z => ⟨z.1, z.2.1, fun p hp hm => (key q hq z.1 p).mp (z.2.2 p hp hm)⟩, fun z => ⟨z.1, z.2.1, fun p hp hm => (key q hq z.1 p).mpr (z.2.2 p hp hm)⟩⟩
/-- a letter is taken by q -/
theorem SF_take {b : Nat} {DL : List (Int32 × Int32)} {fl dt : Nat → Int32} {e : LT} {r : RL} {li cf cg x : Int32} {oc : Bool} {q : Nat} (hb : b ≤ 100) (hq : q < 6) (hx : x = nI (b + 1)) (hE : LE DL b e r) (h5 : ∀ p, p < 6 → hbit li (nI p) = decide (fl p ≠ 2147483647) ∧ (fl p = 2147483647 ∨ ∃ t, t ≤ b ∧ fl p = nI t)) (h : SF fl dt e r) (hcf : cf ≠ nI q) (hp1 : r.2.2.1 < 16 → r.2.2.1 = nI q → fl q = 2147483647 → (∀ s, s < 6 → r.2.1 = nI s → fl s = 2147483647) → r.2.1 = cf ∧ cg = -1 ∧ oc = r.2.2.2.1) (hp2 : ¬ r.2.2.1 < 16 → (∀ p, p < 6 → hbit r.2.2.2.2.2.2.1 (nI p) = true → fl p = 2147483647) → hbit r.2.2.2.2.2.2.1 (nI q) = true → r.2.1 ≠ nI q → r.2.1 = cf ∧ (∃ g, g < 4 ∧ cg = nI g ∧ r.2.2.1 = nI (16 + g)) ∧ (r.2.2.2.2.2.2.2.2 q ≠ 2147483647 → oc = hbit r.2.2.2.2.2.2.2.1 (nI q))) : (r.2.2.2.2.2.2.2.2 q = 2147483647 → SF fl dt (lt_take e (1 <<< (nI q &&& 31)) (if lt_so e cf cg (nI q) = true ∧ oc = true ∧ e.2.2.2.2.1 &&& li = 0 then 1 <<< (nI q &&& 31) else 0)) (rl_take r q x (if cg = -1 then false else oc))) ∧ (r.2.2.2.2.2.2.2.2 q ≠ 2147483647 → SF fl dt (lt_take e (1 <<< (nI q &&& 31)) (if lt_so e cf cg (nI q) = true ∧ oc = true ∧ e.2.2.2.2.1 &&& li = 0 then 1 <<< (nI q &&& 31) else 0)) r) := by
  subst hx
  obtain ⟨se, fm, to, gr, ma, on, mi, th, tk, sf⟩ := e
  obtain ⟨se', fm', to', on', mi', th', ma', gi, tks⟩ := r
  obtain ⟨⟨e1, e2, s, hs, e3, m, e4, e5⟩, hk, ht⟩ := hE
  obtain ⟨h1, h2⟩ := h
  have hN : nI (b + 1) ≠ (2147483647 : Int32) := nI_nN (by omega)
  have late : ∀ p, p < 6 → fl p ≠ 2147483647 → ¬ nI (b + 1) < fl p := fun p hp hn z => by
    rcases (h5 p hp).2 with w | ⟨t, w1, w2⟩
    · exact hn w
    · have := Int32.lt_iff_toInt_lt.mp z
      rw [w2, nI_toInt (by omega), nI_toInt (by omega)] at this
      omega
  -- the mark, as it is made
  have hsb : ∀ (c : Prop) [Decidable c] (p : Nat), p < 6 → hbit (sf ||| (if c then 1 <<< (nI q &&& 31) else 0)) (nI p) = (hbit sf (nI p) || (decide (p = q) && decide c)) := fun c _ p hp => by
    rw [hbit_or _ _ (by omega)]
    by_cases z : c
    · rw [if_pos z, hbit_one (by omega) (by omega), decide_eq_true z, Bool.and_true]
    · rw [if_neg z, hbit_z (by omega), decide_eq_false z, Bool.and_false]
  rcases hk with ⟨g1, ⟨d, hd, g2⟩, g3, g4, g5, g6, g7, g8, g9⟩ | ⟨g, hg, g1, g2, g3⟩
  · have h16 : to' < 16 := by rw [g3, g2]; exact Int32.lt_iff_toInt_lt.mpr (by rw [nI_toInt (by omega)]; show (d : Int) < 16; omega)
    have hma : ∀ i, 6 ≤ i → i < 32 → bt ma i = false := fun i hi hi2 => by
      rw [g9, e3, g2, b_or, bt_one (by omega) hi2, bt_one (by omega) hi2, decide_eq_false (by omega), decide_eq_false (by omega)]; rfl
    have hmb : ∀ p, p < 6 → (hbit ma (nI p) = true ↔ p = s ∨ p = d) := fun p hp => by
      rw [g9, e3, g2, hbit_or _ _ (by omega), hbit_one (by omega) (by omega), hbit_one (by omega) (by omega), Bool.or_eq_true, decide_eq_true_eq, decide_eq_true_eq]
    have hun : ma &&& li = 0 ↔ fl s = 2147483647 ∧ fl d = 2147483647 := by
      rw [and0 hma]
      have z : ∀ p, p < 6 → (hbit li (nI p) = false ↔ fl p = 2147483647) := fun p hp => by
        rw [(h5 p hp).1, decide_eq_false_iff_not, Classical.not_not]
      exact ⟨fun w => ⟨(z s hs).mp (w s hs ((hmb s hs).mpr (Or.inl rfl))), (z d hd).mp (w d hd ((hmb d hd).mpr (Or.inr rfl)))⟩, fun w p hp hm => (z p hp).mpr (((hmb p hp).mp hm).elim (fun y => y ▸ w.1) (fun y => y ▸ w.2))⟩
    have core2 : ∀ (tks' : Nat → Int32), (∀ p, p ≠ q → tks' p = tks p) → (tks q = 2147483647 → tks' q = nI (b + 1)) → (tks q ≠ 2147483647 → tks' q = tks q) → on' = true → ∀ s0 d0, s0 < 6 → d0 < 6 → fm' = nI s0 → to' = nI d0 → (hbit (sf ||| (if lt_so (se, fm, to, gr, ma, on, mi, th, tk, sf) cf cg (nI q) = true ∧ oc = true ∧ ma &&& li = 0 then 1 <<< (nI q &&& 31) else 0)) (nI d0) = true ↔ (tks' d0 ≠ 2147483647 ∧ tks' d0 < fl s0 ∧ tks' d0 < fl d0)) := fun tks' u1 u2 u3 hon s0 d0 hs0 hd0 es ed => by
      have ess : s0 = s := nI_cxl (by omega) (by omega) (es.symm.trans (e2.trans e3))
      have edd : d0 = d := nI_cxl (by omega) (by omega) (ed.symm.trans (g3.trans g2))
      subst ess edd
      have old := h1 h16 hon s0 d0 hs0 hd0 es ed
      have old : hbit sf (nI d0) = true ↔ (tks d0 ≠ 2147483647 ∧ tks d0 < fl s0 ∧ tks d0 < fl d0) := old
      rw [hsb _ d0 hd0]
      by_cases z : d0 = q
      · subst z
        rw [decide_eq_true rfl, Bool.true_and, Bool.or_eq_true, decide_eq_true_eq]
        by_cases w : ma &&& li = 0
        · obtain ⟨f1, f2⟩ := hun.mp w
          obtain ⟨y1, y2, y3⟩ := hp1 h16 (g3.trans g2) f2 (fun s' hs' es' => by
            have : s' = s0 := nI_cxl (by omega) (by omega) (es'.symm.trans es)
            rw [this]; exact f1)
          have hso : lt_so (se, fm, to, gr, ma, on, mi, th, tk, sf) cf cg (nI d0) = true := by
            show (decide (fm = cf) && (decide (gr = cg) && (!decide (cg = -1) || decide (to = nI d0)))) = true
            have y1 : fm' = cf := y1
            rw [decide_eq_true (e2.symm.trans y1), decide_eq_true (g1.trans y2.symm), decide_eq_true g2, Bool.or_true]; rfl
          have hoc : oc = true := by rw [y3]; exact hon
          refine ⟨fun _ => ?_, fun _ => Or.inr ⟨hso, hoc, w⟩⟩
          by_cases v : tks d0 = 2147483647
          · rw [u2 v, f1, f2]; exact ⟨hN, lt_N hN, lt_N hN⟩
          · rw [u3 v, f1, f2]; exact ⟨v, lt_N v, lt_N v⟩
        · refine ⟨fun y => ?_, fun y => Or.inl ?_⟩
          · rcases y with y | y
            · have y' := old.mp y
              rw [u3 y'.1]; exact y'
            · exact absurd y.2.2 w
          · by_cases v : tks d0 = 2147483647
            · rw [u2 v] at y
              exfalso
              apply w
              refine hun.mpr ⟨?_, ?_⟩
              · exact Classical.byContradiction (fun k => late s0 hs0 k y.2.1)
              · exact Classical.byContradiction (fun k => late d0 hd0 k y.2.2)
            · rw [u3 v] at y; exact old.mpr y
      · rw [decide_eq_false z, Bool.false_and, Bool.or_false, u1 d0 z]
        exact old
    refine ⟨fun hz => ⟨fun _ hon => core2 (upd tks q (nI (b + 1))) (fun p hp => upd_ne hp) (fun _ => upd_same) (fun k => absurd hz k) hon, fun k => absurd h16 k⟩, fun hz => ⟨fun _ hon => core2 tks (fun _ _ => rfl) (fun k => absurd k hz) (fun _ => rfl) hon, fun k => absurd h16 k⟩⟩
  · have h16 : ¬ to' < 16 := fun k => by
      rw [g2] at k
      have := Int32.lt_iff_toInt_lt.mp k
      rw [nI_toInt (by omega)] at this
      exact absurd this (by show ¬ (((16 + g : Nat) : Int) < 16); omega)
    obtain ⟨f0, ⟨f1, f2⟩, f3⟩ := h2 h16
    have f0 : ∀ q, q < 6 → tks q = 2147483647 → hbit gi (nI q) = false := f0
    have f1 : ∀ i, 6 ≤ i → i < 32 → bt ma' i = false := f1
    have g3 : ma' = ma := g3
    have hun : ma &&& li = 0 ↔ ∀ p, p < 6 → hbit ma' (nI p) = true → fl p = 2147483647 := by
      rw [← g3, and0 f1]
      refine ⟨fun w p hp hm => ?_, fun w p hp hm => ?_⟩
      · have := w p hp hm
        rw [(h5 p hp).1] at this
        exact Classical.byContradiction (fun z => by rw [decide_eq_true z] at this; cases this)
      · rw [(h5 p hp).1, decide_eq_false (fun z => z (w p hp hm))]
    have gen : ∀ (tks' : Nat → Int32) (gi' : Int32), (∀ p, p ≠ q → tks' p = tks p) → (∀ p, p < 6 → p ≠ q → hbit gi' (nI p) = hbit gi (nI p)) → (tks q = 2147483647 → tks' q = nI (b + 1) ∧ hbit gi' (nI q) = (if cg = -1 then false else oc)) → (tks q ≠ 2147483647 → tks' q = tks q ∧ gi' = gi) → ((∀ q0, q0 < 6 → tks' q0 = 2147483647 → hbit gi' (nI q0) = false) ∧ ((∀ i, 6 ≤ i → i < 32 → bt ma' i = false) ∧ ∀ s, s < 6 → fm' = nI s → hbit ma' (nI s) = true) ∧ ∀ s, s < 6 → fm' = nI s → (hbit (sf ||| (if lt_so (se, fm, to, gr, ma, on, mi, th, tk, sf) cf cg (nI q) = true ∧ oc = true ∧ ma &&& li = 0 then 1 <<< (nI q &&& 31) else 0)) (nI s) = true ↔ ∀ p, p < 6 → hbit ma' (nI p) = true → dt (nx se') < fl p) ∧ ∀ q0, q0 < 6 → q0 ≠ s → hbit ma' (nI q0) = true → (hbit (sf ||| (if lt_so (se, fm, to, gr, ma, on, mi, th, tk, sf) cf cg (nI q) = true ∧ oc = true ∧ ma &&& li = 0 then 1 <<< (nI q &&& 31) else 0)) (nI q0) = true ↔ (tks' q0 ≠ 2147483647 ∧ hbit gi' (nI q0) = true ∧ ∀ p, p < 6 → hbit ma' (nI p) = true → tks' q0 < fl p))) := fun tks' gi' u1 u2 u3 u4 => by
      refine ⟨fun q0 hq0 w => ?_, ⟨f1, f2⟩, fun s0 hs0 es => ?_⟩
      · by_cases z : q0 = q
        · subst z
          by_cases v : tks q0 = 2147483647
          · rw [(u3 v).1] at w; exact absurd w hN
          · rw [(u4 v).1] at w; exact absurd w v
        · rw [u1 q0 z] at w; rw [u2 q0 hq0 z]; exact f0 q0 hq0 w
      · obtain ⟨f4, f5⟩ := f3 s0 hs0 es
        have f4 : hbit sf (nI s0) = true ↔ ∀ p, p < 6 → hbit ma' (nI p) = true → dt (nx se') < fl p := f4
        have f5 : ∀ q0, q0 < 6 → q0 ≠ s0 → hbit ma' (nI q0) = true → (hbit sf (nI q0) = true ↔ (tks q0 ≠ 2147483647 ∧ hbit gi (nI q0) = true ∧ ∀ p, p < 6 → hbit ma' (nI p) = true → tks q0 < fl p)) := f5
        have e2' : fm' = fm := e2
        refine ⟨?_, fun q0 hq0 hne hm => ?_⟩
        · rw [hsb _ s0 hs0]
          by_cases z : s0 = q
          · subst z
            rw [decide_eq_true rfl, Bool.true_and, decide_eq_false (fun y => ?_), Bool.or_false]
            · exact f4
            · have y1 : (decide (fm = cf) && (decide (gr = cg) && (!decide (cg = -1) || decide (to = nI s0)))) = true := y.1
              rw [Bool.and_eq_true, decide_eq_true_eq] at y1
              exact hcf (y1.1.symm.trans (e2'.symm.trans es))
          · rw [decide_eq_false z, Bool.false_and, Bool.or_false]; exact f4
        · rw [hsb _ q0 hq0]
          by_cases z : q0 = q
          · subst z
            rw [decide_eq_true rfl, Bool.true_and, Bool.or_eq_true, decide_eq_true_eq]
            by_cases w : ma &&& li = 0
            · have hall := hun.mp w
              obtain ⟨y1, ⟨g', hg', y2, y3⟩, y4⟩ := hp2 h16 hall hm (fun k => hne (nI_cxl (by omega) (by omega) (k.symm.trans es)))
              have y1 : fm' = cf := y1
              have y3 : to' = nI (16 + g') := y3
              have hgg : g' = g := by have := nI_cxl (by omega) (by omega) (y3.symm.trans g2); omega
              subst hgg
              have hcg : cg ≠ -1 := by rw [y2]; exact nI_nm1 (by omega)
              have hso : lt_so (se, fm, to, gr, ma, on, mi, th, tk, sf) cf cg (nI q0) = true := by
                show (decide (fm = cf) && (decide (gr = cg) && (!decide (cg = -1) || decide (to = nI q0)))) = true
                rw [decide_eq_true (e2'.symm.trans y1), decide_eq_true (g1.trans y2.symm), decide_eq_false hcg]; rfl
              by_cases v : tks q0 = 2147483647
              · obtain ⟨u5, u6⟩ := u3 v
                rw [if_neg hcg] at u6
                rw [u5, u6]
                refine ⟨fun k => ⟨hN, ?_, fun p hp hmp => by rw [hall p hp hmp]; exact lt_N hN⟩, fun k => Or.inr ⟨hso, k.2.1, w⟩⟩
                rcases k with k | k
                · exact absurd v ((f5 q0 hq0 hne hm).mp k).1
                · exact k.2.1
              · obtain ⟨u5, u6⟩ := u4 v
                rw [u5, u6]
                have y4 : oc = hbit gi (nI q0) := y4 v
                refine ⟨fun k => ?_, fun k => Or.inl ((f5 q0 hq0 hne hm).mpr k)⟩
                rcases k with k | k
                · exact (f5 q0 hq0 hne hm).mp k
                · exact ⟨v, by rw [← y4]; exact k.2.1, fun p hp hmp => by rw [hall p hp hmp]; exact lt_N v⟩
            · refine ⟨fun k => ?_, fun k => Or.inl ?_⟩
              · rcases k with k | k
                · have k' := (f5 q0 hq0 hne hm).mp k
                  rw [(u4 k'.1).1, (u4 k'.1).2]; exact k'
                · exact absurd k.2.2 w
              · by_cases v : tks q0 = 2147483647
                · rw [(u3 v).1] at k
                  exfalso
                  apply w
                  refine hun.mpr (fun p hp hmp => ?_)
                  exact Classical.byContradiction (fun y => late p hp y (k.2.2 p hp hmp))
                · rw [(u4 v).1, (u4 v).2] at k
                  exact (f5 q0 hq0 hne hm).mpr k
          · rw [decide_eq_false z, Bool.false_and, Bool.or_false, u1 q0 z, u2 q0 hq0 z]
            exact f5 q0 hq0 hne hm
    refine ⟨fun hz => ⟨fun k => absurd k h16, fun _ => gen (upd tks q (nI (b + 1))) (if (if cg = -1 then false else oc) = true then gi ||| (1 <<< (nI q &&& 31)) else gi) (fun p hp => upd_ne hp) (fun p hp hne => ?_) (fun v => ⟨upd_same, ?_⟩) (fun k => absurd hz k)⟩, fun hz => ⟨fun k => absurd k h16, fun _ => gen tks gi (fun _ _ => rfl) (fun _ _ _ => rfl) (fun k => absurd k hz) (fun _ => ⟨rfl, rfl⟩)⟩⟩
    · generalize (if cg = -1 then false else oc) = B
      split
      · rw [hbit_or _ _ (by omega), hbit_one (by omega) (by omega), decide_eq_false hne, Bool.or_false]
      · rfl
    · have hg0 := f0 q hq v
      generalize (if cg = -1 then false else oc) = B
      cases B
      · rw [if_neg (by decide)]; exact hg0
      · rw [if_pos rfl, hbit_or _ _ (by omega), hbit_one (by omega) (by omega), decide_eq_true rfl, Bool.or_true]
