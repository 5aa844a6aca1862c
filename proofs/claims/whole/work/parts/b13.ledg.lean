/-! What holds of the whole state, always: bits, lists written, the ledger -/
def bt (x : Int32) (i : Nat) : Bool := x.toBitVec.getLsbD i
theorem b_ext {x y : Int32} (h : ∀ i, i < 32 → bt x i = bt y i) : x = y := Int32.toBitVec_inj.mp (BitVec.eq_of_getLsbD_eq (fun i hi => h i hi))
theorem b_or (x y : Int32) (i : Nat) : bt (x ||| y) i = (bt x i || bt y i) := by unfold bt; rw [Int32.toBitVec_or, BitVec.getLsbD_or]
theorem b_and (x y : Int32) (i : Nat) : bt (x &&& y) i = (bt x i && bt y i) := by unfold bt; rw [Int32.toBitVec_and, BitVec.getLsbD_and]
theorem b_xor (x y : Int32) (i : Nat) : bt (x ^^^ y) i = (bt x i ^^ bt y i) := by unfold bt; rw [Int32.toBitVec_xor, BitVec.getLsbD_xor]
theorem b_m1 : ∀ i, i < 32 → bt (-1) i = true := by decide +kernel
theorem b_0 (i : Nat) : bt 0 i = false := BitVec.getLsbD_zero
theorem s_l : ∀ n, n < 32 → ((nI n &&& 31).toBitVec.smod 32).toNat = n := by decide +kernel
theorem b_shl (n : Nat) (hn : n < 32) (x : Int32) {i : Nat} (hi : i < 32) : bt (x <<< (nI n &&& 31)) i = (decide (n ≤ i) && bt x (i - n)) := by
  unfold bt
  rw [Int32.toBitVec_shiftLeft]
  show (x.toBitVec <<< ((nI n &&& 31).toBitVec.smod 32).toNat).getLsbD i = _
  rw [s_l n hn, BitVec.getLsbD_shiftLeft]
  rcases Nat.lt_or_ge i n with h | h
  · simp [h, Nat.not_le.mpr h]
  · simp [hi, h, Nat.not_lt.mpr h]
theorem b_sshr (n : Nat) (hn : n < 32) (x : Int32) {i : Nat} (hi : i < 32) : bt (x >>> (nI n &&& 31)) i = if n + i < 32 then bt x (n + i) else bt x 31 := by
  unfold bt
  rw [Int32.toBitVec_shiftRight]
  show (x.toBitVec.sshiftRight ((nI n &&& 31).toBitVec.smod 32).toNat).getLsbD i = _
  rw [s_l n hn, BitVec.getLsbD_sshiftRight, BitVec.msb_eq_getLsbD_last]
  simp [hi]
theorem b_1 : ∀ i, i < 32 → 0 < i → bt 1 i = false := by decide +kernel
theorem hbit_bt (x : Int32) {p : Nat} (hp : p < 32) : hbit x (nI p) = bt x p := by
  have e : bt (x >>> (nI p &&& 31)) 0 = bt x p := by rw [b_sshr p hp x (by decide), if_pos (by omega), Nat.add_zero]
  have e1 : (x >>> (nI p &&& 31) &&& 1 = 0) ↔ bt x p = false := by
    rw [← e]
    constructor
    · intro h
      have h2 : bt (x >>> (nI p &&& 31) &&& 1) 0 = bt 0 0 := by rw [h]
      rw [b_and, b_0, show bt 1 0 = true from by decide, Bool.and_true] at h2
      exact h2
    · intro h
      apply b_ext
      intro i hi
      rw [b_and, b_0]
      rcases Nat.eq_zero_or_pos i with rfl | hi0
      · rw [h]; rfl
      · rw [b_1 i hi hi0, Bool.and_false]
  unfold hbit
  cases hb : bt x p
  · rw [decide_eq_true (e1.mpr hb)]; rfl
  · rw [decide_eq_false (fun q => by rw [e1.mp q] at hb; cases hb)]; rfl
theorem bt_one {p i : Nat} (hp : p < 32) (hi : i < 32) : bt (1 <<< (nI p &&& 31)) i = decide (i = p) := by
  rw [b_shl p hp 1 hi]
  by_cases c : i = p
  · subst c
    rw [decide_eq_true (Nat.le_refl _), Nat.sub_self, decide_eq_true rfl]
    decide
  · rw [decide_eq_false c]
    by_cases c2 : p ≤ i
    · rw [b_1 (i - p) (by omega) (by omega), Bool.and_false]
    · rw [decide_eq_false c2]; rfl
theorem hbit_or (x y : Int32) {p : Nat} (hp : p < 32) : hbit (x ||| y) (nI p) = (hbit x (nI p) || hbit y (nI p)) := by rw [hbit_bt _ hp, hbit_bt _ hp, hbit_bt _ hp, b_or]
theorem hbit_one {p q : Nat} (hp : p < 32) (hq : q < 32) : hbit (1 <<< (nI q &&& 31)) (nI p) = decide (p = q) := by rw [hbit_bt _ hp, bt_one hq hp]
theorem hbit_z {p : Nat} (hp : p < 32) : hbit 0 (nI p) = false := by rw [hbit_bt _ hp, b_0]
theorem wl_lo : ∀ (l : List Int32) (g : Nat → Int32) (k m : Nat), m < k → wl g k l m = g m
  | [], _, _, _, _ => rfl
  | x :: l, g, k, m, h => (wl_lo l (upd g k x) (k + 1) m (by omega)).trans (upd_ne (by omega))
theorem wl_at : ∀ (l : List Int32) (g : Nat → Int32) (k i : Nat) (x : Int32), l[i]? = some x → wl g k l (k + i) = x
  | [], _, _, i, x, h => by simp at h
  | y :: l, g, k, 0, x, h => by
    have e : y = x := by simpa using h
    subst e
    show wl (upd g k y) (k + 1) l k = y
    rw [wl_lo l _ (k + 1) k (by omega)]
    exact upd_same
  | y :: l, g, k, i + 1, x, h => by
    have := wl_at l (upd g k y) (k + 1) i x (by simpa using h)
    rw [show k + (i + 1) = k + 1 + i by omega]
    exact this
/-- a SECRET that was drawn -/
def SD (DL : List (Int32 × Int32)) (X : Tm) : Prop := ∃ m d p, DL[m]? = some (d, p) ∧ X = Tsec (nI m) d p
theorem SD_app {DL E : List (Int32 × Int32)} {X : Tm} (h : SD DL X) : SD (DL ++ E) X := by
  obtain ⟨m, d, p, h1, h2⟩ := h
  exact ⟨m, d, p, by rw [List.getElem?_append_left (List.getElem?_eq_some_iff.mp h1).1]; exact h1, h2⟩
/-- a letter of the class, and of the reference -/
def LE (DL : List (Int32 × Int32)) (b' : Nat) : LT → RL → Prop
  | (se, fm, to, gr, ma, on, mi, th, tk, _), (se', fm', to', on', mi', th', ma', _, tks) => (se' = se ∧ fm' = fm ∧ ∃ s, s < 6 ∧ fm = nI s ∧ ∃ m, DL[m]? = some (nI s, 0) ∧ se = Tsec (nI m) (nI s) 0) ∧ ((gr = -1 ∧ (∃ d, d < 6 ∧ to = nI d) ∧ to' = to ∧ on = bz on' ∧ mi' = mi ∧ th' = th ∧ SD DL mi ∧ SD DL th ∧ ma = (1 <<< (fm &&& 31)) ||| (1 <<< (to &&& 31))) ∨ (∃ g, g < 4 ∧ gr = nI g ∧ to' = nI (16 + g) ∧ ma' = ma)) ∧ ∀ q, q < 6 → hbit tk (nI q) = decide (tks q ≠ 2147483647) ∧ (tks q = 2147483647 ∨ ∃ t, t ≤ b' ∧ tks q = nI t)
/-- the two ledgers: looks not after b, draws and takings not after b' -/
def LGX (b b' : Nat) (DL : List (Int32 × Int32)) (ls : List RL) (lo : Nat → Int32) : LG → RR → Prop
  | (Lc, bd, llc, tc, tlc, tfc, tgc, _, _, _, _, li, foc, dbc), (dt, db, rt, fl, ll, tl, tf, tg, tm, _, fo, du) => ((Lc.length = ls.length ∧ ∀ (i : Nat) (e : LT) (r : RL), Lc[i]? = some e → ls[i]? = some r → LE DL b' e r) ∧ (∀ m, m < DL.length → bd m = lo m ∧ (lo m = -1 ∨ ∃ i r, ls[i]? = some r ∧ lo m = nI i ∧ mk r.1 = nI m)) ∧ (∀ m, DL.length ≤ m → m < 3000 → bd m = -1) ∧ ∀ (i : Nat) (r : RL), ls[i]? = some r → ∃ m, m < DL.length ∧ mk r.1 = nI m ∧ lo m = nI i) ∧ (∀ p, p < 6 → (∃ k, k ≤ b' ∧ tc p = nI k) ∧ tm p = tc p ∧ (tc p = 0 → tl p = -1 ∧ tf p = -1 ∧ tg p = -1) ∧ (tc p ≠ 0 → tlc p = tl p ∧ tfc p = tf p ∧ tgc p = tg p)) ∧ ((∀ p, p < 6 → hbit li (nI p) = decide (fl p ≠ 2147483647) ∧ (fl p = 2147483647 ∨ ∃ t, t ≤ b ∧ fl p = nI t) ∧ ((ll p).toInt ≤ b) ∧ ∃ k, k ≤ DL.length ∧ llc p = nI k) ∧ ∀ i, 6 ≤ i → i < 32 → bt li i = false) ∧ (∀ m d p, DL[m]? = some (d, p) → (∃ t, t ≤ b' ∧ dt m = nI t) ∧ rt m = bz (decide (p = 1 ∨ p = 2)) ∧ (p = 1 ∨ p = 2 → db m = d) ∧ ∀ q, q < 6 → (llc q ≤ nI m ↔ ll q < dt m)) ∧ foc = fo ∧ dbc = du
theorem LE_mono {DL E : List (Int32 × Int32)} {b c : Nat} {e : LT} {r : RL} (hb : b ≤ c) (h : LE DL b e r) : LE (DL ++ E) c e r := by
  obtain ⟨se, fm, to, gr, ma, on, mi, th, tk, sf⟩ := e
  obtain ⟨se', fm', to', on', mi', th', ma', gi, tks⟩ := r
  obtain ⟨⟨h1, h2, s, h3, h4, m, h5, h6⟩, h7, h8⟩ := h
  refine ⟨⟨h1, h2, s, h3, h4, m, ?_, h6⟩, ?_, fun q hq => ⟨(h8 q hq).1, ?_⟩⟩
  · rw [List.getElem?_append_left (List.getElem?_eq_some_iff.mp h5).1]; exact h5
  · rcases h7 with ⟨a1, a2, a3, a4, a5, a6, a7, a8, a9⟩ | h7
    · exact Or.inl ⟨a1, a2, a3, a4, a5, a6, SD_app a7, SD_app a8, a9⟩
    · exact Or.inr h7
  · rcases (h8 q hq).2 with h | ⟨t, h, h'⟩
    · exact Or.inl h
    · exact Or.inr ⟨t, by omega, h'⟩
theorem LE_le {DL : List (Int32 × Int32)} {b c : Nat} {e : LT} {r : RL} (hb : b ≤ c) (h : LE DL b e r) : LE DL c e r := by
  have := LE_mono (E := []) hb h
  rw [List.append_nil] at this
  exact this
section LGX
variable {b b' : Nat} {DL : List (Int32 × Int32)} {ls : List RL} {lo : Nat → Int32} {Lc : List LT} {bd llc tc tlc tfc tgc : Nat → Int32} {cf cg : Int32} {ct : Tm} {co : Bool} {li foc dbc : Int32} {dt db rt fl ll tl tf tg tm : Nat → Int32} {ck fo du : Int32}
theorem LGX_mono {c c' : Nat} (hb : b ≤ c) (hb' : b' ≤ c') (h : LGX b b' DL ls lo (Lc, bd, llc, tc, tlc, tfc, tgc, cf, cg, ct, co, li, foc, dbc) (dt, db, rt, fl, ll, tl, tf, tg, tm, ck, fo, du)) : LGX c c' DL ls lo (Lc, bd, llc, tc, tlc, tfc, tgc, cf, cg, ct, co, li, foc, dbc) (dt, db, rt, fl, ll, tl, tf, tg, tm, ck, fo, du) := by
  obtain ⟨⟨⟨h1, h2⟩, h3, h3b, h3c⟩, h4, ⟨h5, h5b⟩, h6, h7⟩ := h
  refine ⟨⟨⟨h1, fun i e r he hr => LE_le hb' (h2 i e r he hr)⟩, h3, h3b, h3c⟩, fun p hp => ?_, ⟨fun p hp => ?_, h5b⟩, fun m d p hm => ?_, h7⟩
  · obtain ⟨⟨k, a1, a2⟩, a3⟩ := h4 p hp
    exact ⟨⟨k, by omega, a2⟩, a3⟩
  · obtain ⟨a1, a2, a3, a4⟩ := h5 p hp
    refine ⟨a1, ?_, by omega, a4⟩
    rcases a2 with a2 | ⟨t, a2, a5⟩
    · exact Or.inl a2
    · exact Or.inr ⟨t, by omega, a5⟩
  · obtain ⟨⟨t, a1, a2⟩, a3⟩ := h6 m d p hm
    exact ⟨⟨t, by omega, a2⟩, a3⟩
/-- more is drawn -/
theorem LGX_draw (h : LGX b b' DL ls lo (Lc, bd, llc, tc, tlc, tfc, tgc, cf, cg, ct, co, li, foc, dbc) (dt, db, rt, fl, ll, tl, tf, tg, tm, ck, fo, du)) {x : Int32} (hx : x = nI (b + 1)) (hb : b' ≤ b + 1) (hb1 : b ≤ 100) (E : List (Int32 × Int32)) (F : List (Int32 × Bool)) (hE : DL.length + E.length ≤ 2960) (hF : F.length = E.length) (hEF : ∀ (i : Nat) (e : Int32 × Int32) (f : Int32 × Bool), E[i]? = some e → F[i]? = some f → f.2 = decide (e.2 = 1 ∨ e.2 = 2) ∧ (e.2 = 1 ∨ e.2 = 2 → f.1 = e.1)) : LGX b (b + 1) (DL ++ E) ls (wl lo DL.length (F.map fun _ => -1)) (Lc, bd, llc, tc, tlc, tfc, tgc, cf, cg, ct, co, li, foc, dbc) (wl dt DL.length (F.map fun _ => x), wl db DL.length (F.map fun e => e.1), wl rt DL.length (F.map fun e => bz e.2), fl, ll, tl, tf, tg, tm, ck, fo, du) := by
  subst hx
  obtain ⟨⟨⟨h1, h2⟩, h3, h3b, h3c⟩, h4, ⟨h5, h5b⟩, h6, h7⟩ := h
  have hlen : (DL ++ E).length = DL.length + E.length := List.length_append
  refine ⟨⟨⟨h1, fun i e r he hr => LE_mono hb (h2 i e r he hr)⟩, fun m hm => ?_, fun m hm hm3 => h3b m (by omega) hm3, fun i r hr => ?_⟩, fun p hp => ?_, ⟨fun p hp => ?_, h5b⟩, fun m d p hm => ?_, h7⟩
  · by_cases c : m < DL.length
    · rw [wl_lo _ _ _ _ c]
      exact h3 m c
    · have e : wl lo DL.length (F.map fun _ => -1) m = -1 := by
        have hi : m - DL.length < F.length := by omega
        have := wl_at (F.map fun _ => -1) lo DL.length (m - DL.length) (-1) (by rw [List.getElem?_map, List.getElem?_eq_getElem hi]; rfl)
        rw [show DL.length + (m - DL.length) = m by omega] at this
        exact this
      rw [e]
      exact ⟨h3b m (by omega) (by omega), Or.inl rfl⟩
  · obtain ⟨m, a1, a2, a3⟩ := h3c i r hr
    exact ⟨m, by omega, a2, by rw [wl_lo _ _ _ _ a1]; exact a3⟩
  · obtain ⟨⟨k, a1, a2⟩, a3⟩ := h4 p hp
    exact ⟨⟨k, by omega, a2⟩, a3⟩
  · obtain ⟨a1, a2, a3, k, a4, a5⟩ := h5 p hp
    exact ⟨a1, a2, a3, k, by omega, a5⟩
  · by_cases c : m < DL.length
    · rw [List.getElem?_append_left c] at hm
      rw [wl_lo _ _ _ _ c, wl_lo _ _ _ _ c, wl_lo _ _ _ _ c]
      obtain ⟨⟨t, a1, a2⟩, a3⟩ := h6 m d p hm
      exact ⟨⟨t, by omega, a2⟩, a3⟩
    · have c := Nat.le_of_not_lt c
      rw [List.getElem?_append_right c] at hm
      have hi : m - DL.length < F.length := by have := (List.getElem?_eq_some_iff.mp hm).1; omega
      obtain ⟨f, hf⟩ : ∃ f, F[m - DL.length]? = some f := ⟨_, List.getElem?_eq_getElem hi⟩
      obtain ⟨e1, e2⟩ := hEF _ _ _ hm hf
      have g : ∀ (q : Int32 × Bool → Int32) (v : Nat → Int32), wl v DL.length (F.map q) m = q f := fun q v => by
        have := wl_at (F.map q) v DL.length (m - DL.length) (q f) (by rw [List.getElem?_map, hf]; rfl)
        rw [show DL.length + (m - DL.length) = m by omega] at this
        exact this
      rw [g, g, g]
      refine ⟨⟨b + 1, Nat.le_refl _, rfl⟩, by rw [e1], e2, fun q hq => ?_⟩
      obtain ⟨-, -, a3, k, a4, a5⟩ := h5 q hq
      rw [a5]
      refine ⟨fun _ => Int32.lt_iff_toInt_lt.mpr (by rw [nI_toInt (by omega)]; omega), fun _ => Int32.le_iff_toInt_le.mpr (by rw [nI_toInt (by omega), nI_toInt (by omega)]; omega)⟩
/-- a letter is written down -/
theorem LGX_add (h : LGX b b' DL ls lo (Lc, bd, llc, tc, tlc, tfc, tgc, cf, cg, ct, co, li, foc, dbc) (dt, db, rt, fl, ll, tl, tf, tg, tm, ck, fo, du)) {m : Nat} {e : LT} {r : RL} (hm : m < DL.length) (hlm : lo m = -1) (hmk : mk r.1 = nI m) (he : LE DL b' e r) (hl7 : ls.length ≤ 700) (hdl : DL.length ≤ 2960) : LGX b b' DL (ls ++ [r]) (upd lo m (nI ls.length)) (Lc ++ [e], upd bd m (nI ls.length), llc, tc, tlc, tfc, tgc, cf, cg, ct, co, li, foc, dbc) (dt, db, rt, fl, ll, tl, tf, tg, tm, ck, fo, du) := by
  obtain ⟨⟨⟨h1, h2⟩, h3, h3b, h3c⟩, h4, h5, h6, h7⟩ := h
  have hlast : (ls ++ [r])[ls.length]? = some r := by rw [List.getElem?_append_right (Nat.le_refl _), Nat.sub_self]; rfl
  refine ⟨⟨⟨by rw [List.length_append, List.length_append, h1]; rfl, fun i e' r' he' hr' => ?_⟩, fun k hk => ?_, fun k hk hk3 => by rw [upd_ne (by omega)]; exact h3b k hk hk3, fun i r' hr' => ?_⟩, h4, h5, h6, h7⟩
  · rcases app_case he' with he' | ⟨e1, rfl⟩
    · have hi := (List.getElem?_eq_some_iff.mp he').1
      rw [List.getElem?_append_left (by omega)] at hr'
      exact h2 i e' r' he' hr'
    · rw [e1, h1, hlast] at hr'
      cases hr'
      exact he
  · by_cases c : k = m
    · subst c
      rw [upd_same, upd_same]
      exact ⟨rfl, Or.inr ⟨ls.length, r, hlast, rfl, hmk⟩⟩
    · rw [upd_ne c, upd_ne c]
      refine ⟨(h3 k hk).1, ?_⟩
      rcases (h3 k hk).2 with a | ⟨i, r', a1, a2, a3⟩
      · exact Or.inl a
      · exact Or.inr ⟨i, r', by rw [List.getElem?_append_left (List.getElem?_eq_some_iff.mp a1).1]; exact a1, a2, a3⟩
  · rcases app_case hr' with hr' | ⟨e1, rfl⟩
    · obtain ⟨k, a1, a2, a3⟩ := h3c i r' hr'
      have c : k ≠ m := fun q => by
        subst q
        rw [hlm] at a3
        exact nI_nm1 (by have := (List.getElem?_eq_some_iff.mp hr').1; omega) a3.symm
      exact ⟨k, a1, a2, by rw [upd_ne c]; exact a3⟩
    · exact ⟨m, hm, hmk, by rw [upd_same, e1]⟩
/-- a device is looked into -/
theorem LGX_look (h : LGX b b DL ls lo (Lc, bd, llc, tc, tlc, tfc, tgc, cf, cg, ct, co, li, foc, dbc) (dt, db, rt, fl, ll, tl, tf, tg, tm, ck, fo, du)) {p : Nat} {x : Int32} (hp : p < 6) (hx : x = nI (b + 1)) (hb1 : b ≤ 100) (hdl : DL.length ≤ 2960) : LGX (b + 1) (b + 1) DL ls lo (Lc, bd, upd llc p (nI DL.length), tc, tlc, tfc, tgc, cf, cg, ct, co, li ||| (1 <<< (nI p &&& 31)), foc, dbc) (dt, db, rt, (if fl p = 2147483647 then upd fl p x else fl), upd ll p x, tl, tf, tg, tm, ck, fo, du) := by
  subst hx
  have h := LGX_mono (c := b + 1) (c' := b) (by omega) (Nat.le_refl _) h
  have hN : nI (b + 1) ≠ (2147483647 : Int32) := fun q => by
    have := congrArg Int32.toInt q
    rw [nI_toInt (by omega)] at this
    exact absurd this (by show ¬ ((b + 1 : Nat) : Int) = 2147483647; omega)
  obtain ⟨⟨⟨h1, h2⟩, h3, h3b, h3c⟩, h4, ⟨h5, h5b⟩, h6, h7⟩ := h
  refine ⟨⟨⟨h1, fun i e r he hr => LE_le (by omega) (h2 i e r he hr)⟩, h3, h3b, h3c⟩, fun q hq => ?_, ⟨fun q hq => ?_, fun i hi hi2 => ?_⟩, fun m d q hm => ?_, h7⟩
  · obtain ⟨⟨k, a1, a2⟩, a3⟩ := h4 q hq
    exact ⟨⟨k, by omega, a2⟩, a3⟩
  · obtain ⟨a1, a2, a3, k, a4, a5⟩ := h5 q hq
    rw [hbit_or _ _ (by omega), hbit_one (by omega) (by omega)]
    by_cases c : q = p
    · subst c
      rw [upd_same, upd_same, decide_eq_true rfl, Bool.or_true]
      refine ⟨?_, ?_, by rw [nI_toInt (by omega)]; omega, DL.length, Nat.le_refl _, rfl⟩
      · by_cases c2 : fl q = 2147483647
        · rw [if_pos c2, upd_same, decide_eq_true hN]
        · rw [if_neg c2, decide_eq_true c2]
      · by_cases c2 : fl q = 2147483647
        · rw [if_pos c2, upd_same]; exact Or.inr ⟨b + 1, Nat.le_refl _, rfl⟩
        · rw [if_neg c2]; exact a2
    · rw [upd_ne c, upd_ne c, decide_eq_false c, Bool.or_false]
      have e : (if fl p = 2147483647 then upd fl p (nI (b + 1)) else fl) q = fl q := by
        split
        · exact upd_ne c
        · rfl
      rw [e]
      exact ⟨a1, a2, a3, k, a4, a5⟩
  · rw [b_or, h5b i hi hi2, bt_one (by omega) hi2, decide_eq_false (by omega)]; rfl
  · obtain ⟨⟨t, a1, a2⟩, a3, a4, a5⟩ := h6 m d q hm
    have hml := (List.getElem?_eq_some_iff.mp hm).1
    refine ⟨⟨t, by omega, a2⟩, a3, a4, fun z hz => ?_⟩
    by_cases c : z = p
    · subst c
      rw [upd_same, upd_same, a2]
      refine ⟨fun q => ?_, fun q => ?_⟩
      · have := Int32.le_iff_toInt_le.mp q
        rw [nI_toInt (by omega), nI_toInt (by omega)] at this
        omega
      · have := Int32.lt_iff_toInt_lt.mp q
        rw [nI_toInt (by omega), nI_toInt (by omega)] at this
        omega
    · rw [upd_ne c, upd_ne c]
      exact a5 z hz
end LGX
