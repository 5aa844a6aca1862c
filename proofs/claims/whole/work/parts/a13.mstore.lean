/-! The reference: the two halves of a store, and the whole state -/
def qHf (A : Nat → Nat → Int32) (T : List Tm) (h : Nat) (L : EN2) (lo hi : Nat) : Prop := (A 20 h = nI L.length ∧ L.length ≤ 536 ∧ hi ≤ bk L.length) ∧ (∀ b, b < 75 → A 19 (75 * h + b) = bz (decide (lo ≤ b ∧ b < hi))) ∧ ∀ (i : Nat) (e : Tm × Tm), L[i]? = some e → i < 8 * hi → tv T (A 18 (1200 * h + 2 * i)) e.1 ∧ tv T (A 18 (1200 * h + 2 * i + 1)) e.2
def qSt (A : Nat → Nat → Int32) (T : List Tm) (p : Nat) : ST → Prop
  | (b, P, O, c, dn) => (A 21 p = bz b ∧ A 23 p = ctI c ∧ A 22 p = bz dn ∧ ∀ k, c = some k → k ≤ 200) ∧ qHf A T (2 * p + sh b) P 0 (bk P.length) ∧ ∃ L lo hi, qHf A T (2 * p + sh (!b)) L lo hi ∧ O = (L.take (8 * hi)).drop (8 * lo) ∧ (dn = false → L = [] ∧ hi = 0)
theorem bz_sh (b : Bool) : bz b = nI (sh b) := by cases b <;> rfl
theorem sh_not (b : Bool) : sh (!b) = 1 - sh b := by cases b <;> rfl
theorem bk_ge (n : Nat) : n ≤ 8 * bk n := by unfold bk; omega
theorem bk_67 {n : Nat} (h : n ≤ 536) : bk n ≤ 67 := by unfold bk; omega
theorem qHf_c {A A' : Nat → Nat → Int32} {T T' : List Tm} {h : Nat} {L : EN2} {lo hi : Nat} (hT : T <+: T') (e20 : A' 20 h = A 20 h) (e19 : ∀ b, b < 75 → A' 19 (75 * h + b) = A 19 (75 * h + b)) (e18 : ∀ j, j < 1200 → A' 18 (1200 * h + j) = A 18 (1200 * h + j)) (q : qHf A T h L lo hi) : qHf A' T' h L lo hi := by
  refine ⟨⟨e20.trans q.1.1, q.1.2⟩, fun b hb => (e19 b hb).trans (q.2.1 b hb), fun i e he hi' => ?_⟩
  have hl : i < L.length := (List.getElem?_eq_some_iff.mp he).1
  have hL := q.1.2.1
  have k := q.2.2 i e he hi'
  rw [e18 (2 * i) (by omega), show 1200 * h + 2 * i + 1 = 1200 * h + (2 * i + 1) by omega, e18 (2 * i + 1) (by omega)]
  exact ⟨tv_mono hT k.1, tv_mono hT k.2⟩
theorem qSt_c {A A' : Nat → Nat → Int32} {T T' : List Tm} {p : Nat} {s : ST} (hT : T <+: T') (e21 : A' 21 p = A 21 p) (e22 : A' 22 p = A 22 p) (e23 : A' 23 p = A 23 p) (e20 : ∀ o, o < 2 → A' 20 (2 * p + o) = A 20 (2 * p + o)) (e19 : ∀ o b, o < 2 → b < 75 → A' 19 (75 * (2 * p + o) + b) = A 19 (75 * (2 * p + o) + b)) (e18 : ∀ o j, o < 2 → j < 1200 → A' 18 (1200 * (2 * p + o) + j) = A 18 (1200 * (2 * p + o) + j)) (q : qSt A T p s) : qSt A' T' p s := by
  obtain ⟨b, P, O, c, dn⟩ := s
  obtain ⟨⟨h1, h2, h3, h4⟩, h5, L, lo, hi, h6, h7, h8⟩ := q
  exact ⟨⟨e21.trans h1, e23.trans h2, e22.trans h3, h4⟩, qHf_c hT (e20 _ (sh_lt b)) (fun x hx => e19 _ x (sh_lt b) hx) (fun x hx => e18 _ x (sh_lt b) hx) h5, L, lo, hi, qHf_c hT (e20 _ (sh_lt _)) (fun x hx => e19 _ x (sh_lt _) hx) (fun x hx => e18 _ x (sh_lt _) hx) h6, h7, h8⟩
theorem qSt_m {A : Nat → Nat → Int32} {T T' : List Tm} {p : Nat} {s : ST} (hT : T <+: T') (q : qSt A T p s) : qSt A T' p s := qSt_c hT rfl rfl rfl (fun _ _ => rfl) (fun _ _ _ _ => rfl) (fun _ _ _ _ => rfl) q
/-- blocks of W newly written into half h -/
theorem qHf_new {A' : Nat → Nat → Int32} {T : List Tm} {h m : Nat} {W : EN2} {en : Nat → Int32} (hW : W.length ≤ 536) (hm : m ≤ bk W.length) (hE : EN en T W 0) (e18 : ∀ i, i < 16 * m → i < 2 * W.length → A' 18 (1200 * h + i) = en i) (e19 : ∀ b, b < 75 → A' 19 (75 * h + b) = bz (decide (b < m))) (e20 : A' 20 h = nI W.length) : qHf A' T h W 0 m := by
  refine ⟨⟨e20, hW, hm⟩, fun b hb => ?_, fun i e he hi => ?_⟩
  · rw [e19 b hb]
    congr 1
    exact decide_eq_decide.mpr ⟨fun q => ⟨Nat.zero_le _, q⟩, fun q => q.2⟩
  · have hl : i < W.length := (List.getElem?_eq_some_iff.mp he).1
    have k := hE i e he
    rw [Nat.zero_add] at k
    rw [e18 (2 * i) (by omega) (by omega), show 1200 * h + 2 * i + 1 = 1200 * h + (2 * i + 1) by omega, e18 (2 * i + 1) (by omega) (by omega)]
    exact k
theorem thW_at {th : Nat → Int32} {H n h b : Nat} {v : Int32} (hb : b < 75) (hn : n ≤ 75) : thW th H n v (75 * h + b) = if h = H ∧ b < n then v else th (75 * h + b) := by
  unfold thW
  by_cases c : h = H ∧ b < n
  · rw [if_pos c, if_pos (by omega)]
  · rw [if_neg c, if_neg (by omega)]
theorem stW_at {st en : Nat → Int32} {H n h j : Nat} (hj : j < 1200) (hn : n ≤ 1200) : stW st en H n (1200 * h + j) = if h = H ∧ j < n then en j else st (1200 * h + j) := by
  unfold stW
  by_cases c : h = H ∧ j < n
  · rw [if_pos c, if_pos (by omega), c.1, Nat.add_sub_cancel_left]
  · rw [if_neg c, if_neg (by omega)]
section
variable {A A' : Nat → Nat → Int32} {T : List Tm} {p m : Nat} {b : Bool} {P O W : EN2} {c : Option Nat}
theorem st_other (hst : qSt A T p (b, P, O, c, false)) : (∀ x, x < 75 → A 19 (75 * (2 * p + (1 - sh b)) + x) = 0) ∧ P.length ≤ 536 := by
  obtain ⟨_, h5, L, lo, hi, h6, h7, h8⟩ := hst
  refine ⟨fun x hx => ?_, h5.1.2.1⟩
  have k := h6.2.1 x hx
  rw [sh_not, (h8 rfl).2] at k
  rw [k, show decide (lo ≤ x ∧ x < 0) = false from decide_eq_false (by omega)]
  rfl
theorem st_lost (hst : qSt A T p (b, P, O, c, false)) {en : Nat → Int32} (hE : EN en T W 0) (hW : W.length ≤ 536) (hm : m ≤ bk W.length) (e18 : A' 18 = stW (A 18) en (2 * p + (1 - sh b)) (min (16 * m) (2 * W.length))) (e19 : A' 19 = thW (A 19) (2 * p + (1 - sh b)) m 1) (e20 : A' 20 = upd (A 20) (2 * p + (1 - sh b)) (nI W.length)) (e21 : A' 21 p = A 21 p) (e22 : A' 22 p = 1) (e23 : A' 23 p = -1) : qSt A' T p (b, P, W.take (8 * m), none, true) := by
  have hs := sh_lt b
  have hbk := bk_67 hW
  obtain ⟨h19, _⟩ := st_other hst
  obtain ⟨⟨h1, h2, h3, h4⟩, h5, _⟩ := hst
  refine ⟨⟨e21.trans h1, e23, e22, fun k q => nomatch q⟩, ?_, W, 0, m, ?_, by rw [Nat.mul_zero, List.drop_zero], fun q => nomatch q⟩
  · refine qHf_c (List.prefix_refl T) ?_ (fun x hx => ?_) (fun x hx => ?_) h5
    · rw [e20, upd_ne (by omega)]
    · rw [e19, thW_at hx (by omega), if_neg (by omega)]
    · rw [e18, stW_at hx (by omega), if_neg (by omega)]
  · rw [sh_not]
    refine qHf_new hW hm hE (fun i hi hi2 => ?_) (fun x hx => ?_) (by rw [e20, upd_same])
    · rw [e18, stW_at (by omega) (by omega), if_pos ⟨rfl, by omega⟩]
    · rw [e19, thW_at hx (by omega)]
      by_cases q : x < m
      · rw [if_pos ⟨rfl, q⟩, decide_eq_true q]; rfl
      · rw [if_neg (fun k => q k.2), decide_eq_false q]; exact h19 x hx
theorem st_switch {lo : Nat} (hst : qSt A T p (b, P, O, c, false)) {en : Nat → Int32} (hE : EN en T W 0) (hW : W.length ≤ 536) (hlo : lo ≤ bk P.length) (e18 : A' 18 = stW (A 18) en (2 * p + (1 - sh b)) (2 * W.length)) (e19 : A' 19 = thW (thW (A 19) (2 * p + (1 - sh b)) (bk W.length) 1) (2 * p + sh b) lo 0) (e20 : A' 20 (2 * p + (1 - sh b)) = nI W.length) (e20b : A' 20 (2 * p + sh b) = A 20 (2 * p + sh b)) : qHf A' T (2 * p + sh (!b)) W 0 (bk W.length) ∧ qHf A' T (2 * p + sh b) P lo (bk P.length) := by
  have hs := sh_lt b
  have hbk := bk_67 hW
  obtain ⟨h19, hP⟩ := st_other hst
  have hbk2 := bk_67 hP
  obtain ⟨_, h5, _⟩ := hst
  constructor
  · rw [sh_not]
    refine qHf_new hW (Nat.le_refl _) hE (fun i hi hi2 => ?_) (fun x hx => ?_) e20
    · rw [e18, stW_at (by omega) (by omega), if_pos ⟨rfl, by omega⟩]
    · rw [e19, thW_at hx (by omega), if_neg (by omega), thW_at hx (by omega)]
      by_cases q : x < bk W.length
      · rw [if_pos ⟨rfl, q⟩, decide_eq_true q]; rfl
      · rw [if_neg (fun k => q k.2), decide_eq_false q]; exact h19 x hx
  · refine ⟨⟨e20b.trans h5.1.1, h5.1.2⟩, fun x hx => ?_, fun i e he hi => ?_⟩
    · rw [e19, thW_at hx (by omega)]
      by_cases q : x < lo
      · rw [if_pos ⟨rfl, q⟩, decide_eq_false (by omega)]; rfl
      · rw [if_neg (fun k => q k.2), thW_at hx (by omega), if_neg (by omega), h5.2.1 x hx]
        congr 1
        exact decide_eq_decide.mpr (by omega)
    · have hl : i < P.length := (List.getElem?_eq_some_iff.mp he).1
      have k := h5.2.2 i e he hi
      rw [e18, show 1200 * (2 * p + sh b) + 2 * i + 1 = 1200 * (2 * p + sh b) + (2 * i + 1) by omega, stW_at (by omega) (by omega), stW_at (by omega) (by omega), if_neg (by omega), if_neg (by omega)]
      exact k
end
/-- letters, letters by draw; draws: when, by, ratchet; first and last looks; taken: letter, from, group, how many; clock, forged, doubled -/
abbrev RR : Type := (Nat → Int32) × (Nat → Int32) × (Nat → Int32) × (Nat → Int32) × (Nat → Int32) × (Nat → Int32) × (Nat → Int32) × (Nat → Int32) × (Nat → Int32) × Int32 × Int32 × Int32
def RSd (f : Nat → Int32) (A : Nat → Nat → Int32) (DL : List (Int32 × Int32)) : RR → Prop
  | (dt, db, rt, fl, ll, tl, tf, tg, tm, ck, fo, du) => (f 11 = nI DL.length ∧ f 21 = ck ∧ f 53 = fo ∧ f 54 = du) ∧ (A 10 = dt ∧ A 11 = db ∧ A 12 = rt) ∧ (A 24 = fl ∧ A 25 = ll) ∧ (A 39 = tl ∧ A 40 = tf ∧ A 41 = tg ∧ A 42 = tm)
def RS (f : Nat → Int32) (A : Nat → Nat → Int32) (T : List Tm) (DL : List (Int32 × Int32)) (dev : Nat → DV) (sto : Nat → ST) (ws : List (Tm × Int32)) (dir reg : Nat → Tm) (seen : List Tm) (ls : List RL) (lo : Nat → Int32) (R : RR) : Prop := ((∀ p, p < 6 → tv T (A 16 p) (dev p).1) ∧ (∀ p, p < 6 → qDv (fun j => A 14 (1602 * p + j)) T (dev p)) ∧ ∀ p, p < 6 → qSt A T p (sto p)) ∧ (qWi f A T ws ∧ (∀ i, i < 30 → tv T (A 17 i) (dir i)) ∧ (∀ i, i < 32 → tv T (A 45 i) (reg i)) ∧ f 63 = nI seen.length ∧ seen.length ≤ 2400 ∧ ∀ (i : Nat) (X : Tm), seen[i]? = some X → tv T (A 46 i) X) ∧ (qLs f A T ls ∧ A 13 = lo) ∧ RSd f A DL R
section
variable {f f' : Nat → Int32} {A A' : Nat → Nat → Int32} {T T' : List Tm} {DL DL' : List (Int32 × Int32)} {dev dev' : Nat → DV} {sto sto' : Nat → ST} {ws ws' : List (Tm × Int32)} {dir reg : Nat → Tm} {seen : List Tm} {ls ls' : List RL} {lo lo' : Nat → Int32} {R : RR}
theorem qWi_m (hT : T <+: T') (e40 : f' 40 = f 40) (e28 : A' 28 = A 28) (e29 : A' 29 = A 29) (h : qWi f A T ws) : qWi f' A' T' ws := ⟨⟨e40.trans h.1.1, h.1.2⟩, fun i e he => by rw [e28, e29]; exact ⟨tv_mono hT (h.2 i e he).1, (h.2 i e he).2⟩⟩
theorem qLs_m (hT : T <+: T') (e43 : f' 43 = f 43) (e : ∀ j, 30 ≤ j → j ≤ 38 → A' j = A j) (h : qLs f A T ls) : qLs f' A' T' ls := ⟨⟨e43.trans h.1.1, h.1.2⟩, fun i x hx => qL1_c hT (h.2 i x hx) (fun j h1 h2 _ => by rw [e j h1 h2]) (fun p _ => by rw [e 37 (by decide) (by decide)])⟩
theorem RSd_c (e : f' 11 = f 11 ∧ f' 21 = f 21 ∧ f' 53 = f 53 ∧ f' 54 = f 54) (eA : A' 10 = A 10 ∧ A' 11 = A 11 ∧ A' 12 = A 12 ∧ A' 24 = A 24 ∧ A' 25 = A 25 ∧ A' 39 = A 39 ∧ A' 40 = A 40 ∧ A' 41 = A 41 ∧ A' 42 = A 42) (h : RSd f A DL R) : RSd f' A' DL R := by
  obtain ⟨dt, db, rt, fl, ll, tl, tf, tg, tm, ck, fo, du⟩ := R
  obtain ⟨⟨h1, h2, h3, h4⟩, ⟨h5, h6, h7⟩, ⟨h8, h9⟩, h10, h11, h12, h13⟩ := h
  obtain ⟨e1, e2, e3, e4, e5, e6, e7, e8, e9⟩ := eA
  exact ⟨⟨e.1.trans h1, e.2.1.trans h2, e.2.2.1.trans h3, e.2.2.2.trans h4⟩, ⟨e1.trans h5, e2.trans h6, e3.trans h7⟩, ⟨e4.trans h8, e5.trans h9⟩, e6.trans h10, e7.trans h11, e8.trans h12, e9.trans h13⟩
/-- all of it, with other devices, stores, wires and letters -/
theorem RS_up (hS : RS f A T DL dev sto ws dir reg seen ls lo R) (e : f' 11 = f 11 ∧ f' 21 = f 21 ∧ f' 53 = f 53 ∧ f' 54 = f 54) (e63 : f' 63 = f 63) (eA : A' 10 = A 10 ∧ A' 11 = A 11 ∧ A' 12 = A 12 ∧ A' 24 = A 24 ∧ A' 25 = A 25 ∧ A' 39 = A 39 ∧ A' 40 = A 40 ∧ A' 41 = A 41 ∧ A' 42 = A 42) (eB : A' 16 = A 16 ∧ A' 17 = A 17 ∧ A' 45 = A 45 ∧ A' 46 = A 46) (hid : ∀ p, p < 6 → (dev' p).1 = (dev p).1) (hd : ∀ p, p < 6 → qDv (fun j => A' 14 (1602 * p + j)) T (dev' p)) (hs : ∀ p, p < 6 → qSt A' T p (sto' p)) (hw : qWi f' A' T ws') (hl : qLs f' A' T ls') (h13 : A' 13 = lo') : RS f' A' T DL dev' sto' ws' dir reg seen ls' lo' R := by
  obtain ⟨⟨h1, h2, h3⟩, ⟨h4, h5, h6, h7, h8, h9⟩, _, h11⟩ := hS
  obtain ⟨e1, e2, e3, e4⟩ := eB
  exact ⟨⟨fun p hp => by rw [e1, hid p hp]; exact h1 p hp, hd, hs⟩, ⟨hw, fun i hi => by rw [e2]; exact h5 i hi, fun i hi => by rw [e3]; exact h6 i hi, e63.trans h7, h8, fun i X hX => by rw [e4]; exact h9 i X hX⟩, ⟨hl, h13⟩, RSd_c e eA h11⟩
theorem RS_m (hT : T <+: T') (hS : RS f A T DL dev sto ws dir reg seen ls lo R) : RS f A T' DL dev sto ws dir reg seen ls lo R := by
  obtain ⟨⟨h1, h2, h3⟩, ⟨h4, h5, h6, h7, h8, h9⟩, ⟨h10, h12⟩, h11⟩ := hS
  exact ⟨⟨fun p hp => tv_mono hT (h1 p hp), fun p hp => qDv_c hT (fun _ _ => rfl) (h2 p hp), fun p hp => qSt_m hT (h3 p hp)⟩, ⟨qWi_m hT rfl rfl rfl h4, fun i hi => tv_mono hT (h5 i hi), fun i hi => tv_mono hT (h6 i hi), h7, h8, fun i X hX => tv_mono hT (h9 i X hX)⟩, ⟨qLs_m hT rfl (fun _ _ _ => rfl) h10, h12⟩, h11⟩
theorem dev_keep {g : Nat → Int32} {p : Nat} {D : DV} {w : Nat → Int32} (hd : ∀ q, q < 6 → qDv (fun j => A 14 (1602 * q + j)) T (dev q)) (hp : p < 6) (hD : qDv w T D) (g1 : ∀ j, j < 1602 → g (1602 * p + j) = w j) (g2 : ∀ j, (j < 1602 * p ∨ 1602 * p + 1602 ≤ j) → g j = A 14 j) : ∀ q, q < 6 → qDv (fun j => g (1602 * q + j)) T (fset dev p D q) := fun q hq => by
  by_cases c : q = p
  · rw [c, fset_same]
    exact qDv_c (List.prefix_refl T) g1 hD
  · rw [fset_ne c]
    exact qDv_c (List.prefix_refl T) (fun k hk => g2 _ (by omega)) (hd q hq)
theorem sto_up {p : Nat} {s : ST} {A' : Nat → Nat → Int32} (hs : ∀ q, q < 6 → qSt A T q (sto q)) (hp : p < 6) (h1 : qSt A' T p s) (e20 : ∀ h, h ≠ 2 * p → h ≠ 2 * p + 1 → A' 20 h = A 20 h) (e19 : ∀ h b, b < 75 → h ≠ 2 * p → h ≠ 2 * p + 1 → A' 19 (75 * h + b) = A 19 (75 * h + b)) (e18 : ∀ h j, j < 1200 → h ≠ 2 * p → h ≠ 2 * p + 1 → A' 18 (1200 * h + j) = A 18 (1200 * h + j)) (e21 : ∀ q, q ≠ p → A' 21 q = A 21 q) (e22 : ∀ q, q ≠ p → A' 22 q = A 22 q) (e23 : ∀ q, q ≠ p → A' 23 q = A 23 q) : ∀ q, q < 6 → qSt A' T q (fset sto p s q) := fun q hq => by
  by_cases c : q = p
  · rw [c, fset_same]; exact h1
  · rw [fset_ne c]
    exact qSt_c (List.prefix_refl T) (e21 q c) (e22 q c) (e23 q c) (fun o ho => e20 _ (by omega) (by omega)) (fun o x ho hx => e19 _ x hx (by omega) (by omega)) (fun o x ho hx => e18 _ x hx (by omega) (by omega)) (hs q hq)
end
section
variable {f f' : Nat → Int32} {A A' : Nat → Nat → Int32} {T : List Tm} {DL : List (Int32 × Int32)} {dev : Nat → DV} {sto : Nat → ST} {ws ws' : List (Tm × Int32)} {dir reg : Nat → Tm} {seen : List Tm} {ls ls' : List RL} {lo lo' : Nat → Int32} {R : RR} {p m : Nat} {b : Bool} {P O W : EN2} {c : Option Nat} {w : Nat → Int32}
theorem cm_id {D : DV} (hDi : D.1 = (dev p).1) : ∀ q, q < 6 → (fset dev p D q).1 = (dev q).1 := fun q _ => by
  by_cases k : q = p
  · rw [k, fset_same]; exact hDi
  · rw [fset_ne k]
theorem cm_0 (hS : RS f A T DL dev sto ws dir reg seen ls lo R) (hp : p < 6) (hst : sto p = (b, P, O, c, false)) {en : Nat → Int32} (hE : EN en T W 0) (hW : W.length ≤ 536) (hm : m ≤ bk W.length) (e18 : A' 18 = stW (A 18) en (2 * p + (1 - sh b)) (min (16 * m) (2 * W.length))) (e19 : A' 19 = thW (A 19) (2 * p + (1 - sh b)) m 1) (e20 : A' 20 = upd (A 20) (2 * p + (1 - sh b)) (nI W.length)) (e21 : A' 21 = A 21) (e22 : A' 22 = upd (A 22) p 1) (e23 : A' 23 = upd (A 23) p (-1)) (e14 : A' 14 = A 14) (e13 : A' 13 = A 13) (ew : f' 40 = f 40 ∧ A' 28 = A 28 ∧ A' 29 = A 29) (el : f' 43 = f 43) (eL : ∀ j, 30 ≤ j → j ≤ 38 → A' j = A j) (e : f' 11 = f 11 ∧ f' 21 = f 21 ∧ f' 53 = f 53 ∧ f' 54 = f 54) (e63 : f' 63 = f 63) (eA : A' 10 = A 10 ∧ A' 11 = A 11 ∧ A' 12 = A 12 ∧ A' 24 = A 24 ∧ A' 25 = A 25 ∧ A' 39 = A 39 ∧ A' 40 = A 40 ∧ A' 41 = A 41 ∧ A' 42 = A 42) (eB : A' 16 = A 16 ∧ A' 17 = A 17 ∧ A' 45 = A 45 ∧ A' 46 = A 46) : RS f' A' T DL dev (fset sto p (b, P, W.take (8 * m), none, true)) ws dir reg seen ls lo R := by
  have hs := sh_lt b
  have hb67 := bk_67 hW
  have h0 := hS.1.2.2 p hp
  rw [hst] at h0
  refine RS_up hS e e63 eA eB (fun _ _ => rfl) (fun q hq => ?_) (sto_up hS.1.2.2 hp (st_lost h0 hE hW hm e18 e19 e20 (by rw [e21]) (by rw [e22, upd_same]) (by rw [e23, upd_same])) (fun h h1 h2 => ?_) (fun h x hx h1 h2 => ?_) (fun h x hx h1 h2 => ?_) (fun q hq => by rw [e21]) (fun q hq => by rw [e22, upd_ne hq]) (fun q hq => by rw [e23, upd_ne hq])) (qWi_m (List.prefix_refl T) ew.1 ew.2.1 ew.2.2 hS.2.1.1) (qLs_m (List.prefix_refl T) el eL hS.2.2.1.1) (e13.trans hS.2.2.1.2)
  · rw [e14]; exact hS.1.2.1 q hq
  · rw [e20, upd_ne (by omega)]
  · rw [e19, thW_at hx (by omega), if_neg (by omega)]
  · rw [e18, stW_at hx (by omega), if_neg (by omega)]
theorem cm_1 (hS : RS f A T DL dev sto ws dir reg seen ls lo R) (hp : p < 6) (hst : sto p = (b, P, O, c, false)) {en : Nat → Int32} (hE : EN en T W 0) (hW : W.length ≤ 536) (hm : bk W.length < m) (hm2 : m < bk W.length + 1 + bk P.length) (e18 : A' 18 = stW (A 18) en (2 * p + (1 - sh b)) (2 * W.length)) (e19 : A' 19 = thW (thW (A 19) (2 * p + (1 - sh b)) (bk W.length) 1) (2 * p + sh b) (min (bk P.length) (m - bk W.length - 1)) 0) (e20 : A' 20 = upd (A 20) (2 * p + (1 - sh b)) (nI W.length)) (e21 : A' 21 = upd (A 21) p (nI (1 - sh b))) (e22 : A' 22 = upd (A 22) p 1) (e23 : A' 23 = upd (A 23) p (-1)) {D : DV} (hD : qDv w T D) (hDi : D.1 = (dev p).1) (g1 : ∀ j, j < 1602 → A' 14 (1602 * p + j) = w j) (g2 : ∀ j, (j < 1602 * p ∨ 1602 * p + 1602 ≤ j) → A' 14 j = A 14 j) (e13 : A' 13 = A 13) (ew : f' 40 = f 40 ∧ A' 28 = A 28 ∧ A' 29 = A 29) (el : f' 43 = f 43) (eL : ∀ j, 30 ≤ j → j ≤ 38 → A' j = A j) (e : f' 11 = f 11 ∧ f' 21 = f 21 ∧ f' 53 = f 53 ∧ f' 54 = f 54) (e63 : f' 63 = f 63) (eA : A' 10 = A 10 ∧ A' 11 = A 11 ∧ A' 12 = A 12 ∧ A' 24 = A 24 ∧ A' 25 = A 25 ∧ A' 39 = A 39 ∧ A' 40 = A 40 ∧ A' 41 = A 41 ∧ A' 42 = A 42) (eB : A' 16 = A 16 ∧ A' 17 = A 17 ∧ A' 45 = A 45 ∧ A' 46 = A 46) : RS f' A' T DL (fset dev p D) (fset sto p (!b, W, P.drop (8 * (m - bk W.length - 1)), none, true)) ws dir reg seen ls lo R := by
  have hs := sh_lt b
  have hb67 := bk_67 hW
  have h0 := hS.1.2.2 p hp
  rw [hst] at h0
  have hP := (st_other h0).2
  have hbP := bk_67 hP
  rw [show min (bk P.length) (m - bk W.length - 1) = m - bk W.length - 1 by omega] at e19
  obtain ⟨q1, q2⟩ := st_switch h0 hE hW (by omega) e18 e19 (by rw [e20, upd_same]) (by rw [e20, upd_ne (by omega)])
  refine RS_up hS e e63 eA eB (cm_id hDi) (dev_keep hS.1.2.1 hp hD g1 g2) (sto_up hS.1.2.2 hp ⟨⟨?_, by rw [e23, upd_same]; rfl, by rw [e22, upd_same]; rfl, fun k q => nomatch q⟩, q1, P, m - bk W.length - 1, bk P.length, ?_, ?_, fun q => nomatch q⟩ (fun h h1 h2 => ?_) (fun h x hx h1 h2 => ?_) (fun h x hx h1 h2 => ?_) (fun q hq => by rw [e21, upd_ne hq]) (fun q hq => by rw [e22, upd_ne hq]) (fun q hq => by rw [e23, upd_ne hq])) (qWi_m (List.prefix_refl T) ew.1 ew.2.1 ew.2.2 hS.2.1.1) (qLs_m (List.prefix_refl T) el eL hS.2.2.1.1) (e13.trans hS.2.2.1.2)
  · rw [e21, upd_same, bz_sh, sh_not]
  · rw [Bool.not_not]; exact q2
  · rw [List.take_of_length_le (bk_ge _)]
  · rw [e20, upd_ne (by omega)]
  · rw [e19, thW_at hx (by omega), if_neg (by omega), thW_at hx (by omega), if_neg (by omega)]
  · rw [e18, stW_at hx (by omega), if_neg (by omega)]
theorem cm_2 (hS : RS f A T DL dev sto ws dir reg seen ls lo R) (hp : p < 6) (hst : sto p = (b, P, O, c, false)) {en : Nat → Int32} (hE : EN en T W 0) (hW : W.length ≤ 536) (e18 : A' 18 = stW (A 18) en (2 * p + (1 - sh b)) (2 * W.length)) (e19 : A' 19 = thW (thW (A 19) (2 * p + (1 - sh b)) (bk W.length) 1) (2 * p + sh b) (bk P.length) 0) (e20 : A' 20 = upd (upd (A 20) (2 * p + (1 - sh b)) (nI W.length)) (2 * p + sh b) 0) (e21 : A' 21 = upd (A 21) p (nI (1 - sh b))) (e22 : A' 22 = A 22) (e23 : A' 23 = upd (A 23) p (-1)) {D : DV} (hD : qDv w T D) (hDi : D.1 = (dev p).1) (g1 : ∀ j, j < 1602 → A' 14 (1602 * p + j) = w j) (g2 : ∀ j, (j < 1602 * p ∨ 1602 * p + 1602 ≤ j) → A' 14 j = A 14 j) (hw : qWi f' A' T ws') (hl : qLs f' A' T ls') (h13 : A' 13 = lo') (e : f' 11 = f 11 ∧ f' 21 = f 21 ∧ f' 53 = f 53 ∧ f' 54 = f 54) (e63 : f' 63 = f 63) (eA : A' 10 = A 10 ∧ A' 11 = A 11 ∧ A' 12 = A 12 ∧ A' 24 = A 24 ∧ A' 25 = A 25 ∧ A' 39 = A 39 ∧ A' 40 = A 40 ∧ A' 41 = A 41 ∧ A' 42 = A 42) (eB : A' 16 = A 16 ∧ A' 17 = A 17 ∧ A' 45 = A 45 ∧ A' 46 = A 46) : RS f' A' T DL (fset dev p D) (fset sto p (!b, W, [], none, false)) ws' dir reg seen ls' lo' R := by
  have hs := sh_lt b
  have hb67 := bk_67 hW
  have h0 := hS.1.2.2 p hp
  rw [hst] at h0
  have hP := (st_other h0).2
  have hbP := bk_67 hP
  obtain ⟨q1, q2⟩ := st_switch (A' := fset A' 20 (upd (A 20) (2 * p + (1 - sh b)) (nI W.length))) h0 hE hW (Nat.le_refl _) e18 e19 (by show upd _ _ _ _ = _; rw [upd_same]) (by show upd _ _ _ _ = _; rw [upd_ne (by omega)])
  have q1' : qHf A' T (2 * p + sh (!b)) W 0 (bk W.length) := qHf_c (A := fset A' 20 (upd (A 20) (2 * p + (1 - sh b)) (nI W.length))) (List.prefix_refl T) (by show A' 20 _ = upd _ _ _ _; rw [e20, sh_not, upd_ne (by omega)]) (fun _ _ => rfl) (fun _ _ => rfl) q1
  refine RS_up hS e e63 eA eB (cm_id hDi) (dev_keep hS.1.2.1 hp hD g1 g2) (sto_up hS.1.2.2 hp ⟨⟨?_, by rw [e23, upd_same]; rfl, by rw [e22]; exact h0.1.2.2.1, fun k q => nomatch q⟩, q1', [], 0, 0, ?_, rfl, fun _ => ⟨rfl, rfl⟩⟩ (fun h h1 h2 => ?_) (fun h x hx h1 h2 => ?_) (fun h x hx h1 h2 => ?_) (fun q hq => by rw [e21, upd_ne hq]) (fun q hq => by rw [e22]) (fun q hq => by rw [e23, upd_ne hq])) hw hl h13
  · rw [e21, upd_same, bz_sh, sh_not]
  · rw [Bool.not_not]
    refine ⟨⟨by rw [e20, upd_same]; rfl, Nat.zero_le _, Nat.zero_le _⟩, fun x hx => ?_, fun i e he => by cases he⟩
    have k := q2.2.1 x hx
    rw [show decide (bk P.length ≤ x ∧ x < bk P.length) = false from decide_eq_false (by omega)] at k
    rw [show decide (0 ≤ x ∧ x < 0) = false from decide_eq_false (by omega)]
    exact k
  · rw [e20, upd_ne (by omega), upd_ne (by omega)]
  · rw [e19, thW_at hx (by omega), if_neg (by omega), thW_at hx (by omega), if_neg (by omega)]
  · rw [e18, stW_at hx (by omega), if_neg (by omega)]
end
def mjCf (g f : Nat → Int32) : Nat → Int32 := fun k => if k = 16 ∨ k = 38 ∨ k = 40 ∨ k = 43 then g k else f k
def mjCA (B A : Nat → Nat → Int32) : Nat → Nat → Int32 := fun j => if j = 5 ∨ j = 13 ∨ j = 14 ∨ (18 ≤ j ∧ j ≤ 23) ∨ (27 ≤ j ∧ j ≤ 38) then B j else A j
theorem mjCf_of {g f : Nat → Int32} (h : ∀ k, ¬ (k = 16 ∨ k = 38 ∨ k = 40 ∨ k = 43) → g k = f k) : mjCf g f = g := by
  funext j
  unfold mjCf
  split
  · rfl
  · rename_i q; exact (h j q).symm
theorem mjCA_of {B A : Nat → Nat → Int32} (h : ∀ j, ¬ (j = 5 ∨ j = 13 ∨ j = 14 ∨ (18 ≤ j ∧ j ≤ 23) ∨ (27 ≤ j ∧ j ≤ 38)) → B j = A j) : mjCA B A = B := by
  funext j
  unfold mjCA
  split
  · rfl
  · rename_i q; exact (h j q).symm
