/-! The reference's terms: its table tells a list of trees -/
/-- number x is part P, and comes before i -/
def pv (T : List Tm) (i : Nat) (x : Int32) (P : Tm) : Prop := ∃ p, x = nI p ∧ p < i ∧ T[p]? = some P
def pn (T : List Tm) (i : Nat) (x : Int32) (P : Tm) : Prop := pv T i x P ∧ P ≠ tz
/-- what, one, two, three and a row tell the tree X; its parts come before i -/
def tkr (w a b c : Int32) (r : Nat → Int32) (T : List Tm) (DL : List (Int32 × Int32)) (i : Nat) (X : Tm) : Prop :=
  (w = 1 ∧ b = 0 ∧ c = 0 ∧ ∃ m d p, a = nI m ∧ DL[m]? = some (d, p) ∧ X = Tsec (nI m) d p) ∨
  (w = 2 ∧ b = 0 ∧ c = 0 ∧ ∃ P, pv T i a P ∧ kd P = 1 ∧ X = Tpub P) ∨
  (w = 3 ∧ c = 0 ∧ ∃ P R, pv T i a P ∧ pv T i b R ∧ kd P = 1 ∧ kd R = 1 ∧ X = Tsh0 P R) ∨
  (w = 4 ∧ ∃ P R, pv T i b P ∧ pv T i c R ∧ X = Tmx a P R) ∨
  (w = 5 ∧ ∃ P R S, pn T i a P ∧ pn T i b R ∧ pn T i c S ∧ X = Tsl P R S) ∨
  (w = 6 ∧ c = 0 ∧ ∃ P R, pn T i a P ∧ pn T i b R ∧ X = Tsg P R) ∨
  (w = 7 ∧ b = 0 ∧ c = 0 ∧ ∃ P0 P1 P2 P3, pv T i (r 4) P0 ∧ pv T i (r 5) P1 ∧ pv T i (r 6) P2 ∧ pv T i (r 7) P3 ∧ X = Trw a (r 0) (r 1) (r 2) (r 3) P0 P1 P2 P3)
def ndp (T : List Tm) : Prop := ∀ (i j : Nat) (X : Tm), T[i]? = some X → T[j]? = some X → i = j
theorem pv_inj {T : List Tm} {i i' : Nat} {x x' : Int32} {P : Tm} (hn : ndp T) (h : pv T i x P) (h' : pv T i' x' P) : x = x' := by
  obtain ⟨p, e, -, h⟩ := h
  obtain ⟨p', e', -, h'⟩ := h'
  rw [e, e', hn p p' P h h']
theorem pv_fun {T : List Tm} {i i' : Nat} {x : Int32} {P P' : Tm} (hl : T.length < 2 ^ 31) (h : pv T i x P) (h' : pv T i' x P') : P = P' := by
  obtain ⟨p, e, -, h⟩ := h
  obtain ⟨p', e', -, h'⟩ := h'
  have := (nI_eq (Nat.lt_trans (tv_lt h) hl) (Nat.lt_trans (tv_lt h') hl)).mp (e.symm.trans e')
  subst this
  rw [h] at h'
  exact Option.some.inj h'
theorem pv_mono {T T' : List Tm} {i i' : Nat} {x : Int32} {P : Tm} (hp : T <+: T') (hi : i ≤ i') (h : pv T i x P) : pv T' i' x P := by
  obtain ⟨p, e, h1, h⟩ := h
  exact ⟨p, e, by omega, (pre_get hp (tv_lt h)).trans h⟩
theorem tkr_mono {w a b c : Int32} {r : Nat → Int32} {T T' : List Tm} {DL DL' : List (Int32 × Int32)} {i i' : Nat} {X : Tm} (hp : T <+: T') (hd : DL <+: DL') (hi : i ≤ i') (h : tkr w a b c r T DL i X) : tkr w a b c r T' DL' i' X := by
  rcases h with ⟨h1, h2, h3, m, d, p, h4, h5, h6⟩ | ⟨h1, h2, h3, P, h4, h5, h6⟩ | ⟨h1, h2, P, R, h3, h4, h5⟩ | ⟨h1, P, R, h2, h3, h4⟩ | ⟨h1, P, R, S, h2, h3, h4, h5⟩ | ⟨h1, h2, P, R, h3, h4, h5⟩ | ⟨h1, h2, h3, P0, P1, P2, P3, h4, h5, h6, h7, h8⟩
  · exact Or.inl ⟨h1, h2, h3, m, d, p, h4, (pre_get hd (List.getElem?_eq_some_iff.mp h5).1).trans h5, h6⟩
  · exact Or.inr (Or.inl ⟨h1, h2, h3, P, pv_mono hp hi h4, h5, h6⟩)
  · exact Or.inr (Or.inr (Or.inl ⟨h1, h2, P, R, pv_mono hp hi h3, pv_mono hp hi h4, h5⟩))
  · exact Or.inr (Or.inr (Or.inr (Or.inl ⟨h1, P, R, pv_mono hp hi h2, pv_mono hp hi h3, h4⟩)))
  · exact Or.inr (Or.inr (Or.inr (Or.inr (Or.inl ⟨h1, P, R, S, ⟨pv_mono hp hi h2.1, h2.2⟩, ⟨pv_mono hp hi h3.1, h3.2⟩, ⟨pv_mono hp hi h4.1, h4.2⟩, h5⟩))))
  · exact Or.inr (Or.inr (Or.inr (Or.inr (Or.inr (Or.inl ⟨h1, h2, P, R, ⟨pv_mono hp hi h3.1, h3.2⟩, ⟨pv_mono hp hi h4.1, h4.2⟩, h5⟩)))))
  · exact Or.inr (Or.inr (Or.inr (Or.inr (Or.inr (Or.inr ⟨h1, h2, h3, P0, P1, P2, P3, pv_mono hp hi h4, pv_mono hp hi h5, pv_mono hp hi h6, pv_mono hp hi h7, h8⟩)))))
theorem tkr_kd {w a b c : Int32} {r : Nat → Int32} {T : List Tm} {DL : List (Int32 × Int32)} {i : Nat} {X : Tm} (h : tkr w a b c r T DL i X) : kd X = w := by
  rcases h with ⟨h1, h2, h3, m, d, p, h4, h5, rfl⟩ | ⟨h1, h2, h3, P, h4, h5, rfl⟩ | ⟨h1, h2, P, R, h3, h4, h5, h6, rfl⟩ | ⟨h1, P, R, h2, h3, rfl⟩ | ⟨h1, P, R, S, h2, h3, h4, rfl⟩ | ⟨h1, h2, P, R, h3, h4, rfl⟩ | ⟨h1, h2, h3, P0, P1, P2, P3, h4, h5, h6, h7, rfl⟩ <;> (rw [h1]; rfl)
theorem tkr_w {w a b c : Int32} {r : Nat → Int32} {T : List Tm} {DL : List (Int32 × Int32)} {i : Nat} {X : Tm} (h : tkr w a b c r T DL i X) : w = 1 ∨ w = 2 ∨ w = 3 ∨ w = 4 ∨ w = 5 ∨ w = 6 ∨ w = 7 := by
  rcases h with h | h | h | h | h | h | h
  · exact Or.inl h.1
  · exact Or.inr (Or.inl h.1)
  · exact Or.inr (Or.inr (Or.inl h.1))
  · exact Or.inr (Or.inr (Or.inr (Or.inl h.1)))
  · exact Or.inr (Or.inr (Or.inr (Or.inr (Or.inl h.1))))
  · exact Or.inr (Or.inr (Or.inr (Or.inr (Or.inr (Or.inl h.1)))))
  · exact Or.inr (Or.inr (Or.inr (Or.inr (Or.inr (Or.inr h.1)))))
theorem tkr_nz {w a b c : Int32} {r : Nat → Int32} {T : List Tm} {DL : List (Int32 × Int32)} {i : Nat} {X : Tm} (h : tkr w a b c r T DL i X) : X ≠ tz := fun e => by
  have h1 := tkr_kd h
  rw [e] at h1
  have h2 : (0 : Int32) = w := h1
  rcases tkr_w h with h | h | h | h | h | h | h <;> (rw [h] at h2; exact absurd h2 (by decide))
theorem tkr_sp {w a b c : Int32} {r : Nat → Int32} {T : List Tm} {DL : List (Int32 × Int32)} {i : Nat} {X : Tm} (h : tkr w a b c r T DL i X) : Tsp X := by
  rcases h with ⟨h1, h2, h3, m, d, p, h4, h5, rfl⟩ | ⟨h1, h2, h3, P, h4, h5, rfl⟩ | ⟨h1, h2, P, R, h3, h4, h5, h6, rfl⟩ | ⟨h1, P, R, h2, h3, rfl⟩ | ⟨h1, P, R, S, h2, h3, h4, rfl⟩ | ⟨h1, h2, P, R, h3, h4, rfl⟩ | ⟨h1, h2, h3, P0, P1, P2, P3, h4, h5, h6, h7, rfl⟩
  · exact Or.inr (Or.inl ⟨_, _, _, rfl⟩)
  · exact Or.inr (Or.inr (Or.inl ⟨_, h5, rfl⟩))
  · exact Or.inr (Or.inr (Or.inr (Or.inl ⟨_, _, h5, h6, rfl⟩)))
  · exact Or.inr (Or.inr (Or.inr (Or.inr (Or.inl ⟨_, _, _, rfl⟩))))
  · exact Or.inr (Or.inr (Or.inr (Or.inr (Or.inr (Or.inl ⟨_, _, _, rfl⟩)))))
  · exact Or.inr (Or.inr (Or.inr (Or.inr (Or.inr (Or.inr (Or.inl ⟨_, _, rfl⟩))))))
  · exact Or.inr (Or.inr (Or.inr (Or.inr (Or.inr (Or.inr (Or.inr ⟨_, _, _, _, _, _, _, _, _, rfl⟩))))))
/-- one tree, one key -/
theorem tkr_key {w a b c w' a' b' c' : Int32} {r r' : Nat → Int32} {T : List Tm} {DL : List (Int32 × Int32)} {i i' : Nat} {X : Tm} (hn : ndp T) (h : tkr w a b c r T DL i X) (h' : tkr w' a' b' c' r' T DL i' X) : w = w' ∧ a = a' ∧ b = b' ∧ c = c' ∧ (w = 7 → ∀ k, k < 8 → r k = r' k) := by
  have hw : w = w' := (tkr_kd h).symm.trans (tkr_kd h')
  subst hw
  rcases h with ⟨h1, h2, h3, m, d, p, h4, h5, h6⟩ | ⟨h1, h2, h3, P, h4, h5, h6⟩ | ⟨h1, h2, P, R, h3, h4, h5, h5', h6⟩ | ⟨h1, P, R, h2, h3, h4⟩ | ⟨h1, P, R, S, h2, h3, h4, h5⟩ | ⟨h1, h2, P, R, h3, h4, h5⟩ | ⟨h1, h2, h3, P0, P1, P2, P3, h4, h5, h6, h7, h8⟩ <;>
  rcases h' with ⟨g1, g2, g3, m', d', p', g4, g5, g6⟩ | ⟨g1, g2, g3, P', g4, g5, g6⟩ | ⟨g1, g2, P', R', g3, g4, g5, g5', g6⟩ | ⟨g1, P', R', g2, g3, g4⟩ | ⟨g1, P', R', S', g2, g3, g4, g5⟩ | ⟨g1, g2, P', R', g3, g4, g5⟩ | ⟨g1, g2, g3, P0', P1', P2', P3', g4, g5, g6, g7, g8⟩ <;>
  first
  | exact absurd (h1.symm.trans g1) (by decide)
  | skip
  · obtain ⟨e, -⟩ := tn_inj (h6.symm.trans g6)
    simp only [List.cons.injEq] at e
    exact ⟨rfl, by rw [h4, g4]; exact e.2.1, by rw [h2, g2], by rw [h3, g3], fun q => absurd (h1.symm.trans q) (by decide)⟩
  · obtain ⟨-, e, -⟩ := tn_inj (h6.symm.trans g6)
    subst e
    exact ⟨rfl, pv_inj hn h4 g4, by rw [h2, g2], by rw [h3, g3], fun q => absurd (h1.symm.trans q) (by decide)⟩
  · obtain ⟨-, e1, e2, -⟩ := tn_inj (h6.symm.trans g6)
    subst e1; subst e2
    exact ⟨rfl, pv_inj hn h3 g3, pv_inj hn h4 g4, by rw [h2, g2], fun q => absurd (h1.symm.trans q) (by decide)⟩
  · obtain ⟨e, e1, e2, -⟩ := tn_inj (h4.symm.trans g4)
    subst e1; subst e2
    simp only [List.cons.injEq] at e
    exact ⟨rfl, e.2.1, pv_inj hn h2 g2, pv_inj hn h3 g3, fun q => absurd (h1.symm.trans q) (by decide)⟩
  · obtain ⟨-, e1, e2, e3, -⟩ := tn_inj (h5.symm.trans g5)
    subst e1; subst e2; subst e3
    exact ⟨rfl, pv_inj hn h2.1 g2.1, pv_inj hn h3.1 g3.1, pv_inj hn h4.1 g4.1, fun q => absurd (h1.symm.trans q) (by decide)⟩
  · obtain ⟨-, e1, e2, -⟩ := tn_inj (h5.symm.trans g5)
    subst e1; subst e2
    exact ⟨rfl, pv_inj hn h3.1 g3.1, pv_inj hn h4.1 g4.1, by rw [h2, g2], fun q => absurd (h1.symm.trans q) (by decide)⟩
  · obtain ⟨e, e0, e1, e2, e3⟩ := tn_inj (h8.symm.trans g8)
    subst e0; subst e1; subst e2; subst e3
    simp only [List.cons.injEq] at e
    refine ⟨rfl, e.2.1, by rw [h2, g2], by rw [h3, g3], fun _ k hk => ?_⟩
    rcases (by omega : k = 0 ∨ k = 1 ∨ k = 2 ∨ k = 3 ∨ k = 4 ∨ k = 5 ∨ k = 6 ∨ k = 7) with rfl | rfl | rfl | rfl | rfl | rfl | rfl | rfl
    · exact e.2.2.1
    · exact e.2.2.2.1
    · exact e.2.2.2.2.1
    · exact e.2.2.2.2.2.1
    · exact pv_inj hn h4 g4
    · exact pv_inj hn h5 g5
    · exact pv_inj hn h6 g6
    · exact pv_inj hn h7 g7
/-- one key, one tree -/
theorem tkr_tree {w a b c : Int32} {r r' : Nat → Int32} {T : List Tm} {DL : List (Int32 × Int32)} {i i' : Nat} {X X' : Tm} (hl : T.length < 2 ^ 31) (hd : DL.length < 2 ^ 31) (h : tkr w a b c r T DL i X) (h' : tkr w a b c r' T DL i' X') (hr : w = 7 → ∀ k, k < 8 → r k = r' k) : X = X' := by
  rcases h with ⟨h1, h2, h3, m, d, p, h4, h5, h6⟩ | ⟨h1, h2, h3, P, h4, h5, h6⟩ | ⟨h1, h2, P, R, h3, h4, h5, h5', h6⟩ | ⟨h1, P, R, h2, h3, h4⟩ | ⟨h1, P, R, S, h2, h3, h4, h5⟩ | ⟨h1, h2, P, R, h3, h4, h5⟩ | ⟨h1, h2, h3, P0, P1, P2, P3, h4, h5, h6, h7, h8⟩ <;>
  rcases h' with ⟨g1, g2, g3, m', d', p', g4, g5, g6⟩ | ⟨g1, g2, g3, P', g4, g5, g6⟩ | ⟨g1, g2, P', R', g3, g4, g5, g5', g6⟩ | ⟨g1, P', R', g2, g3, g4⟩ | ⟨g1, P', R', S', g2, g3, g4, g5⟩ | ⟨g1, g2, P', R', g3, g4, g5⟩ | ⟨g1, g2, g3, P0', P1', P2', P3', g4, g5, g6, g7, g8⟩ <;>
  first
  | exact absurd (h1.symm.trans g1) (by decide)
  | skip
  · have e := (nI_eq (Nat.lt_trans (List.getElem?_eq_some_iff.mp h5).1 hd) (Nat.lt_trans (List.getElem?_eq_some_iff.mp g5).1 hd)).mp (h4.symm.trans g4)
    subst e
    rw [h5] at g5
    cases g5
    rw [h6, g6]
  · rw [h6, g6, pv_fun hl h4 g4]
  · rw [h6, g6, pv_fun hl h3 g3, pv_fun hl h4 g4]
  · rw [h4, g4, pv_fun hl h2 g2, pv_fun hl h3 g3]
  · rw [h5, g5, pv_fun hl h2.1 g2.1, pv_fun hl h3.1 g3.1, pv_fun hl h4.1 g4.1]
  · rw [h5, g5, pv_fun hl h3.1 g3.1, pv_fun hl h4.1 g4.1]
  · have hr := hr h1
    rw [hr 4 (by decide)] at h4
    rw [hr 5 (by decide)] at h5
    rw [hr 6 (by decide)] at h6
    rw [hr 7 (by decide)] at h7
    rw [h8, g8, pv_fun hl h4 g4, pv_fun hl h5 g5, pv_fun hl h6 g6, pv_fun hl h7 g7, hr 0 (by decide), hr 1 (by decide), hr 2 (by decide), hr 3 (by decide)]
/-- rows among the first terms -/
def rc (w : Nat → Int32) : Nat → Nat
  | 0 => 0
  | i + 1 => rc w i + if w i = 7 then 1 else 0
theorem rc_le (w : Nat → Int32) : ∀ i, rc w i ≤ i
  | 0 => Nat.le_refl _
  | i + 1 => by
    have := rc_le w i
    unfold rc
    split <;> omega
theorem rc_mono (w : Nat → Int32) {i j : Nat} (h : i ≤ j) : rc w i ≤ rc w j := by
  induction j with
  | zero => rw [Nat.le_zero.mp h]; exact Nat.le_refl _
  | succ j ih =>
    rcases Nat.lt_or_ge i (j + 1) with q | q
    · exact Nat.le_trans (ih (by omega)) (Nat.le_add_right _ _)
    · rw [show i = j + 1 by omega]; exact Nat.le_refl _
theorem rc_lt (w : Nat → Int32) {i j : Nat} (h : i < j) (hw : w i = 7) : rc w i < rc w j := by
  have h1 : rc w (i + 1) = rc w i + 1 := by
    show rc w i + (if w i = 7 then 1 else 0) = _
    rw [if_pos hw]
  have := rc_mono w (show i + 1 ≤ j by omega)
  omega
theorem rc_congr {w w' : Nat → Int32} : ∀ {n : Nat}, (∀ i, i < n → w i = w' i) → rc w n = rc w' n
  | 0, _ => rfl
  | n + 1, h => by
    show rc w n + _ = rc w' n + _
    rw [rc_congr (n := n) (fun i hi => h i (by omega)), h n (by omega)]
/-- the hash -/
def mxd (h v : Int32) : Int32 := ((h ^^^ v) * (-1640531535)) ^^^ (((h ^^^ v) * (-1640531535)).toUInt32 >>> ((15 : Int32).toUInt32 &&& Int32.toUInt32 31)).toInt32
def hrw (h : Int32) (r : Nat → Int32) : Int32 := mxd (mxd (mxd (mxd (mxd (mxd (mxd (mxd h (r 0)) (r 1)) (r 2)) (r 3)) (r 4)) (r 5)) (r 6)) (r 7)
def hky (w a b c : Int32) (r : Nat → Int32) : Int32 := if w = 7 then hrw (mxd w a) r else mxd (mxd (mxd w a) b) c
theorem hky_congr {w a b c : Int32} {r r' : Nat → Int32} (h : w = 7 → ∀ k, k < 8 → r k = r' k) : hky w a b c r = hky w a b c r' := by
  unfold hky
  by_cases e : w = 7
  · rw [if_pos e, if_pos e]
    unfold hrw
    rw [h e 0 (by decide), h e 1 (by decide), h e 2 (by decide), h e 3 (by decide), h e 4 (by decide), h e 5 (by decide), h e 6 (by decide), h e 7 (by decide)]
  · rw [if_neg e, if_neg e]
def hix (x : Int32) : Nat := x.toBitVec.toNat % 8192
theorem hix_lt (x : Int32) : hix x < 8192 := Nat.mod_lt _ (by decide)
theorem hix_and (x : Int32) : x &&& 8191 = nI (hix x) := pk_and x 13 (by decide)
theorem nxt_and {p : Nat} (h : p < 8192) : nI (p + 1) &&& 8191 = nI ((p + 1) % 8192) := pk_andN (by omega) 13 (by decide)
/-- the row of a term -/
def mrw (w cl : Nat → Int32) (t : Nat) : Nat → Int32 := fun k => cl (8 * rc w t + k)
def mhs (w o b c cl : Nat → Int32) (t : Nat) : Nat := hix (hky (w t) (o t) (if w t = 7 then 0 else b t) (c t) (mrw w cl t))
def mrow (w o b c cl : Nat → Int32) (T : List Tm) (DL : List (Int32 × Int32)) (i : Nat) (X : Tm) : Prop := (w i = 7 → b i = nI (rc w i)) ∧ tkr (w i) (o i) (if w i = 7 then 0 else b i) (c i) (mrw w cl i) T DL i X
/-- open addressing: term t lies e places behind its hash, and between lie elder ones -/
def mtb (h : Nat → Nat) (tb : Nat → Int32) (n : Nat) : Prop := ∃ sl : Nat → Nat, (∀ t, 0 < t → t < n → tb (sl t) = nI t ∧ ∃ e, e < 8192 ∧ sl t = (h t + e) % 8192 ∧ ∀ k, k < e → ∃ u, 0 < u ∧ u < t ∧ tb ((h t + k) % 8192) = nI u) ∧ ∀ p, p < 8192 → tb p = 0 ∨ ∃ t, 0 < t ∧ t < n ∧ p = sl t
theorem mtb_congr {h h' : Nat → Nat} {tb : Nat → Int32} {n : Nat} (hh : ∀ t, 0 < t → t < n → h t = h' t) (q : mtb h tb n) : mtb h' tb n := by
  obtain ⟨sl, q1, q2⟩ := q
  refine ⟨sl, fun t t0 tn => ?_, q2⟩
  rw [← hh t t0 tn]
  exact q1 t t0 tn
theorem php : ∀ (N m : Nat) (f : Nat → Nat), (∀ i, i < m → f i < N) → (∀ i j, i < m → j < m → f i = f j → i = j) → m ≤ N
  | 0, m, f, h, _ => by
    rcases Nat.eq_zero_or_pos m with e | e
    · omega
    · exact absurd (h 0 e) (by omega)
  | N + 1, m, f, h, hi => by
    by_cases c : ∃ i, i < m ∧ f i = N
    · obtain ⟨i0, h0, e0⟩ := c
      have key := php N (m - 1) (fun i => if i < i0 then f i else f (i + 1)) (fun i hm => by
        by_cases c : i < i0
        · have h1 := h i (by omega)
          have h2 : f i ≠ N := fun e => by have := hi i i0 (by omega) h0 (e.trans e0.symm); omega
          simp only [if_pos c]; omega
        · have h1 := h (i + 1) (by omega)
          have h2 : f (i + 1) ≠ N := fun e => by have := hi (i + 1) i0 (by omega) h0 (e.trans e0.symm); omega
          simp only [if_neg c]; omega) (fun i j a b e => by
        by_cases c : i < i0
        · by_cases c2 : j < i0
          · simp only [if_pos c, if_pos c2] at e; exact hi i j (by omega) (by omega) e
          · simp only [if_pos c, if_neg c2] at e; have := hi i (j + 1) (by omega) (by omega) e; omega
        · by_cases c2 : j < i0
          · simp only [if_neg c, if_pos c2] at e; have := hi (i + 1) j (by omega) (by omega) e; omega
          · simp only [if_neg c, if_neg c2] at e; have := hi (i + 1) (j + 1) (by omega) (by omega) e; omega)
      omega
    · exact Nat.le_succ_of_le (php N m f (fun i hm => by
        have h1 := h i hm
        have h2 : f i ≠ N := fun e => c ⟨i, hm, e⟩
        omega) hi)
/-- there is an empty place -/
theorem mtb_free {h : Nat → Nat} {tb : Nat → Int32} {n : Nat} (hn : n ≤ 4096) (q : mtb h tb n) (h0 : Nat) : ∃ e, e < 8192 ∧ tb ((h0 + e) % 8192) = 0 ∧ ∀ k, k < e → ∃ u, 0 < u ∧ u < n ∧ tb ((h0 + k) % 8192) = nI u := by
  obtain ⟨sl, q1, q2⟩ := q
  have hz : ∃ e, e < 8192 ∧ tb ((h0 + e) % 8192) = 0 := by
    refine Classical.byContradiction fun c => ?_
    have hc : ∀ k, k < 8192 → ∃ t, 0 < t ∧ t < n ∧ (h0 + k) % 8192 = sl t := fun k hk => by
      rcases q2 ((h0 + k) % 8192) (Nat.mod_lt _ (by decide)) with e | e
      · exact absurd ⟨k, hk, e⟩ c
      · exact e
    have hex : ∃ g : Nat → Nat, ∀ k, k < 8192 → 0 < g k ∧ g k < n ∧ (h0 + k) % 8192 = sl (g k) := by
      refine ⟨fun k => if hk : k < 8192 then Classical.choose (hc k hk) else 0, fun k hk => ?_⟩
      simp only [dif_pos hk]
      exact Classical.choose_spec (hc k hk)
    obtain ⟨g, hg⟩ := hex
    have := php n 8192 g (fun i hi => (hg i hi).2.1) (fun i j hi hj e => by
      have a := (hg i hi).2.2
      have b := (hg j hj).2.2
      rw [e, ← b] at a
      omega)
    omega
  have hmin : ∀ m, (∃ e, e < m ∧ tb ((h0 + e) % 8192) = 0) → ∃ e, e < m ∧ tb ((h0 + e) % 8192) = 0 ∧ ∀ k, k < e → ¬ tb ((h0 + k) % 8192) = 0 := by
    intro m
    induction m with
    | zero => intro ⟨e, he, _⟩; omega
    | succ m ih =>
      intro ⟨e, he, hz⟩
      by_cases c : ∃ e, e < m ∧ tb ((h0 + e) % 8192) = 0
      · obtain ⟨e', a, b⟩ := ih c
        exact ⟨e', by omega, b⟩
      · exact ⟨e, he, hz, fun k hk q => c ⟨k, by omega, q⟩⟩
  obtain ⟨e, he, e0, ek⟩ := hmin 8192 hz
  refine ⟨e, he, e0, fun k hk => ?_⟩
  rcases q2 ((h0 + k) % 8192) (Nat.mod_lt _ (by decide)) with c | ⟨t, t0, tn, c⟩
  · exact absurd c (ek k hk)
  · exact ⟨t, t0, tn, by rw [c]; exact (q1 t t0 tn).1⟩
/-- a new term comes to the first empty place -/
theorem mtb_add {h : Nat → Nat} {tb : Nat → Int32} {n e : Nat} (hn : n < 4096) (h1 : 0 < n) (q : mtb h tb n) (he : e < 8192) (hz : tb ((h n + e) % 8192) = 0) (hk : ∀ k, k < e → ∃ u, 0 < u ∧ u < n ∧ tb ((h n + k) % 8192) = nI u) : mtb h (upd tb ((h n + e) % 8192) (nI n)) (n + 1) := by
  obtain ⟨sl, q1, q2⟩ := q
  have hne : ∀ p, tb p ≠ 0 → p ≠ (h n + e) % 8192 := fun p hp e' => hp (by rw [e']; exact hz)
  have hup : ∀ p, tb p ≠ 0 → upd tb ((h n + e) % 8192) (nI n) p = tb p := fun p hp => if_neg (hne p hp)
  have hnz : ∀ u, 0 < u → u < 4096 → nI u ≠ 0 := fun u a b => nI_ne0 a (by omega)
  refine ⟨fun t => if t = n then (h n + e) % 8192 else sl t, fun t t0 tn => ?_, fun p hp => ?_⟩
  · by_cases c : t = n
    · subst c
      simp only [if_true]
      refine ⟨if_pos rfl, e, he, rfl, fun k hke => ?_⟩
      obtain ⟨u, u0, un, eu⟩ := hk k hke
      exact ⟨u, u0, un, by rw [hup _ (by rw [eu]; exact hnz u u0 (by omega))]; exact eu⟩
    · obtain ⟨a, e', b1, b2, b3⟩ := q1 t t0 (by omega)
      simp only [if_neg c]
      refine ⟨by rw [hup _ (by rw [a]; exact hnz t t0 (by omega))]; exact a, e', b1, b2, fun k hke => ?_⟩
      obtain ⟨u, u0, un, eu⟩ := b3 k hke
      exact ⟨u, u0, un, by rw [hup _ (by rw [eu]; exact hnz u u0 (by omega))]; exact eu⟩
  · by_cases c : p = (h n + e) % 8192
    · exact Or.inr ⟨n, h1, by omega, by simp only [if_true]; exact c⟩
    · have e1 : upd tb ((h n + e) % 8192) (nI n) p = tb p := if_neg c
      rw [e1]
      rcases q2 p hp with q | ⟨t, t0, tn, q⟩
      · exact Or.inl q
      · exact Or.inr ⟨t, t0, by omega, by simp only [if_neg (show ¬ t = n by omega)]; exact q⟩
/-- the last term goes -/
theorem mtb_del {h : Nat → Nat} {tb : Nat → Int32} {n p : Nat} (hn : n < 4096) (h1 : 0 < n) (q : mtb h tb (n + 1)) (hp : p < 8192) (hz : tb p = nI n) : mtb h (upd tb p 0) n := by
  obtain ⟨sl, q1, q2⟩ := q
  have hinj : ∀ t, 0 < t → t < n + 1 → tb p = nI t → t = n := fun t t0 tn e => (nI_eq (by omega) (by omega)).mp (e.symm.trans hz)
  have hup : ∀ x u, 0 < u → u < n → tb x = nI u → upd tb p 0 x = nI u := fun x u u0 un e => by
    have : x ≠ p := fun q => by
      subst q
      have := hinj u u0 (by omega) e
      omega
    exact (if_neg this).trans e
  refine ⟨sl, fun t t0 tn => ?_, fun x hx => ?_⟩
  · obtain ⟨a, e, b1, b2, b3⟩ := q1 t t0 (by omega)
    refine ⟨hup _ t t0 tn a, e, b1, b2, fun k hk => ?_⟩
    obtain ⟨u, u0, un, eu⟩ := b3 k hk
    exact ⟨u, u0, un, hup _ u u0 (by omega) eu⟩
  · by_cases c : x = p
    · exact Or.inl (if_pos c)
    · have e1 : upd tb p 0 x = tb x := if_neg c
      rw [e1]
      rcases q2 x hx with q | ⟨t, t0, tn, q⟩
      · exact Or.inl q
      · by_cases c2 : t = n
        · subst c2
          exfalso
          rcases q2 p hp with w | ⟨t', t0', tn', w⟩
          · rw [w] at hz; exact nI_ne0 h1 (by omega) hz.symm
          · have e2 := (q1 t' t0' tn').1
            rw [← w] at e2
            have := hinj t' t0' tn' e2
            subst this
            exact c (q.trans w.symm)
        · exact Or.inr ⟨t, t0, by omega, q⟩
/-- the reference's terms: n terms, r rows; what, one, two, three, given, known, cells, table -/
def MT0 (n r : Int32) (w o b c gv kn cl tb : Nat → Int32) (T : List Tm) (DL : List (Int32 × Int32)) (G W : Tm → Prop) : Prop := ((n = nI T.length ∧ 1 ≤ T.length ∧ T.length ≤ 4000) ∧ (r = nI (rc w T.length) ∧ rc w T.length ≤ 1000) ∧ (T[0]? = some tz ∧ w 0 = 0) ∧ DL.length ≤ 3000) ∧ (∀ (i : Nat) (X : Tm), 0 < i → T[i]? = some X → mrow w o b c cl T DL i X) ∧ (ndp T ∧ mtb (mhs w o b c cl) tb T.length) ∧ (∀ (i j : Nat) (X Y : Tm), i < j → T[i]? = some X → T[j]? = some Y → kd X = 1 → kd Y = 1 → mk X < mk Y) ∧ (∀ (i : Nat) (X : Tm), 0 < i → T[i]? = some X → gv i = cif (G X) 1 0 ∧ kn i = cif (W X) 1 0) ∧ (∀ X, G X → X ∈ T ∧ X ≠ tz) ∧ ∀ X, W X → X ∈ T ∧ X ≠ tz
def MT (f : Nat → Int32) (A : Nat → Nat → Int32) (T : List Tm) (DL : List (Int32 × Int32)) (G W : Tm → Prop) : Prop := MT0 (f 0) (f 7) (A 1) (A 2) (A 3) (A 4) (A 5) (A 6) (A 7) (A 8) T DL G W
theorem upd_same {g : Nat → Int32} {i : Nat} {v : Int32} : upd g i v i = v := if_pos rfl
theorem upd_ne {g : Nat → Int32} {i j : Nat} {v : Int32} (h : j ≠ i) : upd g i v j = g j := if_neg h
section MT
variable {n r : Int32} {w o b c gv kn cl tb : Nat → Int32} {T : List Tm} {DL : List (Int32 × Int32)} {G W : Tm → Prop}
theorem app_case {α : Type} {T : List α} {N X : α} {i : Nat} (h : (T ++ [N])[i]? = some X) : T[i]? = some X ∨ (i = T.length ∧ X = N) := by
  by_cases hi : i < T.length
  · rw [List.getElem?_append_left hi] at h; exact Or.inl h
  · have hl := (List.getElem?_eq_some_iff.mp h).1
    rw [List.length_append, List.length_singleton] at hl
    have e : i = T.length := by omega
    subst e
    simp at h
    exact Or.inr ⟨rfl, h.symm⟩
theorem MT_new (hM : MT0 n r w o b c gv kn cl tb T DL G W) {w0 a0 b0 c0 : Int32} {rw' cl' : Nat → Int32} {X : Tm} {e hx : Nat} (hX : tkr w0 a0 b0 c0 rw' T DL T.length X) (hnew : X ∉ T) (hl : T.length < 4000) (hr : rc w T.length < 1000) (he : e < 8192) (hz : tb ((hx + e) % 8192) = 0) (hk : ∀ k, k < e → ∃ u, 0 < u ∧ u < T.length ∧ tb ((hx + k) % 8192) = nI u) (hhx : hx = hix (hky w0 a0 b0 c0 rw')) (hc1 : w0 = 7 → ∀ k, k < 8 → cl' (8 * rc w T.length + k) = rw' k) (hc2 : ∀ q, q < 8 * rc w T.length → cl' q = cl q) (hsec : kd X = 1 → ∀ Y, Y ∈ T → kd Y = 1 → mk Y < mk X) : MT0 (nI (T.length + 1)) (nI (rc w T.length + if w0 = 7 then 1 else 0)) (upd w T.length w0) (upd o T.length a0) (upd b T.length (if w0 = 7 then nI (rc w T.length) else b0)) (upd c T.length c0) (upd gv T.length 0) (upd kn T.length 0) cl' (upd tb ((hx + e) % 8192) (nI T.length)) (T ++ [X]) DL G W := by
  obtain ⟨⟨⟨m1, m2, m3⟩, ⟨m4, m5⟩, ⟨m6, m7⟩, m8⟩, m9, ⟨m10, m11⟩, m12, m13, m14, m15⟩ := hM
  have hlen : (T ++ [X]).length = T.length + 1 := by simp
  have hrcl : ∀ t, t ≤ T.length → rc (upd w T.length w0) t = rc w t := fun t ht => rc_congr (fun i hi => upd_ne (by omega))
  have hrcn : rc (upd w T.length w0) (T.length + 1) = rc w T.length + if w0 = 7 then 1 else 0 := by
    show rc (upd w T.length w0) T.length + (if upd w T.length w0 T.length = 7 then 1 else 0) = _
    rw [hrcl _ (Nat.le_refl _), upd_same]
  have hrow : ∀ t, t < T.length → w t = 7 → ∀ k, k < 8 → mrw (upd w T.length w0) cl' t k = mrw w cl t k := fun t ht h7 k hk8 => by
    show cl' (8 * rc (upd w T.length w0) t + k) = cl (8 * rc w t + k)
    rw [hrcl t (by omega)]
    exact hc2 _ (by have := rc_lt w ht h7; omega)
  have hnr : w0 = 7 → ∀ k, k < 8 → rw' k = mrw (upd w T.length w0) cl' T.length k := fun h7 k hk8 => by
    show _ = cl' (8 * rc (upd w T.length w0) T.length + k)
    rw [hrcl _ (Nat.le_refl _)]
    exact (hc1 h7 k hk8).symm
  have hb7 : (if w0 = 7 then 0 else b0) = b0 := by
    by_cases c : w0 = 7
    · rw [if_pos c]
      rcases hX with h | h | h | h | h | h | h
      · exact h.2.1.symm
      · exact h.2.1.symm
      · exact absurd (h.1.symm.trans c) (by decide)
      · exact absurd (h.1.symm.trans c) (by decide)
      · exact absurd (h.1.symm.trans c) (by decide)
      · exact absurd (h.1.symm.trans c) (by decide)
      · exact h.2.1.symm
    · rw [if_neg c]
  have hbb : (if w0 = 7 then (0 : Int32) else (if w0 = 7 then nI (rc w T.length) else b0)) = b0 := by
    by_cases c : w0 = 7
    · rw [if_pos c, ← hb7, if_pos c]
    · rw [if_neg c, if_neg c]
  have hmh : ∀ t, 0 < t → t < T.length → mhs w o b c cl t = mhs (upd w T.length w0) (upd o T.length a0) (upd b T.length (if w0 = 7 then nI (rc w T.length) else b0)) (upd c T.length c0) cl' t := fun t t0 ht => by
    have q : t ≠ T.length := by omega
    unfold mhs
    rw [upd_ne q, upd_ne q, upd_ne q, upd_ne q, hky_congr (fun h7 k hk8 => (hrow t ht h7 k hk8).symm)]
  have hmn : mhs (upd w T.length w0) (upd o T.length a0) (upd b T.length (if w0 = 7 then nI (rc w T.length) else b0)) (upd c T.length c0) cl' T.length = hx := by
    unfold mhs
    rw [upd_same, upd_same, upd_same, upd_same, hbb, hhx, hky_congr hnr]
  have hmem : ∀ {Y : Tm}, Y ∈ T → Y ∈ T ++ [X] := fun q => List.mem_append.mpr (Or.inl q)
  refine ⟨⟨⟨by rw [hlen], by omega, by omega⟩, ⟨by rw [hlen, hrcn], by rw [hlen, hrcn]; split <;> omega⟩, ⟨by rw [List.getElem?_append_left (by omega)]; exact m6, by rw [upd_ne (by omega)]; exact m7⟩, m8⟩, fun i Y i0 hY => ?_, ⟨fun i j Y hi hj => ?_, ?_⟩, fun i j Y Z hij hY hZ kY kZ => ?_, fun i Y i0 hY => ?_, fun Y hY => ⟨hmem (m14 Y hY).1, (m14 Y hY).2⟩, fun Y hY => ⟨hmem (m15 Y hY).1, (m15 Y hY).2⟩⟩
  · rcases app_case hY with hY | ⟨rfl, rfl⟩
    · have hi := tv_lt hY
      obtain ⟨a1, a2⟩ := m9 i Y i0 hY
      have q : i ≠ T.length := by omega
      unfold mrow
      rw [upd_ne q, upd_ne q, upd_ne q, upd_ne q, hrcl i (by omega)]
      refine ⟨a1, ?_⟩
      have a3 := tkr_mono (List.prefix_append T [X]) (List.prefix_refl DL) (Nat.le_refl i) a2
      rcases a3 with h | h | h | h | h | h | ⟨g1, g2, g3, P0, P1, P2, P3, g4, g5, g6, g7, g8⟩
      · exact Or.inl h
      · exact Or.inr (Or.inl h)
      · exact Or.inr (Or.inr (Or.inl h))
      · exact Or.inr (Or.inr (Or.inr (Or.inl h)))
      · exact Or.inr (Or.inr (Or.inr (Or.inr (Or.inl h))))
      · exact Or.inr (Or.inr (Or.inr (Or.inr (Or.inr (Or.inl h)))))
      · have hq := hrow i hi g1
        rw [← hq 4 (by decide)] at g4
        rw [← hq 5 (by decide)] at g5
        rw [← hq 6 (by decide)] at g6
        rw [← hq 7 (by decide)] at g7
        rw [← hq 0 (by decide), ← hq 1 (by decide), ← hq 2 (by decide), ← hq 3 (by decide)] at g8
        exact Or.inr (Or.inr (Or.inr (Or.inr (Or.inr (Or.inr ⟨g1, g2, g3, P0, P1, P2, P3, g4, g5, g6, g7, g8⟩)))))
    · unfold mrow
      rw [upd_same, upd_same, upd_same, upd_same, hbb]
      refine ⟨fun h7 => by rw [if_pos h7, hrcl _ (Nat.le_refl _)], ?_⟩
      have a3 := tkr_mono (List.prefix_append T [Y]) (List.prefix_refl DL) (Nat.le_refl T.length) hX
      rcases a3 with h | h | h | h | h | h | ⟨g1, g2, g3, P0, P1, P2, P3, g4, g5, g6, g7, g8⟩
      · exact Or.inl h
      · exact Or.inr (Or.inl h)
      · exact Or.inr (Or.inr (Or.inl h))
      · exact Or.inr (Or.inr (Or.inr (Or.inl h)))
      · exact Or.inr (Or.inr (Or.inr (Or.inr (Or.inl h))))
      · exact Or.inr (Or.inr (Or.inr (Or.inr (Or.inr (Or.inl h)))))
      · have hq := hnr g1
        rw [hq 4 (by decide)] at g4
        rw [hq 5 (by decide)] at g5
        rw [hq 6 (by decide)] at g6
        rw [hq 7 (by decide)] at g7
        rw [hq 0 (by decide), hq 1 (by decide), hq 2 (by decide), hq 3 (by decide)] at g8
        exact Or.inr (Or.inr (Or.inr (Or.inr (Or.inr (Or.inr ⟨g1, g2, g3, P0, P1, P2, P3, g4, g5, g6, g7, g8⟩)))))
  · rcases app_case hi with hi1 | ⟨rfl, rfl⟩
    · rcases app_case hj with hj1 | ⟨rfl, rfl⟩
      · exact m10 i j Y hi1 hj1
      · exact absurd (List.mem_of_getElem? hi1) hnew
    · rcases app_case hj with hj1 | ⟨rfl, -⟩
      · exact absurd (List.mem_of_getElem? hj1) hnew
      · rfl
  · rw [hlen]
    have q := mtb_congr hmh m11
    have q2 := mtb_add (e := e) (by omega) (by omega) q he (by rw [hmn]; exact hz) (by rw [hmn]; exact hk)
    rw [hmn] at q2
    exact q2
  · rcases app_case hY with hY1 | ⟨rfl, rfl⟩
    · rcases app_case hZ with hZ1 | ⟨rfl, rfl⟩
      · exact m12 i j Y Z hij hY1 hZ1 kY kZ
      · exact hsec kZ Y (List.mem_of_getElem? hY1) kY
    · rcases app_case hZ with hZ1 | ⟨rfl, -⟩
      · have := tv_lt hZ1; omega
      · omega
  · rcases app_case hY with hY | ⟨rfl, rfl⟩
    · have hi := tv_lt hY
      rw [upd_ne (by omega), upd_ne (by omega)]
      exact m13 i Y i0 hY
    · rw [upd_same, upd_same, cif_f (fun q => hnew (m14 Y q).1), cif_f (fun q => hnew (m15 Y q).1)]
      exact ⟨rfl, rfl⟩
end MT
