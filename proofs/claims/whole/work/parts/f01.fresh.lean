/-! Constructors: cells made anew, and what is kept of the others. -/
def ce (B B' : bm_H) (y : Nat) : Prop := y < bm_n B' ∧ bm_K B' y = bm_K B y ∧ bm_AL B' y = bm_AL B y ∧ (∀ c k, bm_FI B' c k y = bm_FI B c k y) ∧ (∀ c k, bm_FR B' c k y = bm_FR B c k y) ∧ bm_AI B' y = bm_AI B y ∧ bm_AR B' y = bm_AR B y
theorem ce_trans {B B1 B2 : bm_H} {y : Nat} (h : ce B B1 y) (g : ce B1 B2 y) : ce B B2 y :=
  ⟨g.1, g.2.1.trans h.2.1, g.2.2.1.trans h.2.2.1, fun c k => (g.2.2.2.1 c k).trans (h.2.2.2.1 c k), fun c k => (g.2.2.2.2.1 c k).trans (h.2.2.2.2.1 c k), g.2.2.2.2.2.1.trans h.2.2.2.2.2.1, g.2.2.2.2.2.2.trans h.2.2.2.2.2.2⟩
theorem ce_rfl {B : bm_H} {y : Nat} (h : y < bm_n B) : ce B B y := ⟨h, rfl, rfl, fun _ _ => rfl, fun _ _ => rfl, rfl, rfl⟩
def stb (P : bm_H → Prop) (lo hi : Nat) (B : bm_H) : Prop := ∀ B2, (∀ y, lo ≤ y → y < hi → ce B B2 y) → P B2
theorem stb_up {P : bm_H → Prop} {lo hi : Nat} {B B' : bm_H} (h : stb P lo hi B) (q : ∀ y, lo ≤ y → y < hi → ce B B' y) : stb P lo hi B' := fun B2 g => h B2 fun y h1 h2 => ce_trans (q y h1 h2) (g y h1 h2)
theorem stb_on {P : bm_H → Prop} {lo hi : Nat} {B : bm_H} (h : stb P lo hi B) (hn : hi ≤ bm_n B) : P B := h B fun y _ h2 => ce_rfl (by omega)
def fr0 (B B' : bm_H) : Prop := bm_n B ≤ bm_n B' ∧ ∀ y, y < bm_n B → ce B B' y
theorem fr0_rfl (B : bm_H) : fr0 B B := ⟨Nat.le_refl _, fun _ h => ce_rfl h⟩
theorem fr0_trans {B B1 B2 : bm_H} (h : fr0 B B1) (g : fr0 B1 B2) : fr0 B B2 := ⟨Nat.le_trans h.1 g.1, fun y hy => ce_trans (h.2 y hy) (g.2 y (Nat.lt_of_lt_of_le hy h.1))⟩
theorem fr0_fr {X : Nat → Prop} {B B' : bm_H} (h : fr0 B B') : fr X B B' := ⟨h.1, fun x hx => by
  obtain ⟨_, a, b, c, d, e, f⟩ := h.2 x hx
  exact ⟨a, b, fun c k _ => d c k, fun _ => ⟨c, d, e, f⟩⟩⟩
theorem fr0_f {B B' : bm_H} (h : fr0 B B') : fr (fun _ => False) B B' := fr0_fr h
theorem stb_fr0 {P : bm_H → Prop} {lo hi : Nat} {B B' : bm_H} (h : stb P lo hi B) (hf : fr0 B B') (hn : hi ≤ bm_n B) : stb P lo hi B' := stb_up h fun y _ h2 => hf.2 y (by omega)
theorem ce_putR {B : bm_H} {c k a y : Nat} {v : Option Nat} (hy : y < bm_n B) (h : y ≠ a) : ce B (bm_putR B c k a v) y := ⟨hy, rfl, rfl, fun _ _ => rfl, fun _ _ => if_neg (fun q => h q.2.2), rfl, rfl⟩
theorem ce_putI {B : bm_H} {c k a y : Nat} {v : Int32} (hy : y < bm_n B) (h : y ≠ a) : ce B (bm_putI B c k a v) y := ⟨hy, rfl, rfl, fun _ _ => if_neg (fun q => h q.2.2), fun _ _ => rfl, rfl, rfl⟩
theorem ce_setR {B : bm_H} {i a y : Nat} {v : Option Nat} (hy : y < bm_n B) (h : y ≠ a) : ce B (bm_setR B a i v) y := ⟨hy, rfl, rfl, fun _ _ => rfl, fun _ _ => rfl, rfl, funext fun _ => if_neg (fun q => h q.1)⟩
theorem ce_setI {B : bm_H} {i a y : Nat} {v : Int32} (hy : y < bm_n B) (h : y ≠ a) : ce B (bm_setI B a i v) y := ⟨hy, rfl, rfl, fun _ _ => rfl, fun _ _ => rfl, funext fun _ => if_neg (fun q => h q.1), rfl⟩
theorem stb_putR {P : bm_H → Prop} {lo hi c k a : Nat} {v : Option Nat} {B : bm_H} (h : stb P lo hi B) (hn : hi ≤ bm_n B) (ha : a < lo ∨ hi ≤ a) : stb P lo hi (bm_putR B c k a v) := stb_up h fun y h1 h2 => ce_putR (by omega) (by omega)
theorem stb_putI {P : bm_H → Prop} {lo hi c k a : Nat} {v : Int32} {B : bm_H} (h : stb P lo hi B) (hn : hi ≤ bm_n B) (ha : a < lo ∨ hi ≤ a) : stb P lo hi (bm_putI B c k a v) := stb_up h fun y h1 h2 => ce_putI (by omega) (by omega)
theorem stb_setR {P : bm_H → Prop} {lo hi i a : Nat} {v : Option Nat} {B : bm_H} (h : stb P lo hi B) (hn : hi ≤ bm_n B) (ha : a < lo ∨ hi ≤ a) : stb P lo hi (bm_setR B a i v) := stb_up h fun y h1 h2 => ce_setR (by omega) (by omega)
theorem stb_setI {P : bm_H → Prop} {lo hi i a : Nat} {v : Int32} {B : bm_H} (h : stb P lo hi B) (hn : hi ≤ bm_n B) (ha : a < lo ∨ hi ≤ a) : stb P lo hi (bm_setI B a i v) := stb_up h fun y h1 h2 => ce_setI (by omega) (by omega)
theorem fr0_putR {B0 B : bm_H} {c k a : Nat} {v : Option Nat} (h : fr0 B0 B) (ha : bm_n B0 ≤ a) : fr0 B0 (bm_putR B c k a v) := ⟨h.1, fun y hy => ce_trans (h.2 y hy) (ce_putR (Nat.lt_of_lt_of_le hy h.1) (by omega))⟩
theorem fr0_putI {B0 B : bm_H} {c k a : Nat} {v : Int32} (h : fr0 B0 B) (ha : bm_n B0 ≤ a) : fr0 B0 (bm_putI B c k a v) := ⟨h.1, fun y hy => ce_trans (h.2 y hy) (ce_putI (Nat.lt_of_lt_of_le hy h.1) (by omega))⟩
theorem fr0_setR {B0 B : bm_H} {i a : Nat} {v : Option Nat} (h : fr0 B0 B) (ha : bm_n B0 ≤ a) : fr0 B0 (bm_setR B a i v) := ⟨h.1, fun y hy => ce_trans (h.2 y hy) (ce_setR (Nat.lt_of_lt_of_le hy h.1) (by omega))⟩
theorem fr0_setI {B0 B : bm_H} {i a : Nat} {v : Int32} (h : fr0 B0 B) (ha : bm_n B0 ≤ a) : fr0 B0 (bm_setI B a i v) := ⟨h.1, fun y hy => ce_trans (h.2 y hy) (ce_setI (Nat.lt_of_lt_of_le hy h.1) (by omega))⟩
theorem fr0_allI {B0 B : bm_H} {a : Nat} {f : Nat → Int32} (h : fr0 B0 B) (ha : bm_n B0 ≤ a) : fr0 B0 (bm_allI B a f) := ⟨h.1, fun y hy => ce_trans (h.2 y hy) ⟨Nat.lt_of_lt_of_le hy h.1, rfl, rfl, fun _ _ => rfl, fun _ _ => rfl, funext fun _ => if_neg (by omega), rfl⟩⟩
/-- a new array, a new object -/
def NwA (B B' : bm_H) (m t N : Nat) : Prop := fr0 B B' ∧ (bm_n B' = m + 1 ∧ bm_sl B' = bm_sl B + N) ∧ (m < bm_n B' ∧ bm_K B' m = t ∧ bm_AL B' m = N) ∧ bm_AI B' m = (fun _ => 0) ∧ bm_AR B' m = fun _ => none
def NwO (B B' : bm_H) (m c N : Nat) : Prop := fr0 B B' ∧ (bm_n B' = m + 1 ∧ bm_sl B' = bm_sl B + N) ∧ (m < bm_n B' ∧ bm_K B' m = c) ∧ (∀ c k, bm_FI B' c k m = 0) ∧ ∀ c k, bm_FR B' c k m = none
theorem NwA_mk {B : bm_H} {m : Nat} (hm : bm_n B = m) (t N : Nat) : NwA B (bm_newA B t N) m t N := by
  subst hm
  refine ⟨⟨Nat.le_succ _, fun y hy => ⟨Nat.lt_succ_of_lt hy, va_up_ne _ _ (by omega), va_up_ne _ _ (by omega), fun _ _ => rfl, fun _ _ => rfl, funext fun _ => if_neg (by omega), funext fun _ => if_neg (by omega)⟩⟩, ⟨rfl, rfl⟩, ⟨Nat.lt_succ_self _, va_up_self _ _ _, va_up_self _ _ _⟩, funext fun _ => if_pos rfl, funext fun _ => if_pos rfl⟩
theorem NwO_mk {B : bm_H} {m : Nat} (hm : bm_n B = m) (c N : Nat) : NwO B (bm_newO B c N) m c N := by
  subst hm
  refine ⟨⟨Nat.le_succ _, fun y hy => ⟨Nat.lt_succ_of_lt hy, va_up_ne _ _ (by omega), rfl, fun _ _ => if_neg (by omega), fun _ _ => if_neg (by omega), rfl, rfl⟩⟩, ⟨rfl, rfl⟩, ⟨Nat.lt_succ_self _, va_up_self _ _ _⟩, fun _ _ => if_pos rfl, fun _ _ => if_pos rfl⟩
section NW
variable {sc : tm_X} {d j o nL pc pc' : Nat} {ini : Bool} {ret : Option FieldType} {code : List (Nat × Instr × Nat)} {lv : tm_L} {st : List Value} {B : bm_H} {Q : Option Value → bm_H → Prop}
theorem n_obj {ix c x1 x2 x3 m : Nat} {l : List FieldType} (N : Nat) (hm : bm_n B = m) (hc : tm_cd j o nL ini ret code) (hl : code.lookup pc = some (.new ix, 3)) (hr : tm_newR o ix = some (o, ix, c, x1, x2, x3)) (hf : tm_fty[c]? = some l) (hN : l.length = N) (hcl : c < 13) (hp : pc + 3 = pc') (kk : ∀ B', NwO B B' m c N → bm_G sc d j pc' lv (.ref m :: st) B' Q) : bm_G sc d j pc lv st B Q := by
  subst hN
  have := kk _ (NwO_mk hm c l.length)
  subst hm
  exact g_new hc hl hr hf hcl hp this
theorem n_int {m : Nat} {n : Int32} (N : Nat) (hm : bm_n B = m) (hc : tm_cd j o nL ini ret code) (hl : code.lookup pc = some (.newarray .int, 2)) (hp : pc + 2 = pc') (hN : n.toNatClampNeg = N) (hn : ¬ n < 0) (hb : N * 4 ≤ 536870912) (kk : ∀ B', NwA B B' m 13 N → bm_G sc d j pc' lv (.ref m :: st) B' Q) : bm_G sc d j pc lv (.int n :: st) B Q := by
  subst hN
  have := kk _ (NwA_mk hm 13 n.toNatClampNeg)
  subst hm
  exact g_newI hc hl hp hn hb this
theorem n_bool {m : Nat} {n : Int32} (N : Nat) (hm : bm_n B = m) (hc : tm_cd j o nL ini ret code) (hl : code.lookup pc = some (.newarray .boolean, 2)) (hp : pc + 2 = pc') (hN : n.toNatClampNeg = N) (hn : ¬ n < 0) (hb : N * 4 ≤ 536870912) (kk : ∀ B', NwA B B' m 14 N → bm_G sc d j pc' lv (.ref m :: st) B' Q) : bm_G sc d j pc lv (.int n :: st) B Q := by
  subst hN
  have := kk _ (NwA_mk hm 14 n.toNatClampNeg)
  subst hm
  exact g_newZ hc hl hp hn hb this
theorem n_ref {ix c x1 x2 x3 t m : Nat} {n : Int32} {q : vw_C} (N : Nat) (hm : bm_n B = m) (hc : tm_cd j o nL ini ret code) (hl : code.lookup pc = some (.anewarray ix, 3)) (hr : tm_newR o ix = some (o, ix, c, x1, x2, x3)) (hq : tm_cl[c]? = some q) (hf : tm_tys.findIdx? (fun ty => decide (ty = .object q.1)) = some t) (ht : 2 ≤ t) (hp : pc + 3 = pc') (hN : n.toNatClampNeg = N) (hn : ¬ n < 0) (hb : N * 4 ≤ 536870912) (kk : ∀ B', NwA B B' m (13 + t) N → bm_G sc d j pc' lv (.ref m :: st) B' Q) : bm_G sc d j pc lv (.int n :: st) B Q := by
  subst hN
  have := kk _ (NwA_mk hm (13 + t) n.toNatClampNeg)
  subst hm
  exact g_newR hc hl hr hq hf ht hp hn hb this
theorem n_super {ix a x0 x1 x2 x3 x4 x5 x6 : Nat} (hc : tm_cd j o nL ini ret code) (hl : code.lookup pc = some (.invokespecial ix, 3)) (hr : tm_callR o ix = some (o, ix, 3, x0, x1, x2, x3, x4, x5, x6)) (ht : tm_rest st = true) (hp : pc + 3 = pc') (kk : bm_G sc (d + 1) j pc' lv st B Q) : bm_G sc (d + 1) j pc lv (.ref a :: st) B Q := by
  subst hp
  refine g_nat hc hl rfl rfl ?_ kk
  simp only [tm_nat, hr, ht, if_true]
end NW
theorem al_step {P : Nat → Prop} {k : Nat} (h : ∀ i, i < k → P i) (hk : P k) : ∀ i, i < k + 1 → P i := fun i hi => by
  rcases Nat.lt_or_eq_of_le (Nat.le_of_lt_succ hi) with q | q
  · exact h i q
  · exact q ▸ hk
theorem al_nil {P : Nat → Prop} : ∀ i, i < 0 → P i := fun i hi => absurd hi (Nat.not_lt_zero i)
