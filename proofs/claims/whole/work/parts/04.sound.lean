/-! What the small machine does, the machine does: one instruction -/
def tm_tr (z b : Nat) : Value → Value
  | .ref k => .ref (z + k)
  | .retAddr _ => .ref b
  | v => v
def tm_lv (z b : Nat) (lv : tm_L) : tm_L := lv.map fun q => (q.1, tm_tr z b q.2)
def tm_e (z b : Nat) (cA : Nat → ClassId) : tm_E → va_E
  | .inl (t, n, f) => .inl (cA t, n, .inl f)
  | .inr (.inl (t, n, f)) => .inl (cA t, n, .inr (.inr (.inr (.inr (fun j => (f j).map (fun k => z + k))))))
  | .inr (.inr (c, fs)) => .inr (c, fs.map (tm_tr z b))
def tm_ws (z b : Nat) (cA : Nat → ClassId) (h : tm_H) : va_W := (List.range h.1).map fun k => (z + k, tm_e z b cA (h.2.2 k))
/-- the machine's heap H holds h; since H0 nothing below z has changed -/
def tm_R (D : va_G) (cA : Nat → ClassId) (z b n0 s0 : Nat) (H0 : Heap) (h : tm_H) (H : Heap) (locs : List Loc) : Prop :=
  va_P D tm_cl (tm_ws z b cA h) H ∧ va_S (fun q => z ≤ q) H0 H locs ∧ n0 ≤ h.1 ∧ s0 ≤ h.2.1
def tm_T : List Cond := lw_tbl.filter goodWord
def tm_ty (cA : Nat → ClassId) : List (ClassId × FieldType) := (List.range 9).map fun t => (cA t, (tm_tys[t]?).getD .int)
def tm_isN : Cond → Bool
  | .fieldLinkNest .. => true
  | .methodLinkNest .. => true
  | _ => false
def tm_isO : Cond → Bool
  | .arrayOver _ => true
  | _ => false
/-- what the tables say at a state: classes, array classes, nest mates' links, arrays of references -/
def tm_Z (D : va_G) (cA : Nat → ClassId) (U : State) : Prop := va_K D tm_cl (tm_ty cA) U ∧ (∀ w ∈ lw_tbl, tm_isN w = true → va_Nw w U) ∧ (∀ w ∈ lw_tbl, tm_isO w = true → w.before #[] U = true)
/-- where a method stands: machine, code, own class, words, tables, script -/
def tm_C (D : va_G) (cA : Nat → ClassId) (z b : Nat) (sc : tm_X) (o nL : Nat) (cc : ByteArray) (p : Program) (s : State) (m : MethodId) (args : Array Value) (c : Code) : Prop :=
  p.tables.exec = Jvm.exec ∧ c.code = cc ∧ c.maxLocals = nL ∧ (∃ own, tm_own[o]? = some own ∧ s.vm.findClass own = some m.cls) ∧ (∀ w ∈ tm_T, w.before args s = true) ∧ tm_Z D cA s ∧ va_X b sc.1 sc.2 s s.heap ∧ b < z
theorem tm_tr_cat (z b : Nat) (v : Value) : (tm_tr z b v).category = v.category := by cases v <;> rfl
theorem tm_lookup_mem {i : Nat} {v : Value} : ∀ {lv : tm_L}, lv.lookup i = some v → (i, v) ∈ lv
  | [], h => by simp at h
  | (j, w) :: r, h => by
    rw [List.lookup_cons] at h
    by_cases e : i = j
    · subst e
      simp at h
      subst h
      exact List.mem_cons_self
    · have : (i == j) = false := by simp [e]
      rw [this] at h
      exact List.mem_cons_of_mem _ (tm_lookup_mem h)
theorem tm_lv_at {ls : Array Slot} {nL z b i : Nat} {v : Value} {lv : tm_L} (hl : lv_has ls nL (tm_lv z b lv)) (h : lv.lookup i = some v) : ls[i]? = some (.val (tm_tr z b v)) :=
  hl.2.2 (i, tm_tr z b v) (List.mem_map.mpr ⟨(i, v), tm_lookup_mem h, rfl⟩)
theorem tm_lv_ix {z b i : Nat} {v : Value} {lv : tm_L} (h : lv.lookup i = some v) : ∃ k : Nat, (tm_lv z b lv)[k]? = some (i, tm_tr z b v) :=
  List.getElem?_of_mem (List.mem_map.mpr ⟨(i, v), tm_lookup_mem h, rfl⟩)
theorem tm_lv_set (z b : Nat) (lv : tm_L) (i : Nat) (v : Value) : (i, tm_tr z b v) :: (tm_lv z b lv).filter (fun q => !(q.1 == i) && !(q.1 + 1 == i && q.2.category == 2)) = tm_lv z b (tm_lset lv i v) := by
  unfold tm_lset tm_lv
  rw [List.map_cons, List.filter_map]
  congr 2
  apply List.filter_congr
  intro q _
  simp [Function.comp, tm_tr_cat]
theorem tm_ws_get {z b : Nat} {cA : Nat → ClassId} {h : tm_H} {k : Nat} {e : tm_E} (hk : tm_get h k = some e) : k < h.1 ∧ h.2.2 k = e ∧ (tm_ws z b cA h)[k]? = some (z + k, tm_e z b cA e) := by
  unfold tm_get at hk
  by_cases hl : k < h.1
  · rw [if_pos hl] at hk
    cases hk
    exact ⟨hl, rfl, by simp [tm_ws, hl]⟩
  · rw [if_neg hl] at hk
    cases hk
theorem tm_ws_len (z b : Nat) (cA : Nat → ClassId) (h : tm_H) : (tm_ws z b cA h).length = h.1 := by simp [tm_ws]
theorem tm_ws_set {z b : Nat} {cA : Nat → ClassId} {h : tm_H} {k : Nat} (hk : k < h.1) (e : tm_E) : (tm_ws z b cA h).set k (z + k, tm_e z b cA e) = tm_ws z b cA (tm_put h k e) := by
  apply List.ext_getElem?
  intro j
  rw [List.getElem?_set, tm_ws_len]
  by_cases hj : k = j
  · subst hj
    simp [tm_ws, tm_put, hk, va_up]
  · rw [if_neg hj]
    by_cases hl : j < h.1
    · simp [tm_ws, tm_put, hl, va_up, Ne.symm hj]
    · simp [tm_ws, tm_put, hl]
theorem tm_ws_add (z b : Nat) (cA : Nat → ClassId) (h : tm_H) (n : Nat) (e : tm_E) : tm_ws z b cA h ++ [(z + h.1, tm_e z b cA e)] = tm_ws z b cA (tm_add h n e) := by
  unfold tm_ws tm_add
  simp only [List.range_succ, List.map_append, List.map_cons, List.map_nil, va_up_self]
  congr 1
  apply List.map_congr_left
  intro k hk
  rw [va_up_ne _ _ (Nat.ne_of_lt (List.mem_range.mp hk))]
theorem tm_ws_D (z b : Nat) (cA : Nat → ClassId) (h : tm_H) : va_D (fun q => z ≤ q) (tm_ws z b cA h) := by
  have key : ∀ (k : Nat) (q : Nat × va_E), (tm_ws z b cA h)[k]? = some q → q.1 = z + k := by
    intro k q hq
    have hl : k < h.1 := by
      have := (List.getElem?_eq_some_iff.mp hq).1
      rwa [tm_ws_len] at this
    simp [tm_ws, hl] at hq
    rw [← hq]
  refine ⟨fun i j p q hi hj he => ?_, fun k q hk => ?_⟩
  · have h1 := key i p hi
    have h2 := key j q hj
    omega
  · show z ≤ q.1
    rw [key k q hk]
    omega
theorem tm_ty_at {cA : Nat → ClassId} {t : Nat} {ty : FieldType} (h : tm_tys[t]? = some ty) : (tm_ty cA)[t]? = some (cA t, ty) := by
  have hl : t < 9 := by
    have := (List.getElem?_eq_some_iff.mp h).1
    exact this
  simp [tm_ty, hl, h]
theorem tm_tgt_ok {pc t : Nat} {off : Int} (h : tm_tgt pc off = some t) : (pc : Int) + off = (t : Int) := by
  unfold tm_tgt at h
  by_cases h0 : 0 ≤ (pc : Int) + off
  · rw [if_pos h0] at h
    cases h
    omega
  · rw [if_neg h0] at h
    cases h
