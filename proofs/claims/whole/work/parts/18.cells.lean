/-! The small machine's heap by maps: one for each field, so that a write leaves all other fields as they are.
n cells, sl slots, K: the kind of a cell (0 .. 12 an object of that class, 13 ints, 14 booleans, 15 .. arrays of references of type K - 13), FI: fields of ints and booleans by class, field, cell; FR: of references; AL: lengths; AI, AR: contents -/
abbrev bm_H : Type := Nat × Nat × (Nat → Nat) × (Nat → Nat → Nat → Int32) × (Nat → Nat → Nat → Option Nat) × (Nat → Nat) × (Nat → Nat → Int32) × (Nat → Nat → Option Nat)
abbrev bm_n (B : bm_H) : Nat := B.1
abbrev bm_sl (B : bm_H) : Nat := B.2.1
abbrev bm_K (B : bm_H) : Nat → Nat := B.2.2.1
abbrev bm_FI (B : bm_H) : Nat → Nat → Nat → Int32 := B.2.2.2.1
abbrev bm_FR (B : bm_H) : Nat → Nat → Nat → Option Nat := B.2.2.2.2.1
abbrev bm_AL (B : bm_H) : Nat → Nat := B.2.2.2.2.2.1
abbrev bm_AI (B : bm_H) : Nat → Nat → Int32 := B.2.2.2.2.2.2.1
abbrev bm_AR (B : bm_H) : Nat → Nat → Option Nat := B.2.2.2.2.2.2.2
def bm_isI (ty : FieldType) : Bool := match ty with
  | .int => true
  | .boolean => true
  | _ => false
def bm_fv (B : bm_H) (c a k : Nat) (ty : FieldType) : Value := if bm_isI ty = true then .int (bm_FI B c k a) else va_rf (bm_FR B c k a)
def bm_fs (B : bm_H) (c a : Nat) : List Value := ((tm_fty[c]?).getD []).mapIdx fun k ty => bm_fv B c a k ty
def bm_cell (B : bm_H) (a : Nat) : tm_E := if bm_K B a < 13 then .inr (.inr (bm_K B a, bm_fs B (bm_K B a) a)) else if bm_K B a < 15 then .inl (bm_K B a - 13, bm_AL B a, bm_AI B a) else .inr (.inl (bm_K B a - 13, bm_AL B a, bm_AR B a))
def bm_enc (B : bm_H) : tm_H := (bm_n B, bm_sl B, bm_cell B)
def bm_up3 {α : Type} (F : Nat → Nat → Nat → α) (c k a : Nat) (v : α) : Nat → Nat → Nat → α := fun c' k' a' => if c' = c ∧ k' = k ∧ a' = a then v else F c' k' a'
def bm_up2 {α : Type} (F : Nat → Nat → α) (a i : Nat) (v : α) : Nat → Nat → α := fun a' i' => if a' = a ∧ i' = i then v else F a' i'
def bm_row {α : Type} (F : Nat → Nat → α) (a : Nat) (f : Nat → α) : Nat → Nat → α := fun a' i' => if a' = a then f i' else F a' i'
/-- a write to a field -/
def bm_putI (B : bm_H) (c k a : Nat) (v : Int32) : bm_H := (bm_n B, bm_sl B, bm_K B, bm_up3 (bm_FI B) c k a v, bm_FR B, bm_AL B, bm_AI B, bm_AR B)
def bm_putR (B : bm_H) (c k a : Nat) (v : Option Nat) : bm_H := (bm_n B, bm_sl B, bm_K B, bm_FI B, bm_up3 (bm_FR B) c k a v, bm_AL B, bm_AI B, bm_AR B)
/-- a write to an array -/
def bm_setI (B : bm_H) (a i : Nat) (v : Int32) : bm_H := (bm_n B, bm_sl B, bm_K B, bm_FI B, bm_FR B, bm_AL B, bm_up2 (bm_AI B) a i v, bm_AR B)
def bm_setR (B : bm_H) (a i : Nat) (v : Option Nat) : bm_H := (bm_n B, bm_sl B, bm_K B, bm_FI B, bm_FR B, bm_AL B, bm_AI B, bm_up2 (bm_AR B) a i v)
def bm_allI (B : bm_H) (a : Nat) (f : Nat → Int32) : bm_H := (bm_n B, bm_sl B, bm_K B, bm_FI B, bm_FR B, bm_AL B, bm_row (bm_AI B) a f, bm_AR B)
/-- a new object of class c with N fields -/
def bm_newO (B : bm_H) (c N : Nat) : bm_H := (bm_n B + 1, bm_sl B + N, va_up (bm_K B) (bm_n B) c, fun c' k' a' => if a' = bm_n B then 0 else bm_FI B c' k' a', fun c' k' a' => if a' = bm_n B then none else bm_FR B c' k' a', bm_AL B, bm_AI B, bm_AR B)
/-- a new array of kind t with N places -/
def bm_newA (B : bm_H) (t N : Nat) : bm_H := (bm_n B + 1, bm_sl B + N, va_up (bm_K B) (bm_n B) t, bm_FI B, bm_FR B, va_up (bm_AL B) (bm_n B) N, bm_row (bm_AI B) (bm_n B) (fun _ => 0), bm_row (bm_AR B) (bm_n B) (fun _ => none))
theorem bm_get {B : bm_H} {a : Nat} (ha : a < bm_n B) : tm_get (bm_enc B) a = some (bm_cell B a) := if_pos ha
theorem bm_getO {B : bm_H} {a c : Nat} (ha : a < bm_n B) (hK : bm_K B a = c) (hc : c < 13) : tm_get (bm_enc B) a = some (.inr (.inr (c, bm_fs B c a))) := by
  rw [bm_get ha]
  unfold bm_cell
  rw [if_pos (by rw [hK]; exact hc), hK]
theorem bm_getI {B : bm_H} {a t : Nat} (ha : a < bm_n B) (hK : bm_K B a = 13 + t) (ht : t < 2) : tm_get (bm_enc B) a = some (.inl (t, bm_AL B a, bm_AI B a)) := by
  rw [bm_get ha]
  unfold bm_cell
  rw [if_neg (by omega), if_pos (by omega), hK, Nat.add_sub_cancel_left]
theorem bm_getR {B : bm_H} {a t : Nat} (ha : a < bm_n B) (hK : bm_K B a = 13 + t) (ht : 2 ≤ t) : tm_get (bm_enc B) a = some (.inr (.inl (t, bm_AL B a, bm_AR B a))) := by
  rw [bm_get ha]
  unfold bm_cell
  rw [if_neg (by omega), if_neg (by omega), hK, Nat.add_sub_cancel_left]
theorem bm_fs_at (B : bm_H) {c a k : Nat} {ty : FieldType} (h : tm_ftyOf c k = some ty) : (bm_fs B c a)[k]? = some (bm_fv B c a k ty) := by
  unfold tm_ftyOf at h
  cases hl : tm_fty[c]? with
  | none => rw [hl] at h; cases h
  | some l =>
    rw [hl] at h
    simp only [Option.bind_some] at h
    simp [bm_fs, hl, h]
theorem bm_fs_len (B : bm_H) {c a k : Nat} {ty : FieldType} (h : tm_ftyOf c k = some ty) : k < (bm_fs B c a).length := (List.getElem?_eq_some_iff.mp (bm_fs_at B (a := a) h)).1
/-- a cell is as it was, if its own maps are -/
theorem bm_cell_eq {B B' : bm_H} {a : Nat} (hK : bm_K B' a = bm_K B a) (hI : ∀ c k, bm_FI B' c k a = bm_FI B c k a) (hR : ∀ c k, bm_FR B' c k a = bm_FR B c k a) (hL : bm_AL B' a = bm_AL B a) (hA : ∀ i, bm_AI B' a i = bm_AI B a i) (hB : ∀ i, bm_AR B' a i = bm_AR B a i) : bm_cell B' a = bm_cell B a := by
  have hfs : ∀ c, bm_fs B' c a = bm_fs B c a := fun c => by
    unfold bm_fs
    congr 1
    funext k ty
    unfold bm_fv
    rw [hI, hR]
  have e1 : bm_AI B' a = bm_AI B a := funext hA
  have e2 : bm_AR B' a = bm_AR B a := funext hB
  unfold bm_cell
  rw [hK, hfs, hL, e1, e2]
theorem bm_enc_put {B B' : bm_H} {a : Nat} {x : tm_E} (hn : bm_n B' = bm_n B) (hs : bm_sl B' = bm_sl B) (hx : bm_cell B' a = x) (ho : ∀ a', a' ≠ a → bm_cell B' a' = bm_cell B a') : tm_put (bm_enc B) a x = bm_enc B' := by
  unfold tm_put bm_enc
  rw [hn, hs]
  congr 2
  funext q
  by_cases hq : q = a
  · subst hq; rw [va_up_self, hx]
  · rw [va_up_ne _ _ hq, ho q hq]
theorem bm_fs_putI (B : bm_H) {c a k : Nat} {ty : FieldType} (v : Int32) (h : tm_ftyOf c k = some ty) (hi : bm_isI ty = true) : (bm_fs B c a).set k (.int v) = bm_fs (bm_putI B c k a v) c a := by
  apply List.ext_getElem?
  intro j
  rw [List.getElem?_set]
  have hl := bm_fs_len B (a := a) h
  unfold tm_ftyOf at h
  by_cases hj : k = j
  · subst hj
    rw [if_pos rfl, if_pos hl]
    have := bm_fs_at (bm_putI B c k a v) (a := a) (show tm_ftyOf c k = some ty by unfold tm_ftyOf; exact h)
    rw [this]
    simp [bm_fv, hi, bm_putI, bm_up3, bm_FI]
  · rw [if_neg hj]
    unfold bm_fs
    simp only [List.getElem?_mapIdx]
    congr 1
    funext ty'
    simp [bm_fv, bm_putI, bm_up3, Ne.symm hj, bm_FI, bm_FR]
theorem bm_fs_putR (B : bm_H) {c a k : Nat} {ty : FieldType} (v : Option Nat) (h : tm_ftyOf c k = some ty) (hi : bm_isI ty = false) : (bm_fs B c a).set k (va_rf v) = bm_fs (bm_putR B c k a v) c a := by
  apply List.ext_getElem?
  intro j
  rw [List.getElem?_set]
  have hl := bm_fs_len B (a := a) h
  unfold tm_ftyOf at h
  by_cases hj : k = j
  · subst hj
    rw [if_pos rfl, if_pos hl]
    have := bm_fs_at (bm_putR B c k a v) (a := a) (show tm_ftyOf c k = some ty by unfold tm_ftyOf; exact h)
    rw [this]
    simp [bm_fv, hi, bm_putR, bm_up3, bm_FR]
  · rw [if_neg hj]
    unfold bm_fs
    simp only [List.getElem?_mapIdx]
    congr 1
    funext ty'
    simp [bm_fv, bm_putR, bm_up3, Ne.symm hj, bm_FI, bm_FR]
