/-! Locals by what they hold -/
section BL
variable {sc : tm_X} {d j pc pc' o nL : Nat} {ini : Bool} {ret : Option FieldType} {code : List (Nat × Instr × Nat)} {lv lv' : tm_L} {st st' rest : List Value} {B B' : bm_H} {Q Q' : Option Value → bm_H → Prop} {i : Instr} {len : Nat}
theorem tm_lk_filter {k : Nat} {w : Value} (f : Nat × Value → Bool) : ∀ {l : tm_L}, l.lookup k = some w → f (k, w) = true → (l.filter f).lookup k = some w
  | [], h, _ => by simp at h
  | (j, v) :: r, h, hf => by
    rw [List.lookup_cons] at h
    by_cases e : k = j
    · subst e
      simp at h
      subst h
      rw [List.filter_cons_of_pos hf, List.lookup_cons]
      simp
    · have e2 : (k == j) = false := by simp [e]
      rw [e2] at h
      by_cases hv : f (j, v) = true
      · rw [List.filter_cons_of_pos hv, List.lookup_cons, e2]
        exact tm_lk_filter f h hf
      · rw [List.filter_cons_of_neg hv]
        exact tm_lk_filter f h hf
theorem tm_lk {k n : Nat} {w v : Value} (e : lv' = tm_lset lv n v) (h : lv.lookup k = some w) (hc : w.category = 1) (hk : k ≠ n) : lv'.lookup k = some w := by
  subst e
  unfold tm_lset
  rw [List.lookup_cons]
  have e2 : (k == n) = false := by simp [hk]
  rw [e2]
  refine tm_lk_filter _ h ?_
  simp [hk, hc]
theorem tm_lks {n : Nat} {v : Value} (e : lv' = tm_lset lv n v) : lv'.lookup n = some v := by
  subst e
  unfold tm_lset
  rw [List.lookup_cons]
  simp
theorem g_ild {n w : Nat} {x : Int32} (hc : tm_cd j o nL ini ret code) (hl : code.lookup pc = some (i, w)) (hi : (i = .iload n ∧ w = 2) ∨ (∃ k : Fin 4, i = .iload_n k ∧ (k : Nat) = n ∧ w = 1)) (hx : lv.lookup n = some (.int x)) (hp : pc + w = pc') (kk : bm_G sc d j pc' lv (.int x :: st) B Q) : bm_G sc d j pc lv st B Q := by
  subst hp
  rcases hi with ⟨rfl, rfl⟩ | ⟨k, rfl, rfl, rfl⟩
  · exact g_step hc hl rfl (by simp only [tm_step, if_true, tm_ild, hx]) kk
  · exact g_step hc hl rfl (by simp only [tm_step, if_true, tm_ild, hx]) kk
theorem g_ald {n w : Nat} {x : Value} (hc : tm_cd j o nL ini ret code) (hl : code.lookup pc = some (i, w)) (hi : (i = .aload n ∧ w = 2) ∨ (∃ k : Fin 4, i = .aload_n k ∧ (k : Nat) = n ∧ w = 1)) (hx : lv.lookup n = some x) (hr : tm_isR x = true) (hp : pc + w = pc') (kk : bm_G sc d j pc' lv (x :: st) B Q) : bm_G sc d j pc lv st B Q := by
  subst hp
  rcases hi with ⟨rfl, rfl⟩ | ⟨k, rfl, rfl, rfl⟩
  · exact g_step hc hl rfl (by simp only [tm_step, if_true, tm_ald, hx, hr]) kk
  · exact g_step hc hl rfl (by simp only [tm_step, if_true, tm_ald, hx, hr]) kk
theorem g_ist {n w : Nat} {x : Int32} (hc : tm_cd j o nL ini ret code) (hl : code.lookup pc = some (i, w)) (hi : (i = .istore n ∧ w = 2) ∨ (∃ k : Fin 4, i = .istore_n k ∧ (k : Nat) = n ∧ w = 1)) (hn : n < nL) (hp : pc + w = pc') (kk : ∀ lv' : tm_L, lv' = tm_lset lv n (.int x) → bm_G sc d j pc' lv' st B Q) : bm_G sc d j pc lv (.int x :: st) B Q := by
  subst hp
  rcases hi with ⟨rfl, rfl⟩ | ⟨k, rfl, rfl, rfl⟩
  · exact g_step hc hl rfl (by simp only [tm_step, if_true, tm_ist, hn]) (kk _ rfl)
  · exact g_step hc hl rfl (by simp only [tm_step, if_true, tm_ist, hn]) (kk _ rfl)
theorem g_ast {n w : Nat} {x : Value} (hc : tm_cd j o nL ini ret code) (hl : code.lookup pc = some (i, w)) (hi : (i = .astore n ∧ w = 2) ∨ (∃ k : Fin 4, i = .astore_n k ∧ (k : Nat) = n ∧ w = 1)) (hr : tm_isR x = true) (hn : n < nL) (hp : pc + w = pc') (kk : ∀ lv' : tm_L, lv' = tm_lset lv n x → bm_G sc d j pc' lv' st B Q) : bm_G sc d j pc lv (x :: st) B Q := by
  subst hp
  rcases hi with ⟨rfl, rfl⟩ | ⟨k, rfl, rfl, rfl⟩
  · exact g_step hc hl rfl (by simp only [tm_step, if_true, tm_ast, hr, hn, and_self]) (kk _ rfl)
  · exact g_step hc hl rfl (by simp only [tm_step, if_true, tm_ast, hr, hn, and_self]) (kk _ rfl)
theorem g_inc {n : Nat} {m : Int} {x y : Int32} (hc : tm_cd j o nL ini ret code) (hl : code.lookup pc = some (.iinc n m, 3)) (hx : lv.lookup n = some (.int x)) (hn : n < nL) (hy : x + Int32.ofInt m = y) (hp : pc + 3 = pc') (kk : ∀ lv' : tm_L, lv' = tm_lset lv n (.int y) → bm_G sc d j pc' lv' st B Q) : bm_G sc d j pc lv st B Q := by
  subst hp; subst hy
  exact g_step hc hl rfl (by simp only [tm_step, if_true, tm_iinc, hx, hn]) (kk _ rfl)
/-- an instruction that looks at the stack alone -/
theorem g_pure (hc : tm_cd j o nL ini ret code) (hl : code.lookup pc = some (i, len)) (hr : tm_retOk ret i st = none) (hs : ∀ (lv : tm_L) (h : tm_H), tm_step sc o nL ini i len pc lv st h = some (pc', lv, st', h)) (kk : bm_G sc d j pc' lv st' B Q) : bm_G sc d j pc lv st B Q := g_step hc hl hr (hs lv (bm_enc B)) kk
end BL
