/-- from a state of the small machine the machine comes to Q -/
def tm_Wk (p : Program) (l : Launch) (e : Env) (R : Room) (s : State) (m : MethodId) (args : Array Value) (below : List Frame) (meth : Method) (c : Code) (Q : State → Prop) (D : va_G) (cA : Nat → ClassId) (z b n0 s0 nL : Nat) (S : tm_S) : Prop :=
  ∀ (ls : Array Slot) (H : Heap) (locs : List Loc), lv_has ls nL (tm_lv z b S.2.1) → tm_R D cA z b n0 s0 s.heap S.2.2.2 H locs → W p l e R s m args below meth c H locs (S.2.2.2.1 - n0) (S.2.2.2.2.1 - s0) Q (F0 m S.1 ls (S.2.2.1.map (tm_tr z b)))
section TS
variable {p : Program} {l : Launch} {e : Env} {R : Room} {s : State} {m : MethodId} {args : Array Value} {below : List Frame} {meth : Method} {c : Code} {Q : State → Prop} {D : va_G} {cA : Nat → ClassId} {z b n0 s0 nL o : Nat} {cc : ByteArray} {sc : tm_X} {pc : Nat} {lv : tm_L} {st : List Value} {h : tm_H} {S' : tm_S}
theorem tm_s_ild {i w : Nat} (hrow : ∀ {H : Heap} {locs : List Loc} {cells slots : Nat} {ls : Array Slot} {rest : List Value} {x : Int32}, ls[i]? = some (.val (.int x)) → W p l e R s m args below meth c H locs cells slots Q (F0 m (pc + w) ls (.int x :: rest)) → W p l e R s m args below meth c H locs cells slots Q (F0 m pc ls rest)) (hst : tm_ild w i pc lv st h = some S') (kk : tm_Wk p l e R s m args below meth c Q D cA z b n0 s0 nL S') : tm_Wk p l e R s m args below meth c Q D cA z b n0 s0 nL (pc, lv, st, h) := by
  intro ls H locs hl hR
  unfold tm_ild at hst
  split at hst
  · rename_i x hx
    cases hst
    exact hrow (tm_lv_at hl hx) (kk ls H locs hl hR)
  · cases hst
theorem tm_s_ald {i w : Nat} (hrow : ∀ {H : Heap} {locs : List Loc} {cells slots : Nat} {ls : Array Slot} {rest : List Value} {x : Nat}, ls[i]? = some (.val (.ref x)) → W p l e R s m args below meth c H locs cells slots Q (F0 m (pc + w) ls (.ref x :: rest)) → W p l e R s m args below meth c H locs cells slots Q (F0 m pc ls rest)) (hrowN : ∀ {H : Heap} {locs : List Loc} {cells slots : Nat} {ls : Array Slot} {rest : List Value}, ls[i]? = some (.val .null) → W p l e R s m args below meth c H locs cells slots Q (F0 m (pc + w) ls (.null :: rest)) → W p l e R s m args below meth c H locs cells slots Q (F0 m pc ls rest)) (hst : tm_ald w i pc lv st h = some S') (kk : tm_Wk p l e R s m args below meth c Q D cA z b n0 s0 nL S') : tm_Wk p l e R s m args below meth c Q D cA z b n0 s0 nL (pc, lv, st, h) := by
  intro ls H locs hl hR
  unfold tm_ald at hst
  split at hst
  · rename_i v hx
    split at hst
    · rename_i hv
      cases hst
      have k1 := kk ls H locs hl hR
      have h1 := tm_lv_at hl hx
      cases v <;> first | exact hrow h1 k1 | exact hrowN h1 k1 | (simp [tm_isR] at hv)
    · cases hst
  · cases hst
theorem tm_s_ist {i w : Nat} (hrow : ∀ {H : Heap} {locs : List Loc} {cells slots : Nat} {ls : Array Slot} {rest : List Value} {x : Int32} {lv lv' : List (Nat × Value)}, lv_has ls nL lv → i < nL → (i, Value.int x) :: lv.filter (fun q => !(q.1 == i) && !(q.1 + 1 == i && q.2.category == 2)) = lv' → (∀ ls' : Array Slot, lv_has ls' nL lv' → W p l e R s m args below meth c H locs cells slots Q (F0 m (pc + w) ls' rest)) → W p l e R s m args below meth c H locs cells slots Q (F0 m pc ls (.int x :: rest))) (hst : tm_ist w i pc nL lv st h = some S') (kk : tm_Wk p l e R s m args below meth c Q D cA z b n0 s0 nL S') : tm_Wk p l e R s m args below meth c Q D cA z b n0 s0 nL (pc, lv, st, h) := by
  intro ls H locs hl hR
  unfold tm_ist at hst
  split at hst
  · rename_i x r
    split at hst
    · rename_i hi
      cases hst
      exact hrow hl hi (tm_lv_set z b lv i (.int x)) (fun ls' hl' => kk ls' H locs hl' hR)
    · cases hst
  · cases hst
theorem tm_s_ast {i w : Nat} (hrow : ∀ {H : Heap} {locs : List Loc} {cells slots : Nat} {ls : Array Slot} {rest : List Value} {x : Nat} {lv lv' : List (Nat × Value)}, lv_has ls nL lv → i < nL → (i, Value.ref x) :: lv.filter (fun q => !(q.1 == i) && !(q.1 + 1 == i && q.2.category == 2)) = lv' → (∀ ls' : Array Slot, lv_has ls' nL lv' → W p l e R s m args below meth c H locs cells slots Q (F0 m (pc + w) ls' rest)) → W p l e R s m args below meth c H locs cells slots Q (F0 m pc ls (.ref x :: rest))) (hrowN : ∀ {H : Heap} {locs : List Loc} {cells slots : Nat} {ls : Array Slot} {rest : List Value} {lv lv' : List (Nat × Value)}, lv_has ls nL lv → i < nL → (i, Value.null) :: lv.filter (fun q => !(q.1 == i) && !(q.1 + 1 == i && q.2.category == 2)) = lv' → (∀ ls' : Array Slot, lv_has ls' nL lv' → W p l e R s m args below meth c H locs cells slots Q (F0 m (pc + w) ls' rest)) → W p l e R s m args below meth c H locs cells slots Q (F0 m pc ls (.null :: rest))) (hst : tm_ast w i pc nL lv st h = some S') (kk : tm_Wk p l e R s m args below meth c Q D cA z b n0 s0 nL S') : tm_Wk p l e R s m args below meth c Q D cA z b n0 s0 nL (pc, lv, st, h) := by
  intro ls H locs hl hR
  unfold tm_ast at hst
  split at hst
  · rename_i v r
    split at hst
    · rename_i hv
      obtain ⟨hv, hi⟩ := hv
      cases hst
      have k1 := fun ls' hl' => kk ls' H locs hl' hR
      have h1 := tm_lv_set z b lv i v
      cases v <;> first | exact hrow hl hi h1 k1 | exact hrowN hl hi h1 k1 | (simp [tm_isR] at hv)
    · cases hst
  · cases hst
theorem tm_s_bin {f : Int32 → Int32 → Int32} (hrow : ∀ {H : Heap} {locs : List Loc} {cells slots : Nat} {ls : Array Slot} {rest : List Value} {x y : Int32}, W p l e R s m args below meth c H locs cells slots Q (F0 m (pc + 1) ls (.int (f x y) :: rest)) → W p l e R s m args below meth c H locs cells slots Q (F0 m pc ls (.int y :: .int x :: rest))) (hst : tm_bin f pc lv st h = some S') (kk : tm_Wk p l e R s m args below meth c Q D cA z b n0 s0 nL S') : tm_Wk p l e R s m args below meth c Q D cA z b n0 s0 nL (pc, lv, st, h) := by
  intro ls H locs hl hR
  unfold tm_bin at hst
  split at hst
  · cases hst
    exact hrow (kk ls H locs hl hR)
  · cases hst
theorem tm_s_div {f : Int32 → Int32 → Int32} (hrow : ∀ {H : Heap} {locs : List Loc} {cells slots : Nat} {ls : Array Slot} {rest : List Value} {x y : Int32}, ¬ y = 0 → W p l e R s m args below meth c H locs cells slots Q (F0 m (pc + 1) ls (.int (f x y) :: rest)) → W p l e R s m args below meth c H locs cells slots Q (F0 m pc ls (.int y :: .int x :: rest))) (hst : tm_div f pc lv st h = some S') (kk : tm_Wk p l e R s m args below meth c Q D cA z b n0 s0 nL S') : tm_Wk p l e R s m args below meth c Q D cA z b n0 s0 nL (pc, lv, st, h) := by
  intro ls H locs hl hR
  unfold tm_div at hst
  split at hst
  · split at hst
    · cases hst
    · rename_i hy
      cases hst
      exact hrow hy (kk ls H locs hl hR)
  · cases hst
theorem tm_s_if1 {cd : Jvm.ClassFile.Cond} {off : Int} (hx : p.tables.exec = Jvm.exec) (hb : c.code = cc) (hd : decode cc pc = .ok (.ifCond cd off, 3)) (hst : tm_if1 cd off pc lv st h = some S') (kk : tm_Wk p l e R s m args below meth c Q D cA z b n0 s0 nL S') : tm_Wk p l e R s m args below meth c Q D cA z b n0 s0 nL (pc, lv, st, h) := by
  intro ls H locs hl hR
  unfold tm_if1 at hst
  split at hst
  · rename_i x r
    cases ht : tm_tgt pc off with
    | none => rw [ht] at hst; cases hst
    | some t =>
      rw [ht] at hst
      cases hst
      have ht' := tm_tgt_ok ht
      have k1 := kk ls H locs hl hR
      cases cd <;> simp only [tm_cmp] at k1
      · exact lv_if_eq hx hb hd ht' (fun q => by simpa [q] using k1) (fun q => by simpa [q] using k1)
      · exact lv_if_ne hx hb hd ht' (fun q => by simpa [q] using k1) (fun q => by simpa [q] using k1)
      · exact lv_if_lt hx hb hd ht' (fun q => by simpa [q] using k1) (fun q => by simpa [q] using k1)
      · exact lv_if_ge hx hb hd ht' (fun q => by simpa [q] using k1) (fun q => by simpa [q] using k1)
      · exact lv_if_gt hx hb hd ht' (fun q => by simpa [q] using k1) (fun q => by simpa [q] using k1)
      · exact lv_if_le hx hb hd ht' (fun q => by simpa [q] using k1) (fun q => by simpa [q] using k1)
  · cases hst
theorem tm_s_if2 {cd : Jvm.ClassFile.Cond} {off : Int} (hx : p.tables.exec = Jvm.exec) (hb : c.code = cc) (hd : decode cc pc = .ok (.if_icmp cd off, 3)) (hst : tm_if2 cd off pc lv st h = some S') (kk : tm_Wk p l e R s m args below meth c Q D cA z b n0 s0 nL S') : tm_Wk p l e R s m args below meth c Q D cA z b n0 s0 nL (pc, lv, st, h) := by
  intro ls H locs hl hR
  unfold tm_if2 at hst
  split at hst
  · rename_i x r
    cases ht : tm_tgt pc off with
    | none => rw [ht] at hst; cases hst
    | some t =>
      rw [ht] at hst
      cases hst
      have ht' := tm_tgt_ok ht
      have k1 := kk ls H locs hl hR
      cases cd <;> simp only [tm_cmp] at k1
      · exact lv_icmp_eq hx hb hd ht' (fun q => by simpa [q] using k1) (fun q => by simpa [q] using k1)
      · exact lv_icmp_ne hx hb hd ht' (fun q => by simpa [q] using k1) (fun q => by simpa [q] using k1)
      · exact lv_icmp_lt hx hb hd ht' (fun q => by simpa [q] using k1) (fun q => by simpa [q] using k1)
      · exact lv_icmp_ge hx hb hd ht' (fun q => by simpa [q] using k1) (fun q => by simpa [q] using k1)
      · exact lv_icmp_gt hx hb hd ht' (fun q => by simpa [q] using k1) (fun q => by simpa [q] using k1)
      · exact lv_icmp_le hx hb hd ht' (fun q => by simpa [q] using k1) (fun q => by simpa [q] using k1)
  · cases hst
theorem tm_s_switch {dflt lo hi : Int} {offs : Array Int} {len : Nat} (hx : p.tables.exec = Jvm.exec) (hb : c.code = cc) (hd : decode cc pc = .ok (.tableswitch dflt lo hi offs, len)) (hst : tm_switch dflt lo hi offs pc lv st h = some S') (kk : tm_Wk p l e R s m args below meth c Q D cA z b n0 s0 nL S') : tm_Wk p l e R s m args below meth c Q D cA z b n0 s0 nL (pc, lv, st, h) := by
  intro ls H locs hl hR
  unfold tm_switch at hst
  split at hst
  · rename_i x r
    split at hst
    · rename_i hr
      cases ht : tm_tgt pc dflt with
      | none => rw [ht] at hst; cases hst
      | some t =>
        rw [ht] at hst
        cases hst
        exact lv_tableOut hx hb hd hr (tm_tgt_ok ht) (kk ls H locs hl hR)
    · rename_i hr
      split at hst
      · rename_i off ho
        cases ht : tm_tgt pc off with
        | none => rw [ht] at hst; cases hst
        | some t =>
          rw [ht] at hst
          cases hst
          exact lv_tableIn hx hb hd (fun q => hr (Or.inl q)) (fun q => hr (Or.inr q)) ho (tm_tgt_ok ht) (kk ls H locs hl hR)
      · cases hst
  · cases hst
theorem tm_s_acmp {cd : Jvm.ClassFile.ACond} {off : Int} (hx : p.tables.exec = Jvm.exec) (hb : c.code = cc) (hd : decode cc pc = .ok (.if_acmp cd off, 3)) (hst : tm_acmp cd off pc lv st h = some S') (kk : tm_Wk p l e R s m args below meth c Q D cA z b n0 s0 nL S') : tm_Wk p l e R s m args below meth c Q D cA z b n0 s0 nL (pc, lv, st, h) := by
  intro ls H locs hl hR
  unfold tm_acmp at hst
  split at hst
  · rename_i y x r
    split at hst
    · rename_i ry rx t hy hx' ht
      cases hst
      have ht' := tm_tgt_ok ht
      have k1 := kk ls H locs hl hR
      have ey : tm_tr z b y = va_rf (ry.map (fun k => z + k)) := by cases y <;> simp [tm_rfOf] at hy <;> subst hy <;> rfl
      have ex : tm_tr z b x = va_rf (rx.map (fun k => z + k)) := by cases x <;> simp [tm_rfOf] at hx' <;> subst hx' <;> rfl
      have inj : rx.map (fun k => z + k) = ry.map (fun k => z + k) ↔ rx = ry := by
        cases rx <;> cases ry <;> simp
      show W _ _ _ _ _ _ _ _ _ _ _ _ _ _ _ (F0 m pc ls (tm_tr z b y :: tm_tr z b x :: r.map (tm_tr z b)))
      rw [ey, ex]
      cases cd
      · exact lv_acmp_eq hx hb hd ht' (fun q => by simpa [inj.mp q] using k1) (fun q => by simpa [mt inj.mpr q] using k1)
      · exact lv_acmp_ne hx hb hd ht' (fun q => by simpa [mt inj.mpr q] using k1) (fun q => by
          have q' : rx = ry := inj.mp q
          simpa [q'] using k1)
    · cases hst
  · cases hst
theorem tm_s_ifnull {off : Int} (hx : p.tables.exec = Jvm.exec) (hb : c.code = cc) (hd : decode cc pc = .ok (.ifnull off, 3)) (hst : tm_ifnull true off pc lv st h = some S') (kk : tm_Wk p l e R s m args below meth c Q D cA z b n0 s0 nL S') : tm_Wk p l e R s m args below meth c Q D cA z b n0 s0 nL (pc, lv, st, h) := by
  intro ls H locs hl hR
  unfold tm_ifnull at hst
  split at hst
  · cases ht : tm_tgt pc off with
    | none => rw [ht] at hst; cases hst
    | some t =>
      rw [ht] at hst
      cases hst
      exact lv_ifnullN hx hb hd (tm_tgt_ok ht) (kk ls H locs hl hR)
  · cases ht : tm_tgt pc off with
    | none => rw [ht] at hst; cases hst
    | some t =>
      rw [ht] at hst
      cases hst
      exact lv_ifnull hx hb hd (kk ls H locs hl hR)
  · cases hst
theorem tm_s_ifnonnull {off : Int} (hx : p.tables.exec = Jvm.exec) (hb : c.code = cc) (hd : decode cc pc = .ok (.ifnonnull off, 3)) (hst : tm_ifnull false off pc lv st h = some S') (kk : tm_Wk p l e R s m args below meth c Q D cA z b n0 s0 nL S') : tm_Wk p l e R s m args below meth c Q D cA z b n0 s0 nL (pc, lv, st, h) := by
  intro ls H locs hl hR
  unfold tm_ifnull at hst
  split at hst
  · cases ht : tm_tgt pc off with
    | none => rw [ht] at hst; cases hst
    | some t =>
      rw [ht] at hst
      cases hst
      exact lv_ifnonnullN hx hb hd (kk ls H locs hl hR)
  · cases ht : tm_tgt pc off with
    | none => rw [ht] at hst; cases hst
    | some t =>
      rw [ht] at hst
      cases hst
      exact lv_ifnonnull hx hb hd (tm_tgt_ok ht) (kk ls H locs hl hR)
  · cases hst
end TS
