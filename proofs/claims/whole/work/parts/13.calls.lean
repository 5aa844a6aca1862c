/-! Calls: every row of the call table is words of the tables -/
def tm_achk (r : tm_CT) : Bool := match tm_own[r.1]? with
  | none => false
  | some own => match r.2.2.1 with
    | 3 => decide (lw_tbl[r.2.2.2.2.2.1]? = some (Cond.methodLink own r.2.1 objectInit)) && decide (lw_tbl[r.2.2.2.2.2.2.2.1]? = some (Cond.instanceMethod objectInit))
    | 4 => decide (lw_tbl[r.2.2.2.2.2.1]? = some (Cond.methodLink own r.2.1 arraycopyName)) && decide (lw_tbl[r.2.2.2.2.2.2.2.1]? = some (Cond.static arraycopyName)) && decide (lw_tbl[r.2.2.2.2.2.2.2.2.1]? = some (Cond.native arraycopyName)) && decide (lw_tbl[r.2.2.2.2.2.2.2.2.2]? = some (Cond.initialized "java/lang/System"))
    | 5 => decide (lw_tbl[r.2.2.2.2.2.1]? = some (Cond.methodLink own r.2.1 Lib.Math.min.name)) && decide (lw_tbl[r.2.2.2.2.2.2.2.1]? = some (Cond.static Lib.Math.min.name)) && decide (lw_tbl[r.2.2.2.2.2.2.2.2.2]? = some (Cond.initialized "java/lang/Math"))
    | 6 => decide (lw_tbl[r.2.2.2.2.2.1]? = some (Cond.methodLink own r.2.1 Lib.Math.max.name)) && decide (lw_tbl[r.2.2.2.2.2.2.2.1]? = some (Cond.static Lib.Math.max.name)) && decide (lw_tbl[r.2.2.2.2.2.2.2.2.2]? = some (Cond.initialized "java/lang/Math"))
    | k => match tm_Ms[r.2.2.2.1]? with
      | none => false
      | some M => decide (lw_tbl[r.2.2.2.2.2.1]? = some (if r.2.2.2.2.2.2.1 = 1 then Cond.methodLinkNest own r.2.1 M.1 "SealedHouse" else Cond.methodLink own r.2.1 M.1)) && decide (lw_tbl[r.2.2.2.2.2.2.2.2.2]? = some (Cond.initialized M.1.cls)) && decide ((parseMethodDescriptor M.1.desc).map (fun d => d.parameters.length) = some r.2.2.2.2.1) && decide (M.1.cls ≠ "java/lang/invoke/MethodHandle" ∧ M.1.cls ≠ "java/lang/invoke/VarHandle") && plainName M.1.cls && decide (tm_own[M.2.2.2.2]? = some M.1.cls) && decide (r.2.2.2.1 < 287) && decide (M.2.2.1 ≤ 13) && (match k with
        | 0 => decide (lw_tbl[r.2.2.2.2.2.2.2.1]? = some (Cond.instanceMethod M.1)) && decide (lw_tbl[r.2.2.2.2.2.2.2.2.1]? = some (Cond.selects M.1.cls M.1 M.1))
        | 1 => decide (lw_tbl[r.2.2.2.2.2.2.2.1]? = some (Cond.instanceMethod M.1)) && decide (M.1.name = "<init>") && decide (M.2.2.2.1 = none)
        | 2 => decide (lw_tbl[r.2.2.2.2.2.2.2.1]? = some (Cond.static M.1))
        | _ => false)
set_option maxRecDepth 100000 in
theorem tm_calls0_ok : tm_calls0.all tm_achk = true := by decide +kernel
set_option maxRecDepth 100000 in
theorem tm_calls1_ok : tm_calls1.all tm_achk = true := by decide +kernel
set_option maxRecDepth 100000 in
theorem tm_calls2_ok : tm_calls2.all tm_achk = true := by decide +kernel
set_option maxRecDepth 100000 in
theorem tm_calls3_ok : tm_calls3.all tm_achk = true := by decide +kernel
set_option maxRecDepth 100000 in
theorem tm_calls4_ok : tm_calls4.all tm_achk = true := by decide +kernel
set_option maxRecDepth 100000 in
theorem tm_calls5_ok : tm_calls5.all tm_achk = true := by decide +kernel
set_option maxRecDepth 100000 in
theorem tm_calls6_ok : tm_calls6.all tm_achk = true := by decide +kernel
theorem tm_calls_ok : tm_calls.all tm_achk = true := by
  unfold tm_calls
  simp only [List.all_append, tm_calls0_ok, tm_calls1_ok, tm_calls2_ok, tm_calls3_ok, tm_calls4_ok, tm_calls5_ok, tm_calls6_ok, Bool.and_self]
set_option maxRecDepth 100000 in
theorem tm_Mp_ok : (tm_Ms.take 287).map (fun M => Cond.code M.1 M.2.1 M.2.2.1 M.2.2.2.1) = tm_Mp.filterMap (fun i => lw_tbl[i]?) := rfl
theorem tm_code_in {j : Nat} {M : tm_MT} (hj : j < 287) (h : tm_Ms[j]? = some M) : Cond.code M.1 M.2.1 M.2.2.1 M.2.2.2.1 ∈ lw_tbl := by
  have h1 : M ∈ tm_Ms.take 287 := by
    refine List.mem_of_getElem? (i := j) ?_
    rw [List.getElem?_take, if_pos hj]
    exact h
  have h2 : Cond.code M.1 M.2.1 M.2.2.1 M.2.2.2.1 ∈ (tm_Ms.take 287).map (fun M => Cond.code M.1 M.2.1 M.2.2.1 M.2.2.2.1) := List.mem_map.mpr ⟨M, h1, rfl⟩
  rw [tm_Mp_ok] at h2
  obtain ⟨i, -, hi⟩ := List.mem_filterMap.mp h2
  exact List.mem_of_getElem? hi
theorem tm_call_row {o i : Nat} {r : tm_CT} (h : tm_callR o i = some r) : r.1 = o ∧ r.2.1 = i ∧ tm_achk r = true := by
  have h1 := List.find?_some h
  have h2 := List.mem_of_find?_eq_some h
  simp only [Bool.and_eq_true, beq_iff_eq] at h1
  exact ⟨h1.1, h1.2, List.all_eq_true.mp tm_calls_ok r h2⟩
