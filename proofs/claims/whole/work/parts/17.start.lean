def R_law : String := "SealedHouseLaw"
def lw_P (b : Addr) (xs : List Int32) (args : Array Value) (s : State) : Prop := args = #[.ref b] ∧ s.IntsAt b xs ∧ xs.length ≤ 320 ∧ (Jvm.Cond.and given_1 narrow_1).before args s = true
def lw_Q (_ : Array Value) (s : State) (o : Outcome) (t : State) : Prop := o = .returned (some (.int 1)) ∧ Framed s o t [] 600000 7302250
def lw_Z (below : List Frame) (a : Array Value) (s : State) : State → Prop := fun t => ∃ o, t.status = .running ∧ Ended t below o ∧ lw_Q a s o t
/-- the law's own end, with 1 on the stack, nothing written that was there before, its room as the claim has it -/
theorem lw_ret {p : Program} {l : Launch} {e : Env} {s : State} {m : MethodId} {below : List Frame} {meth : Method} {c : Code} {b : Nat} (hx : p.tables.exec = Jvm.exec) (hb : c.code = code) (hr : meth.sig.returnType = ret) (hlocks : meth.locks = false) {pc : Nat} {H : Heap} {ls : Array Slot} (hdg : decode code pc = .ok (.ireturn, 1)) : W p l e room_1 s m #[Value.ref b] below meth c H [] 600000 7302250 (lw_Z below #[Value.ref b] s) (F0 m pc ls [.int 1]) := by
  intro T hT X
  obtain ⟨fs, hret, hrun, hended, hW, hframe⟩ := X.leave (v := some (.int 1)) (hlocks := hlocks) (fun h => by rw [hr] at h; cases h)
  have hmeth' : T.vm.method? m = some meth := X.method'
  refine ⟨T.setFrames fs, ?_, .returned (some (.int 1)), hrun, hended, rfl, ⟨_, rfl⟩, hW, hframe⟩
  jvm_step X.here [X.here.top, hx, hb, hdg, hmeth', hr, ret, narrow_b1]
  (try refine ⟨rfl, ?_⟩); (try refine ⟨rfl, ?_⟩)
  first | (intro acts; rw [hret _ acts rfl rfl rfl]) | rw [hret _ _ rfl rfl rfl]
  exact Steps.refl _
/-- what holds at the law's entry: the machine, the code, the tables' words (any of lw_tbl by 'hts w (by decide +kernel)'), the script of L ints xs at the cell b, what the Statement gives of the start (any of its parts by flat_of_before) -/
def lw_At (p : Program) (s : State) (m : MethodId) (meth : Method) (c : Code) (b L : Nat) (xs : Nat → Int32) : Prop :=
  p.tables.exec = Jvm.exec ∧ c.code = code ∧ meth.sig.returnType = ret ∧ c.maxLocals = 4 ∧ s.vm.findClass R_law = some m.cls ∧ (∀ w ∈ lw_tbl, w.before #[Value.ref b] s = true) ∧ va_X b L xs s s.heap ∧ b < s.heap.size ∧ meth.locks = false ∧ (Jvm.Cond.and given_1 narrow_1).before #[Value.ref b] s = true
/-! THE CLAIM OUT OF THE SMALL MACHINE's RUN OF THE LAW -/
def tm_h0 : tm_H := (0, 0, fun _ => .inr (.inr (0, [])))
/-- what is left to prove, of a plain function -/
def tm_Ok : Prop := ∀ sc : tm_X, sc.1 ≤ 320 → ∃ (fuel : Nat) (h' : tm_H), tm_run sc fuel 14 287 0 (tm_ent [.retAddr 0]) [] tm_h0 = some (some (.int 1), h') ∧ h'.1 ≤ 600000 ∧ h'.2.1 ≤ 7302250
set_option maxRecDepth 100000 in
theorem tm_law_M : tm_Ms[287]? = some (x, code, maxLocals, ret, 13) := rfl
theorem tm_kn_ok : (List.range 13).all (fun ci => tm_news.any (fun r => decide (r.2.2.1 = ci))) = true := by decide +kernel
theorem tm_kn {s : State} {args : Array Value} (hts : ∀ w ∈ tm_T, w.before args s = true) {ci : Nat} {q : vw_C} (hq : tm_cl[ci]? = some q) : ∃ (cC : ClassId) (iS : Nat → Nat), u_Kn s q.1 q.2.1 q.2.2 cC iS := by
  have h1 := List.all_eq_true.mp tm_kn_ok ci (List.mem_range.mpr (tm_cl_lt hq))
  obtain ⟨r, hr, hrc⟩ := List.any_eq_true.mp h1
  have hrc := of_decide_eq_true hrc
  have h2 := List.all_eq_true.mp tm_news_ok r hr
  unfold tm_nchk at h2
  rw [hrc, hq] at h2
  split at h2
  · rename_i own q' ho hq'
    cases hq'
    simp only [Bool.and_eq_true, decide_eq_true_eq] at h2
    obtain ⟨ts, -, -, hin, -⟩ := tm_class hq
    exact u_known hts hin (hts _ (tm_good_in (List.mem_of_getElem? h2.1.2) rfl))
  · cases h2
theorem tm_arr {s : State} {args : Array Value} (hts : ∀ w ∈ lw_tbl, w.before args s = true) {t : Nat} {ty : FieldType} (ht : tm_tys[t]? = some ty) : ∃ cA : ClassId, ArrOfT s cA ty ∧ va_RA s cA ty := by
  have hw := hts _ (tm_ty_word ht)
  by_cases h2 : t < 2
  · rw [if_pos h2] at hw
    obtain ⟨c, k, comp, h1, h3, h4⟩ := Cond.arrayClass_spec hw
    refine ⟨c, fun n z => ⟨fun k h => (by cases h), k, h3, comp, h4⟩, ?_⟩
    rcases (show t = 0 ∨ t = 1 by omega) with rfl | rfl <;> cases ht <;> exact h1
  · rw [if_neg h2] at hw
    cases ty with
    | object C =>
      obtain ⟨comp, c, k, f1, f2, f3, f4, f5⟩ := Cond.arrayOver_spec hw
      exact ⟨c, fun n z => ⟨fun k h => (by cases h), k, f3, comp, f4⟩, k, comp, f3, f4, f1, f5⟩
    | array t' =>
      unfold Cond.before Cond.holds at hw
      simp only [Cond.value, beq_iff_eq] at hw
      cases hc : s.vm.findClass (FieldType.array t').toString with
      | none => simp [hc] at hw
      | some comp =>
        simp only [hc, Option.bind_some, Option.bind_eq_some_iff, Option.map_eq_some_iff] at hw
        obtain ⟨c, hi, k, hk, hb⟩ := hw
        cases hkind : k.kind with
        | array component ty' =>
          rw [hkind] at hb
          simp only [Bool.and_eq_true, decide_eq_true_eq] at hb
          refine ⟨c, fun n z => ⟨fun k h => (by cases h), k, hk, component, ?_⟩, hb.2⟩
          rw [hkind, hb.1]
        | _ => rw [hkind] at hb; simp at hb
    | _ => simp [Cond.before, Cond.holds, Cond.value] at hw
set_option maxHeartbeats 4000000 in
theorem tm_start (hMN : tm_MN) (hOk : tm_Ok) {p : Program} {e : Env} {s : State} {m : MethodId} {below : List Frame} {meth : Method} {c : Code} (l : Launch) {b L : Nat} {xs : Nat → Int32} (hL : L ≤ 320) (C0 : lw_At p s m meth c b L xs) : W p l e room_1 s m #[Value.ref b] below meth c s.heap [] 0 0 (lw_Z below #[Value.ref b] s) (entryFrame m ([Value.ref b] : List Value).toArray 4) := by
  obtain ⟨hx, hb, hr, hml, hown, hts, hX, hbl, hlocks, hgv⟩ := id C0
  have hts' : ∀ w ∈ tm_T, w.before #[Value.ref b] s = true := fun w hw => hts w (List.mem_filter.mp hw).1
  obtain ⟨D, hKc⟩ : ∃ D : va_G, ∀ (k : Nat) (q : vw_C), tm_cl[k]? = some q → u_Kn s q.1 q.2.1 q.2.2 (D.1 k) (D.2 k) := by
    have hex : ∀ k : Nat, ∃ P : ClassId × (Nat → Nat), ∀ q : vw_C, tm_cl[k]? = some q → u_Kn s q.1 q.2.1 q.2.2 P.1 P.2 := by
      intro k
      cases hq : tm_cl[k]? with
      | none => exact ⟨(0, fun _ => 0), fun q h => by cases h⟩
      | some q =>
        obtain ⟨cC, iS, hK⟩ := tm_kn hts' hq
        exact ⟨(cC, iS), fun q' h => by cases h; exact hK⟩
    exact ⟨(fun k => (Classical.choose (hex k)).1, fun k => (Classical.choose (hex k)).2), fun k q h => Classical.choose_spec (hex k) q h⟩
  obtain ⟨cA, hA⟩ : ∃ cA : Nat → ClassId, ∀ (t : Nat) (ty : FieldType), tm_tys[t]? = some ty → ArrOfT s (cA t) ty ∧ va_RA s (cA t) ty := by
    have hex : ∀ t : Nat, ∃ c : ClassId, ∀ ty : FieldType, tm_tys[t]? = some ty → ArrOfT s c ty ∧ va_RA s c ty := by
      intro t
      cases ht : tm_tys[t]? with
      | none => exact ⟨0, fun q h => by cases h⟩
      | some ty =>
        obtain ⟨c, hc⟩ := tm_arr hts ht
        exact ⟨c, fun q h => by cases h; exact hc⟩
    exact ⟨fun t => Classical.choose (hex t), fun t ty h => Classical.choose_spec (hex t) ty h⟩
  have hK : va_K D tm_cl (tm_ty cA) s := by
    refine ⟨hKc, fun k q hk => ?_⟩
    have hlt : k < 9 := by
      have := (List.getElem?_eq_some_iff.mp hk).1
      simpa [tm_ty] using this
    obtain ⟨ty, hty⟩ := tm_tys_lt hlt
    rw [tm_ty_at hty] at hk
    cases hk
    exact hA k ty hty
  have hZ : tm_Z D cA s := by
    refine ⟨hK, fun w hw hn => ?_, fun w hw hn => ?_⟩
    · have h1 := hts w hw
      cases w <;> first | exact va_Nw.of rfl h1 | (simp [tm_isN] at hn)
    · have h1 := hts w hw
      cases w <;> first | exact h1 | (simp [tm_isO] at hn)
  obtain ⟨fuel, h', hrun, hc1, hc2⟩ := hOk (L, xs) hL
  have C : tm_C D cA s.heap.size b (L, xs) 13 4 code p s m #[Value.ref b] c := ⟨hx, hb, hml, ⟨_, rfl, hown⟩, hts', hZ, hX, hbl⟩
  have key := tm_main hMN l D cA s.heap.size b (L, xs) fuel 14 287 (x, code, maxLocals, ret, 13) 0 (tm_ent [.retAddr 0]) [] tm_h0 (some (.int 1)) h' tm_law_M hrun p e room_1 s m #[Value.ref b] below meth c (lw_Z below #[Value.ref b] s) 0 0 C (by omega) (fun hi => absurd hi (by decide)) (Nat.le_refl _) (by decide) (by show h'.1 - 0 ≤ 600000; omega) (by show h'.2.1 - 0 ≤ 7302250; omega) ?_
  · have hl := lv_entry ([Value.ref b]) (n := 4) (Nat.le_of_ble_eq_true rfl)
    rw [lg_entry_eq]
    have hP : va_P D tm_cl (tm_ws s.heap.size b cA tm_h0) s.heap := fun k q h => by simp [tm_ws, tm_h0] at h
    exact key _ s.heap [] hl ⟨hP, va_S.rf, Nat.le_refl _, Nat.le_refl _⟩
  · intro pc' i st' ls H locs hdec hret hR
    have hst : i = .ireturn ∧ st' = [.int 1] := by
      unfold tm_retOk at hret
      split at hret
      · split at hret
        · cases hret; exact ⟨rfl, rfl⟩
        · cases hret
      · rename_i hrt
        cases hrt
      · rename_i hrt
        cases hrt
      · cases hret
      · cases hret
    obtain ⟨rfl, rfl⟩ := hst
    refine va_forget (fun q hq => hR.2.1.2.2 q hq) ?_
    refine W.widen (k := 600000) (n := 7302250) (by omega) (by omega) ?_
    exact lw_ret hx hb hr hlocks hdec
