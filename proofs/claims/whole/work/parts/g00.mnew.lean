/-! new int[n][k], from the model's own text of the instruction: rows are made one after the other and laid into the outer array. -/
def mn_f (z i : Nat) : Nat → Value := fun j => va_rf (if j < i then some (z + 1 + j) else none)
def mn_s (S : State) (cO cI : ClassId) (N M : Nat) : Nat → State
  | 0 => S.pushCell (arrV cO N (mn_f S.heap.size 0))
  | i + 1 => ((mn_s S cO cI N M i).pushCell (arrV cI M fun _ => .int 0)).setCell S.heap.size (arrV cO N (mn_f S.heap.size (i + 1)))
theorem mn_lay (cO : ClassId) (N z i : Nat) : (arrV cO N (mn_f z i)).setSlot i (.ref (z + 1 + i)) = arrV cO N (mn_f z (i + 1)) := by
  rw [arrV_store]
  refine congrArg (arrV cO N) (funext fun j => ?_)
  unfold updV mn_f
  rcases Nat.lt_trichotomy j i with h | h | h
  · rw [if_neg (Nat.ne_of_lt h), if_pos h, if_pos (Nat.lt_succ_of_lt h)]
  · subst h
    rw [if_pos rfl, if_pos (Nat.lt_succ_self j)]
    rfl
  · rw [if_neg (Nat.ne_of_gt h), if_neg (by omega), if_neg (by omega)]
theorem mn_all (S : State) (cO cI : ClassId) (N M : Nat) : ∀ i : Nat, (mn_s S cO cI N M i).heap.size = S.heap.size + 1 + i ∧ (mn_s S cO cI N M i).vm = S.vm ∧ (mn_s S cO cI N M i).slotsUsed = S.slotsUsed + N + i * M ∧
    (mn_s S cO cI N M i).heap[S.heap.size]? = some (arrV cO N (mn_f S.heap.size i)) ∧ (∀ x : Nat, x < S.heap.size → (mn_s S cO cI N M i).heap[x]? = S.heap[x]?) ∧
    ∀ j : Nat, j < i → (mn_s S cO cI N M i).heap[S.heap.size + 1 + j]? = some (arrV cI M fun _ => .int 0)
  | 0 => ⟨by simp [mn_s], rfl, by simp [mn_s, arrV_size], by simp [mn_s], fun x hx => State.heap_pushCell_of_lt _ _ hx, fun j hj => absurd hj (Nat.not_lt_zero j)⟩
  | i + 1 => by
    obtain ⟨h1, h2, h3, h4, h5, h6⟩ := mn_all S cO cI N M i
    have hlk : ∀ x : Nat, x ≠ S.heap.size → (mn_s S cO cI N M (i + 1)).heap[x]? = ((mn_s S cO cI N M i).pushCell (arrV cI M fun _ => .int 0)).heap[x]? := fun x hx => by
      show (Array.setIfInBounds _ _ _)[x]? = _
      rw [Array.getElem?_setIfInBounds, if_neg (Ne.symm hx)]
    have hps : ∀ x : Nat, x < S.heap.size + 1 + i → ((mn_s S cO cI N M i).pushCell (arrV cI M fun _ => .int 0)).heap[x]? = (mn_s S cO cI N M i).heap[x]? := fun x hx => State.heap_pushCell_of_lt _ _ (by rw [h1]; exact hx)
    refine ⟨?_, h2, ?_, ?_, fun x hx => ?_, fun j hj => ?_⟩
    · show (Array.setIfInBounds _ _ _).size = _
      simp [h1]
      omega
    · show (mn_s S cO cI N M i).slotsUsed + (arrV cI M fun _ => .int 0).slots.size = _
      rw [h3, arrV_size, Nat.succ_mul]
      omega
    · show (Array.setIfInBounds _ _ _)[S.heap.size]? = _
      rw [Array.getElem?_setIfInBounds, if_pos rfl, if_pos]
      simp [h1]
      omega
    · rw [hlk x (Nat.ne_of_lt hx), hps x (by omega)]
      exact h5 x hx
    · rw [hlk _ (by omega)]
      by_cases hj2 : j < i
      · rw [hps _ (by omega)]
        exact h6 j hj2
      · have e : S.heap.size + 1 + j = (mn_s S cO cI N M i).heap.size := by omega
        rw [e]
        exact State.heap_pushCell_size _ _
theorem mn_top (S : State) (f : JFrame) (cO cI : ClassId) (N M : Nat) : ∀ i : Nat, mn_s (S.setTop f) cO cI N M i = (mn_s S cO cI N M i).setTop f
  | 0 => rfl
  | i + 1 => by
    show ((mn_s (S.setTop f) cO cI N M i).pushCell _).setCell S.heap.size _ = _
    rw [mn_top S f cO cI N M i]
    rfl
section MNW
variable {E : CtlPost} {e : Env} {d : Bool} {acts : List Action} {s : State}
theorem mn_row {cI cc : ClassId} {kc : Class} {k : Int32} {Q : Addr → Pre} (hkc : s.vm.classes[cI]? = some kc) (hkd : kc.kind = .array cc .int) (hk : ¬ k < 0)
    (hl : ¬ k.toNatClampNeg > e.platform.arrayLengthLimit) (hh : ¬ k.toNatClampNeg * componentBytes .int > e.platform.maxHeapBytes) (h1 : s.heap.size < e.platform.maxCells) (h2 : s.slotsUsed + k.toNatClampNeg ≤ e.platform.maxSlots)
    (hq : ∀ acts', Q s.heap.size d acts' (s.pushCell (arrV cI k.toNatClampNeg fun _ => .int 0))) : wp (Jvm.Op.multianewarray.make cI [k]) Q E e d acts s := by
  rw [Jvm.Op.multianewarray.make]
  simp only [wp_bind', W.ite, hk, if_false, wp_pure', W.theClass, hkc, hkd, Option.some.injEq, exists_eq_left']
  refine W.newArray_of hkc hkd hl hh h1 h2 rfl fun acts' => ?_
  have := hq acts'
  rw [← arrV_new] at this
  exact this
theorem mn_make {cO cI cc : ClassId} {kO kI : Class} {n k : Int32} {Q : Addr → Pre} (hkO : s.vm.classes[cO]? = some kO) (hdO : kO.kind = .array cI (.array .int)) (hkI : s.vm.classes[cI]? = some kI) (hdI : kI.kind = .array cc .int)
    (hn : ¬ n < 0) (hk : ¬ k < 0) (hl1 : ¬ n.toNatClampNeg > e.platform.arrayLengthLimit) (hh1 : ¬ n.toNatClampNeg * componentBytes (.array .int) > e.platform.maxHeapBytes)
    (hl2 : ¬ k.toNatClampNeg > e.platform.arrayLengthLimit) (hh2 : ¬ k.toNatClampNeg * componentBytes .int > e.platform.maxHeapBytes)
    (h1 : s.heap.size + (1 + n.toNatClampNeg) ≤ e.platform.maxCells) (h2 : s.slotsUsed + (n.toNatClampNeg + n.toNatClampNeg * k.toNatClampNeg) ≤ e.platform.maxSlots)
    (hq : ∀ d' acts', Q s.heap.size d' acts' (mn_s s cO cI n.toNatClampNeg k.toNatClampNeg n.toNatClampNeg)) : wp (Jvm.Op.multianewarray.make cO [n, k]) Q E e d acts s := by
  rw [Jvm.Op.multianewarray.make]
  simp only [wp_bind', W.ite, hn, if_false, wp_pure', W.theClass, hkO, hdO, Option.some.injEq, exists_eq_left']
  refine W.newArray_of hkO hdO hl1 hh1 (by omega) (by omega) rfl fun acts' => ?_
  have hneg : List.find? (fun x : Int32 => decide (x < 0)) [k] = none := by simp [hk]
  simp only [hneg, ite_self, wp_bind', Std.Legacy.Range.forIn_eq_forIn_range']
  have hrow : ∀ (N i : Nat) (t : State) (d1 : Bool) (a1 : List Action) (Q1 : PUnit → Pre), N + i = n.toNatClampNeg → t = mn_s s cO cI n.toNatClampNeg k.toNatClampNeg i →
      (∀ d2 a2, Q1 PUnit.unit d2 a2 (mn_s s cO cI n.toNatClampNeg k.toNatClampNeg n.toNatClampNeg)) →
      wp (forIn (List.range' i N) PUnit.unit fun (x : Nat) (_ : PUnit) => do
        Jvm.writeLoc s.heap.size x (.ref (← Jvm.Op.multianewarray.make cI [k]))
        Pure.pure (ForInStep.yield PUnit.unit)) Q1 E e d1 a1 t := by
    intro N
    induction N with
    | zero =>
      intro i t d1 a1 Q1 hi ht hQ
      have hi2 : i = n.toNatClampNeg := by omega
      subst ht
      subst hi2
      simp only [List.range'_zero, List.forIn_nil, wp_pure']
      exact hQ _ _
    | succ N ih =>
      intro i t d1 a1 Q1 hi ht hQ
      subst ht
      obtain ⟨f1, f2, f3, f4, -, -⟩ := mn_all s cO cI n.toNatClampNeg k.toNatClampNeg i
      have hm : i * k.toNatClampNeg + k.toNatClampNeg ≤ n.toNatClampNeg * k.toNatClampNeg := by
        rw [← Nat.succ_mul]
        exact Nat.mul_le_mul_right _ (by omega)
      simp only [List.range'_succ, List.forIn_cons, wp_bind']
      refine mn_row (by rw [f2]; exact hkI) hdI hk hl2 hh2 (by rw [f1]; omega) (by rw [f3]; omega) fun a2 => ?_
      simp only [wp_bind', W.writeLoc, wp_pure']
      refine ⟨arrV cO n.toNatClampNeg (mn_f s.heap.size i), ?_, by simp [arrV], by rw [arrV_size]; omega, ?_, ?_⟩
      · rw [State.heap_pushCell_of_lt (a := s.heap.size) _ _ (by rw [f1]; exact Nat.lt_of_lt_of_le (Nat.lt_succ_self _) (Nat.le_add_right _ _))]
        exact f4
      · simp [arrV, State.fitsSlot, State.slotType?, f2, hkO, hdO, fits]
      · rw [f1, mn_lay]
        exact ih (i + 1) _ _ _ _ (by omega) rfl hQ
  have hsz : ([:n.toNatClampNeg] : Std.Legacy.Range).size = n.toNatClampNeg := by simp [Std.Legacy.Range.size]
  rw [hsz]
  refine hrow n.toNatClampNeg 0 _ _ _ _ rfl ?_ fun d2 a2 => ?_
  · rw [arrV_new]
    rfl
  · exact hq _ _
end MNW
theorem mn_over {args : Array Value} {s : State} {cO cI : ClassId} (h : (Cond.arrayOver (.array .int)).before args s = true) (hO : s.vm.findClass ("[" ++ (FieldType.array .int).toString) = some cO) (hI : s.vm.findClass ("[" ++ FieldType.int.toString) = some cI) :
    ∃ k : Class, s.vm.classes[cO]? = some k ∧ k.kind = .array cI (.array .int) := by
  have e : s.vm.findClass (FieldType.array .int).toString = some cI := hI
  simp only [Cond.before, Cond.holds, Cond.value, e, beq_iff_eq, Option.bind_some, Option.bind_eq_some_iff, Option.map_eq_some_iff] at h
  obtain ⟨q, hq, k, hk, hb⟩ := h
  obtain ⟨hlt, hp, -⟩ := Array.findIdx?_eq_some_iff_getElem.mp hq
  rw [(Array.getElem?_eq_some_iff.mp hk).2] at hp
  cases hd : k.kind with
  | array cp ty =>
    simp only [hd, beq_iff_eq, Bool.and_eq_true, decide_eq_true_eq] at hb hp
    obtain ⟨rfl, hb⟩ := hb
    subst hp
    cases hO.symm.trans hb
    exact ⟨k, hk, hd⟩
  | _ => simp [hd] at hb
section MNS
variable {p : Program} {l : Launch} {e : Env} {R : Room} {s : State} {m : MethodId} {args : Array Value} {below : List Frame} {meth : Method} {c : Code} {T : State} {locs : List Loc} {cells slots : Nat}
theorem mn_stand (X : Stand p l e R s m args below meth c T locs cells slots) (cO cI : ClassId) (N M : Nat) : ∀ i : Nat, Stand p l e R s m args below meth c (mn_s T cO cI N M i) locs (cells + 1 + i) (slots + N + i * M)
  | 0 => by
    have h := X.pushed (arrV cO N (mn_f T.heap.size 0))
    rw [arrV_size] at h
    rw [Nat.zero_mul]
    exact h
  | i + 1 => by
    obtain ⟨f1, -, -, f4, -, -⟩ := mn_all T cO cI N M i
    have hc : ((mn_s T cO cI N M i).pushCell (arrV cI M fun _ => .int 0)).heap[T.heap.size]? = some (arrV cO N (mn_f T.heap.size i)) := by
      rw [State.heap_pushCell_of_lt (a := T.heap.size) _ _ (by rw [f1]; exact Nat.lt_of_lt_of_le (Nat.lt_succ_self _) (Nat.le_add_right _ _))]
      exact f4
    have h := ((mn_stand X cO cI N M i).pushed (arrV cI M fun _ => .int 0)).stored hc i (.ref (T.heap.size + 1 + i))
    rw [mn_lay, arrV_size] at h
    rw [show slots + N + (i + 1) * M = slots + N + i * M + M by rw [Nat.succ_mul]; omega]
    exact h.dropFresh fun x hx => by
      rw [List.mem_singleton] at hx
      subst hx
      exact X.heapGrown
theorem mn_step (X : Stand p l e R s m args below meth c T locs cells slots) (hexec : p.tables.exec = Jvm.exec) {own : String} {index : Nat} {cO cI : ClassId} (hown : s.vm.findClass own = some m.cls)
    (hlink : (Cond.classLink own index ("[" ++ (FieldType.array .int).toString)).before args s = true) (hover : (Cond.arrayOver (.array .int)).before args s = true) (hint : (Cond.arrayClass .int).before args s = true)
    (hO : s.vm.findClass ("[" ++ (FieldType.array .int).toString) = some cO) (hI : s.vm.findClass ("[" ++ FieldType.int.toString) = some cI)
    {g : JFrame} (hg : g.method = m) (hdg : decode c.code g.pc = .ok (.multianewarray index 2, 4)) {n k : Int32} {rest : List Value} (hst : g.stack = .int k :: .int n :: rest) (hn : ¬ n < 0) (hk : ¬ k < 0)
    (hb1 : n.toNatClampNeg * 4 ≤ 536870912) (hb2 : k.toNatClampNeg * 4 ≤ 536870912) (hcells : cells + (1 + n.toNatClampNeg) ≤ R.cells) (hslots : slots + (n.toNatClampNeg + n.toNatClampNeg * k.toNatClampNeg) ≤ R.slots) :
    ∃ vm₁ : Vm, Stand p l e R s m args below meth c (mn_s (T.setVm vm₁) cO cI n.toNatClampNeg k.toNatClampNeg n.toNatClampNeg) locs (cells + 1 + n.toNatClampNeg) (slots + n.toNatClampNeg + n.toNatClampNeg * k.toNatClampNeg) ∧
      ∀ t, Steps p.tables e below ((mn_s (T.setVm vm₁) cO cI n.toNatClampNeg k.toNatClampNeg n.toNatClampNeg).setTop { g with pc := g.pc + 4, stack := .ref T.heap.size :: rest }) t → Steps p.tables e below (T.setTop g) t := by
  subst hg
  obtain ⟨kO, hkO, hdO⟩ := mn_over hover hO hI
  obtain ⟨c1, kI, cc, hc1, hkI, hdI⟩ := Cond.arrayClass_spec hint
  cases hI.symm.trans hc1
  obtain ⟨c0, hf0, hcl⟩ := Cond.classLink_spec hown hlink e.platform (by rw [X.admits.platform])
  cases hO.symm.trans hf0
  obtain ⟨hgv, hwm, -⟩ := State.classEntry (e := e) X.warmed hcl
  generalize T.vm.noted g.method.cls index (.cls cO) = vm₁ at hgv hwm
  obtain ⟨kO1, hkO1, eO⟩ := hwm.alike.2.2 _ _ hkO
  obtain ⟨kI1, hkI1, eI⟩ := hwm.alike.2.2 _ _ hkI
  obtain ⟨hr1, hr2⟩ := X.roomAbove hcells hslots
  have XF := mn_stand (X.noted hwm) cO cI n.toNatClampNeg k.toNatClampNeg n.toNatClampNeg
  have hlim := Launch.admits_arrayLengthLimit X.admits
  have hhp := Launch.admits_maxHeapBytes X.admits
  refine ⟨vm₁, XF, fun t ht => ?_⟩
  jvm_step X.here [hexec, hdg]
  simp only [Jvm.Op.multianewarray.sem, wp_bind', W.resolveClassAt_links (State.method?_setTop g X.here.top) hgv]
  have hS : (T.setTop g).setVm vm₁ = (T.setVm vm₁).setTop g := rfl
  rw [hS]
  refine (popN_top (s := T.setVm vm₁) (f := g) (args := [.int n, .int k]) (rest := rest) X.here.top hst).mpr ?_
  simp only [List.mapM_cons, List.mapM_nil, wp_bind', wp_pure']
  refine mn_make (kO := kO1) (kI := kI1) (cc := cc) hkO1 (by rw [eO]; exact hdO) hkI1 (by rw [eI]; exact hdI) hn hk (by rw [hlim]; omega) (by rw [hhp]; show ¬ n.toNatClampNeg * 4 > 536870912; omega) (by rw [hlim]; omega) (by rw [hhp]; show ¬ k.toNatClampNeg * 4 > 536870912; omega) hr1 hr2 fun d' acts' => ?_
  rw [mn_top]
  simp only [wp_bind', W.mark, W.pushRef, State.topJava?_setTop' _ XF.here.top, Option.some.injEq, exists_eq_left', State.setTop_setTop, State.heap_setTop]
  intro acts
  simp [jvm, XF.here.top]
  exact ht
end MNS
set_option maxRecDepth 100000 in
theorem tm_mna_word : lw_tbl[568]? = some (Cond.classLink "SealedHouse$Store" 9 ("[" ++ (FieldType.array .int).toString)) := by decide +kernel
section TMN
variable {p : Program} {l : Launch} {e : Env} {R : Room} {s : State} {m : MethodId} {args : Array Value} {below : List Frame} {meth : Method} {c : Code} {Q : State → Prop} {D : va_G} {cA : Nat → ClassId} {z b n0 s0 nL o : Nat} {cc : ByteArray} {sc : tm_X} {pc : Nat} {lv : tm_L} {st : List Value} {h : tm_H} {S' : tm_S}
theorem tm_s_mnew {i d : Nat} (C : tm_C D cA z b sc o nL cc p s m args c) (hz : s.heap.size = z + n0) (hroom : S'.2.2.2.1 - n0 ≤ R.cells ∧ S'.2.2.2.2.1 - s0 ≤ R.slots) (hd : decode cc pc = .ok (.multianewarray i d, 4)) (hst : tm_mnew o i d pc lv st h = some S') (kk : tm_Wk p l e R s m args below meth c Q D cA z b n0 s0 nL S') : tm_Wk p l e R s m args below meth c Q D cA z b n0 s0 nL (pc, lv, st, h) := by
  intro ls H locs hl hR
  obtain ⟨hx, hb, hml, ⟨own, ho, hown⟩, hts, hZ, hX, hbz⟩ := C
  unfold tm_mnew at hst
  split at hst
  · rename_i k n r
    split at hst
    · rename_i hc
      obtain ⟨rfl, rfl, rfl, hn, hk, hby1, hby2⟩ := hc
      cases hst
      have hn0 : n0 ≤ h.1 := hR.2.2.1
      have hs0 : s0 ≤ h.2.1 := hR.2.2.2
      have ho' : own = "SealedHouse$Store" := by cases ho; rfl
      subst ho'
      simp only [tm_rows_1, tm_rows_2, tm_add] at hroom
      have hclink := hts _ (tm_good_in (List.mem_of_getElem? tm_mna_word) rfl)
      have hty8 : tm_tys[8]? = some (.array .int) := rfl
      have hword8 := tm_ty_word hty8
      rw [if_neg (by decide)] at hword8
      have hover : (Cond.arrayOver (.array .int)).before args s = true := hZ.2.2 _ hword8 rfl
      have hword0 := tm_ty_word (t := 0) (ty := .int) rfl
      rw [if_pos (by decide)] at hword0
      have harr := hts _ (tm_good_in hword0 rfl)
      intro T hT Xs
      have hsz : H.size ≤ s.heap.size + (h.1 - n0) := by
        have h1 := Xs.same.2.2.1
        have h2 : (T.setVm s.vm).heap = H := hT
        rw [h2] at h1
        exact h1
      have hsz2 : z + h.1 ≤ H.size := by
        by_cases h0 : h.1 = 0
        · have := hR.2.1.1; omega
        · have hg : (tm_ws z b cA h)[h.1 - 1]? = some (z + (h.1 - 1), tm_e z b cA (h.2.2 (h.1 - 1))) := by simp [tm_ws, show h.1 - 1 < h.1 by omega]
          have := (hR.1 _ _ hg).lt
          simp only at this
          omega
      have hH : H.size = z + h.1 := by omega
      have hI0 : s.vm.findClass ("[" ++ FieldType.int.toString) = some (cA 0) := (hZ.1.2 0 _ (tm_ty_at (t := 0) (ty := .int) rfl)).2
      have hO8 : s.vm.findClass ("[" ++ (FieldType.array .int).toString) = some (cA 8) := (hZ.1.2 8 _ (tm_ty_at hty8)).2
      obtain ⟨vm₁, X', step⟩ := mn_step Xs hx hown hclink hover harr hO8 hI0 (g := F0 m pc ls (.int k :: .int n :: r.map (tm_tr z b))) rfl (by rw [hb]; exact hd) rfl hn hk hby1 hby2 (by dsimp only; omega) (by dsimp only; omega)
      have hTh : (T.setVm vm₁).heap = H := hT
      obtain ⟨f1, -, -, f2, f5, f6⟩ := mn_all (T.setVm vm₁) (cA 8) (cA 0) n.toNatClampNeg k.toNatClampNeg n.toNatClampNeg
      generalize hF : mn_s (T.setVm vm₁) (cA 8) (cA 0) n.toNatClampNeg k.toNatClampNeg n.toNatClampNeg = F at X' step f1 f2 f5 f6
      rw [hTh] at f1 f2 f5 f6
      have hold : ∀ x : Nat, x < H.size → F.heap[x]? = H[x]? := f5
      have hrow : ∀ j : Nat, j < n.toNatClampNeg → F.heap[H.size + 1 + j]? = some (vp_cell (cA 0) (k.toNatClampNeg, .inl (fun _ => 0))) := fun j hj => f6 j hj
      generalize hh2 : tm_add h n.toNatClampNeg (.inr (.inl (8, n.toNatClampNeg, fun j => if j < n.toNatClampNeg then some (h.1 + 1 + j) else none))) = h2 at kk
      have h21 : h2.1 = h.1 + 1 := by rw [← hh2]; rfl
      have h22 : h2.2.1 = h.2.1 + n.toNatClampNeg := by rw [← hh2]; rfl
      have hP1 : va_P D tm_cl (tm_ws z b cA (tm_rows k.toNatClampNeg n.toNatClampNeg h2)) F.heap := by
        intro q x hq
        have hql : q < h.1 + 1 + n.toNatClampNeg := by
          have := (List.getElem?_eq_some_iff.mp hq).1
          rw [tm_ws_len, tm_rows_1, h21] at this
          exact this
        have hx2 : x = (z + q, tm_e z b cA ((tm_rows k.toNatClampNeg n.toNatClampNeg h2).2.2 q)) := by
          unfold tm_ws at hq
          rw [tm_rows_1, h21, List.getElem?_map, List.getElem?_range hql] at hq
          exact (Option.some.inj hq).symm
        subst hx2
        by_cases c1 : q < h.1
        · rw [tm_rows_lo _ _ _ _ (by omega), ← hh2]
          show va_at D tm_cl (z + q, tm_e z b cA (va_up h.2.2 h.1 _ q)) F.heap
          rw [va_up_ne _ _ (by omega)]
          have hg : (tm_ws z b cA h)[q]? = some (z + q, tm_e z b cA (h.2.2 q)) := by simp [tm_ws, c1]
          exact (hR.1 _ _ hg).kept (hold _ (by show z + q < H.size; omega))
        · by_cases c2 : q = h.1
          · subst c2
            rw [tm_rows_lo _ _ _ _ (by omega), ← hh2]
            show va_at D tm_cl (z + h.1, tm_e z b cA (va_up h.2.2 h.1 _ h.1)) F.heap
            rw [va_up_self]
            show F.heap[z + h.1]? = some (vp_cell (cA 8) _)
            rw [← hH, f2, vp_cell_q]
            refine congrArg some (congrArg (arrV (cA 8) n.toNatClampNeg) (funext fun j => ?_))
            by_cases hj : j < n.toNatClampNeg
            · have e9 : H.size + 1 + j = z + (h.1 + 1 + j) := by omega
              simp [mn_f, hj, e9]
            · simp [mn_f, hj]
          · have he : q = h2.1 + (q - h2.1) := by omega
            rw [he, tm_rows_hi _ _ _ _ (by omega), ← he]
            show F.heap[z + q]? = some (vp_cell (cA 0) _)
            rw [show z + q = H.size + 1 + (q - h2.1) by omega]
            exact hrow _ (by omega)
      have hS1 : va_S (fun q => z ≤ q) s.heap F.heap locs := ⟨by have := hR.2.1.1; omega, fun x g1 g2 => (hold x (Nat.lt_of_lt_of_le g1 hR.2.1.1)).trans (hR.2.1.2.1 x g1 g2), hR.2.1.2.2⟩
      have k2 := tm_Wcells (cells' := h.1 - n0 + 1 + n.toNatClampNeg) (slots' := h.2.1 - s0 + n.toNatClampNeg + n.toNatClampNeg * k.toNatClampNeg) (by simp only [tm_rows_1, h21]; omega) (by simp only [tm_rows_2, h22]; omega) (kk ls F.heap locs hl ⟨hP1, hS1, by simp only [tm_rows_1, h21]; omega, by simp only [tm_rows_2, h22]; omega⟩)
      obtain ⟨t, a1, b1⟩ := k2 F rfl X'
      refine ⟨t, step t ?_, b1⟩
      have e : T.heap.size = z + h.1 := by rw [hT]; exact hH
      rw [e]
      exact a1
    · cases hst
  · cases hst
end TMN
theorem tm_mn : tm_MN := fun _ _ _ _ _ _ _ _ _ _ _ _ _ _ _ _ _ _ _ _ _ _ _ _ _ _ _ _ C hz hroom hd hst kk => tm_s_mnew C hz hroom hd hst kk
