set_option maxRecDepth 100000 in
theorem tm_objcode : Cond.code objectInit ⟨#[0xb1]⟩ 1 none ∈ lw_tbl := List.mem_of_getElem? (i := 133) rfl
set_option maxRecDepth 100000 in
theorem tm_mincode : Cond.code Lib.Math.min.name Lib.Math.min.code 2 (some .int) ∈ lw_tbl := List.mem_of_getElem? (i := 532) rfl
set_option maxRecDepth 100000 in
theorem tm_maxcode : Cond.code Lib.Math.max.name Lib.Math.max.code 2 (some .int) ∈ lw_tbl := List.mem_of_getElem? (i := 837) rfl
theorem tm_rest_ok {z b : Nat} {r : List Value} (h : tm_rest r = true) : ((r.map (tm_tr z b)).map fun v => v.category).sum ≤ 16 := by
  unfold tm_rest at h
  have h1 := of_decide_eq_true h
  rw [List.map_map]
  have : ((fun v : Value => v.category) ∘ tm_tr z b) = fun v => v.category := by funext v; exact tm_tr_cat z b v
  rw [this]
  exact h1
section TNA
variable {p : Program} {l : Launch} {e : Env} {R : Room} {s : State} {m : MethodId} {args : Array Value} {below : List Frame} {meth : Method} {c : Code} {Q : State → Prop} {D : va_G} {cA : Nat → ClassId} {z b n0 s0 nL o : Nat} {cc : ByteArray} {sc : tm_X} {pc : Nat} {lv : tm_L} {st : List Value} {h : tm_H} {S' : tm_S}
theorem tm_snat {i : Instr} (C : tm_C D cA z b sc o nL cc p s m args c) (hframes : 1 ≤ R.frames) (hlocals : 40 ≤ R.locals) (hroom : S'.2.2.2.1 - n0 ≤ R.cells ∧ S'.2.2.2.2.1 - s0 ≤ R.slots) (hd : decode cc pc = .ok (i, 3)) (hst : tm_nat o i pc lv st h = some S') (kk : tm_Wk p l e R s m args below meth c Q D cA z b n0 s0 nL S') : tm_Wk p l e R s m args below meth c Q D cA z b n0 s0 nL (pc, lv, st, h) := by
  intro ls H locs hl hR
  obtain ⟨hx, hb, hml, ⟨own, ho, hown⟩, hts, hZ, hX, hbz⟩ := C
  have hm := tm_nat_mono hst
  unfold tm_nat at hst
  split at hst
  · rename_i ix
    split at hst
    · rename_i x1 x2 rw_ a r hcall
      split at hst
      · rename_i hr
        cases hst
        obtain ⟨h1, h2, h3⟩ := tm_call_row hcall
        unfold tm_achk at h3
        simp only at h1 h2 h3
        subst h1; subst h2
        rw [ho] at h3
        simp only [Bool.and_eq_true, decide_eq_true_eq] at h3
        obtain ⟨hw1, hw2⟩ := h3
        refine W.objInit hx hb hown (hts _ (tm_good_in (List.mem_of_getElem? hw1) rfl)) (hts _ (tm_good_in (List.mem_of_getElem? hw2) rfl)) (hts _ (tm_good_in tm_objcode rfl)) rfl (by rw [hml]; exact hl.1) rfl hd hframes ?_ ?_
        · have := tm_rest_ok (z := z) (b := b) hr
          show 2 * 0 + _ + 12 ≤ _
          omega
        · exact kk ls H locs hl hR
      · cases hst
    · cases hst
  · rename_i ix
    split at hst
    · rename_i x1 x2 rw_ hcall
      obtain ⟨h1, h2, h3⟩ := tm_call_row hcall
      unfold tm_achk at h3
      simp only at h1 h2 h3
      subst h1; subst h2
      rw [ho] at h3
      simp only [Bool.and_eq_true, decide_eq_true_eq] at h3
      obtain ⟨⟨⟨hw1, hw2⟩, hw3⟩, hw4⟩ := h3
      unfold tm_copy at hst
      split at hst
      · rename_i n dp a1 sp a0 r
        split at hst
        · rename_i n0' f n1 g hg0 hg1
          split at hst
          · rename_i hc
            obtain ⟨c1, c2, c3, c4, c5, hr⟩ := hc
            cases hst
            obtain ⟨hlt0, -, hws0⟩ := tm_ws_get (z := z) (b := b) (cA := cA) hg0
            obtain ⟨hlt1, -, hws1⟩ := tm_ws_get (z := z) (b := b) (cA := cA) hg1
            refine va_copyi (ty := .int) hx hb (by rw [hml]; exact hl.1.symm) hown (hts _ (tm_good_in (List.mem_of_getElem? hw1) rfl)) (hts _ (tm_good_in (List.mem_of_getElem? hw3) rfl)) (hts _ (tm_good_in (List.mem_of_getElem? hw2) rfl)) (hts _ (tm_good_in (List.mem_of_getElem? hw4) rfl)) hZ.1 hR.1 (tm_ws_D z b cA h) hR.2.1 a0 a1 0 0 hws0 hws1 (tm_ty_at rfl) (tm_ty_at rfl) rfl c1 c2 c3 c4 c5 (fun _ _ => rfl) hframes ?_ hd fun H1 locs1 hP1 hD1 hS1 => ?_
            · have := tm_rest_ok (z := z) (b := b) hr
              have e7 : nativeFrameWords "java/lang/System" "arraycopy" 5 = 7 := by decide
              rw [e7]
              omega
            · have e1 : (tm_ws z b cA h).set a1 (z + a1, .inl (cA 0, n1, .inl (va_cpy f g sp.toNatClampNeg dp.toNatClampNeg n.toNatClampNeg))) = tm_ws z b cA (tm_put h a1 (.inl (0, n1, va_cpy f g sp.toNatClampNeg dp.toNatClampNeg n.toNatClampNeg))) := tm_ws_set hlt1 (.inl (0, n1, va_cpy f g sp.toNatClampNeg dp.toNatClampNeg n.toNatClampNeg))
              rw [e1] at hP1
              exact kk ls H1 locs1 hl ⟨hP1, hS1, hR.2.2⟩
          · cases hst
        · cases hst
      · cases hst
    · rename_i x1 x2 rw_ hcall
      obtain ⟨h1, h2, h3⟩ := tm_call_row hcall
      unfold tm_achk at h3
      simp only at h1 h2 h3
      subst h1; subst h2
      rw [ho] at h3
      simp only [Bool.and_eq_true, decide_eq_true_eq] at h3
      obtain ⟨⟨hw1, hw2⟩, hw3⟩ := h3
      unfold tm_mm at hst
      split at hst
      · rename_i y x r
        split at hst
        · rename_i hr
          cases hst
          have hq := tm_rest_ok (z := z) (b := b) hr
          exact va_mmin hx hb (by rw [hml]; exact hl.1.symm) hown (hts _ (tm_good_in (List.mem_of_getElem? hw1) rfl)) (hts _ (tm_good_in (List.mem_of_getElem? hw2) rfl)) (hts _ (tm_good_in (List.mem_of_getElem? hw3) rfl)) (hts _ (tm_good_in tm_mincode rfl)) hframes (by omega) hroom.1 hroom.2 hd (kk ls H locs hl hR)
        · cases hst
      · cases hst
    · rename_i x1 x2 rw_ hcall
      obtain ⟨h1, h2, h3⟩ := tm_call_row hcall
      unfold tm_achk at h3
      simp only at h1 h2 h3
      subst h1; subst h2
      rw [ho] at h3
      simp only [Bool.and_eq_true, decide_eq_true_eq] at h3
      obtain ⟨⟨hw1, hw2⟩, hw3⟩ := h3
      unfold tm_mm at hst
      split at hst
      · rename_i y x r
        split at hst
        · rename_i hr
          cases hst
          have hq := tm_rest_ok (z := z) (b := b) hr
          exact va_mmax hx hb (by rw [hml]; exact hl.1.symm) hown (hts _ (tm_good_in (List.mem_of_getElem? hw1) rfl)) (hts _ (tm_good_in (List.mem_of_getElem? hw2) rfl)) (hts _ (tm_good_in (List.mem_of_getElem? hw3) rfl)) (hts _ (tm_good_in tm_maxcode rfl)) hframes (by omega) hroom.1 hroom.2 hd (kk ls H locs hl hR)
        · cases hst
      · cases hst
    · cases hst
  · cases hst
end TNA
/-! The tables' words at a callee -/
theorem tm_AOA_moved {t : FieldType} {u U : State} (hvm : u.vm.Alike U.vm) (h : (Cond.arrayOver (.array t)).before #[] u = true) : (Cond.arrayOver (.array t)).before #[] U = true := by
  unfold Cond.before Cond.holds at h
  simp only [Cond.value, beq_iff_eq] at h
  cases hc : u.vm.findClass (FieldType.array t).toString with
  | none => simp [hc] at h
  | some comp =>
    simp only [hc, Option.bind_some, Option.bind_eq_some_iff, Option.map_eq_some_iff] at h
    obtain ⟨c, hi, k, hk, hb⟩ := h
    obtain ⟨k', hk', he⟩ := hvm.2.2 _ _ hk
    have hi' : (U.vm.classes.findIdx? fun (x : Class) => match x.kind with | .array component _ => component == comp | _ => false) = some c := by
      have e1 := va_idx_bare U.vm comp
      have e2 := va_idx_bare u.vm comp
      first | rw [hvm.bare_eq] at e1 | rw [← hvm.bare_eq] at e1
      exact (e1.symm.trans e2).trans hi
    have f1 : U.vm.findClass (FieldType.array t).toString = some comp := by rw [hvm.findClass]; exact hc
    have f2 : U.vm.findClass ("[" ++ (FieldType.array t).toString) = u.vm.findClass ("[" ++ (FieldType.array t).toString) := by rw [hvm.findClass]
    have hkind : k'.kind = k.kind := by rw [he]
    unfold Cond.before Cond.holds
    simp only [Cond.value]
    rw [f1, Option.bind_some]
    refine (congrArg (fun o : Option Nat => (o.bind (fun c => (U.vm.classes[c]?).map fun (k : Class) => match k.kind with | .array _ ty => decide (ty = FieldType.array t) && decide (U.vm.findClass ("[" ++ (FieldType.array t).toString) = some c) | _ => false) == some true)) hi').trans ?_
    simp only [Option.bind_some, hk', Option.map_some, hkind, f2]
    refine (congrArg (fun b : Bool => (some b == some true)) (Eq.trans ?_ hb)).trans rfl
    rfl
theorem tm_Z_warm {D : va_G} {cA : Nat → ClassId} {s U : State} (hW : s.WarmedH U.vm) (h : tm_Z D cA s) : tm_Z D cA U := by
  refine ⟨va_K.moved hW.alike h.1, fun w hw hn => ?_, fun w hw hn => ?_⟩
  · have h1 := h.2.1 w hw hn
    cases w <;> first | exact va_Nw.warmF hW h1 | exact va_Nw.warmM hW h1 | (simp [tm_isN] at hn)
  · have h1 := h.2.2 w hw hn
    cases w <;> first | (simp [tm_isO] at hn; done) | skip
    rename_i ty
    cases ty with
    | object C => exact va_AO.moved hW.alike h1
    | array t => exact tm_AOA_moved hW.alike h1
    | _ => simp [Cond.before, Cond.holds, Cond.value] at h1
theorem tm_Z_call {D : va_G} {cA : Nat → ClassId} {U : State} {g : JFrame} {mk : MethodId} {a : Array Value} (h : tm_Z D cA U) : tm_Z D cA (U.calling g mk a) := by
  refine ⟨va_K.moved (u := U) (U := U.calling g mk a) (Vm.Alike.refl U.vm) h.1, fun w hw hn => ?_, fun w hw hn => ?_⟩
  · have h1 := h.2.1 w hw hn
    cases w <;> first | exact va_Nw.same rfl rfl h1 | (simp [tm_isN] at hn)
  · have h1 := h.2.2 w hw hn
    cases w <;> first | (simp [tm_isO] at hn; done) | skip
    exact h1
