/-! Fields and arrays -/
/-- every row of the field table is a word of the tables, and says what the class's table says -/
def tm_fchk (r : Nat × Nat × Nat × Nat × Nat × Nat) : Bool := match tm_own[r.1]?, tm_cl[r.2.2.1]? with
  | some own, some q => decide (r.2.2.2.1 < q.2.2) && decide (lw_tbl[r.2.2.2.2.2]? = some (if r.2.2.2.2.1 = 1 then Cond.fieldLinkNest own r.2.1 (q.2.1 r.2.2.2.1).1 (q.2.1 r.2.2.2.1).2.1 (q.2.1 r.2.2.2.1).2.2.1 "SealedHouse" else Cond.fieldLink own r.2.1 (q.2.1 r.2.2.2.1).1 (q.2.1 r.2.2.2.1).2.1 (q.2.1 r.2.2.2.1).2.2.1))
  | _, _ => false
set_option maxRecDepth 100000 in
theorem tm_flds_ok : tm_flds.all tm_fchk = true := by decide +kernel
/-- a class: its fields' words stand in the tables, their types are as told, their names are apart -/
def tm_cchk (ci : Nat) : Bool := match tm_cl[ci]?, tm_fty[ci]?, tm_lay[ci]? with
  | some q, some ts, some ps => decide (u_ws q.1 q.2.1 q.2.2 = ps.filterMap (fun i => lw_tbl[i]?)) && (u_ws q.1 q.2.1 q.2.2).all goodWord && decide (ts.length = q.2.2) && (List.range q.2.2).all (fun k => decide (parseFieldDescriptor (q.2.1 k).2.2.1 = ts[k]?) && decide ((q.2.1 k).1 = q.1)) && (List.range q.2.2).all (fun a => (List.range q.2.2).all (fun b => decide (a = b) || decide ((q.2.1 a).2.1 ≠ (q.2.1 b).2.1)))
  | _, _, _ => false
set_option maxRecDepth 100000 in
theorem tm_cl_ok : (List.range 13).all tm_cchk = true := by decide +kernel
theorem tm_cl_lt {ci : Nat} {q : vw_C} (h : tm_cl[ci]? = some q) : ci < 13 := (List.getElem?_eq_some_iff.mp h).1
theorem tm_good_in {w : Cond} (h1 : w ∈ lw_tbl) (h2 : goodWord w = true) : w ∈ tm_T := List.mem_filter.mpr ⟨h1, h2⟩
theorem tm_class {ci : Nat} {q : vw_C} (h : tm_cl[ci]? = some q) : ∃ ts, tm_fty[ci]? = some ts ∧ ts.length = q.2.2 ∧ (∀ w ∈ u_ws q.1 q.2.1 q.2.2, w ∈ tm_T) ∧ (∀ k, k < q.2.2 → parseFieldDescriptor (q.2.1 k).2.2.1 = some ((ts[k]?).getD .int)) ∧ (∀ k, k < q.2.2 → (q.2.1 k).1 = q.1) ∧ (∀ a, a < q.2.2 → ∀ b, b < q.2.2 → a ≠ b → (q.2.1 a).2.1 ≠ (q.2.1 b).2.1) := by
  have h1 := List.all_eq_true.mp tm_cl_ok ci (List.mem_range.mpr (tm_cl_lt h))
  unfold tm_cchk at h1
  rw [h] at h1
  cases hts : tm_fty[ci]? with
  | none => rw [hts] at h1; cases h1
  | some ts =>
    cases hps : tm_lay[ci]? with
    | none => rw [hts, hps] at h1; cases h1
    | some ps =>
      rw [hts, hps] at h1
      simp only [Bool.and_eq_true, decide_eq_true_eq, List.all_eq_true, List.mem_range, Bool.or_eq_true] at h1
      obtain ⟨⟨⟨⟨e1, e2⟩, e3⟩, e4⟩, e5⟩ := h1
      refine ⟨ts, rfl, e3, fun w hw => tm_good_in ?_ (e2 w hw), fun k hk => ?_, fun k hk => (e4 k hk).2, fun a ha b hb hab => ?_⟩
      · rw [e1] at hw
        obtain ⟨i, -, hi⟩ := List.mem_filterMap.mp hw
        exact List.mem_of_getElem? hi
      · rw [(e4 k hk).1]
        have : k < ts.length := by omega
        simp [this]
      · rcases e5 a ha b hb with q | q
        · exact absurd q hab
        · exact q
theorem tm_fld_row {o i : Nat} {r : Nat × Nat × Nat × Nat × Nat × Nat} (h : tm_fldR o i = some r) : r.1 = o ∧ r.2.1 = i ∧ tm_fchk r = true := by
  have h1 := List.find?_some h
  have h2 := List.mem_of_find?_eq_some h
  simp only [Bool.and_eq_true, beq_iff_eq] at h1
  exact ⟨h1.1, h1.2, List.all_eq_true.mp tm_flds_ok r h2⟩
section TH
variable {p : Program} {l : Launch} {e : Env} {R : Room} {s : State} {m : MethodId} {args : Array Value} {below : List Frame} {meth : Method} {c : Code} {Q : State → Prop} {D : va_G} {cA : Nat → ClassId} {z b n0 s0 nL o : Nat} {cc : ByteArray} {sc : tm_X} {pc : Nat} {lv : tm_L} {st : List Value} {h : tm_H} {S' : tm_S}
theorem tm_s_getf {i : Nat} (C : tm_C D cA z b sc o nL cc p s m args c) (hd : decode cc pc = .ok (.getfield i, 3)) (hst : tm_getf o i pc lv st h = some S') (kk : tm_Wk p l e R s m args below meth c Q D cA z b n0 s0 nL S') : tm_Wk p l e R s m args below meth c Q D cA z b n0 s0 nL (pc, lv, st, h) := by
  intro ls H locs hl hR
  obtain ⟨hx, hb, hml, ⟨own, ho, hown⟩, hts, hZ, -⟩ := C
  unfold tm_getf at hst
  split at hst
  · rename_i a r
    split at hst
    · rename_i x1 x2 ci k nest cj fs hf hg
      split at hst
      · rename_i hc
        subst hc
        obtain ⟨v, hv, hS⟩ := Option.map_eq_some_iff.mp hst
        subst hS
        have k1 := kk ls H locs hl hR
        obtain ⟨hr1, hr2, hchk⟩ := tm_fld_row hf
        unfold tm_fchk at hchk
        simp only at hr1 hr2 hchk
        subst hr1; subst hr2
        rw [ho] at hchk
        cases hq : tm_cl[ci]? with
        | none => rw [hq] at hchk; cases hchk
        | some q =>
          rw [hq] at hchk
          obtain ⟨C, T, N⟩ := q
          simp only [Bool.and_eq_true, decide_eq_true_eq] at hchk
          obtain ⟨hk, hw⟩ := hchk
          obtain ⟨ts, -, -, hin, -⟩ := tm_class hq
          obtain ⟨hlt, -, hws⟩ := tm_ws_get (z := z) (b := b) (cA := cA) hg
          have hv' : (fs.map (tm_tr z b))[k]? = some (tm_tr z b v) := by rw [List.getElem?_map, hv]; rfl
          split at hw
          · exact va_getN hx hb hts hin hown hZ.1 hR.1 a hws hq k hk (va_Nw.use rfl (hZ.2.1 _ (List.mem_of_getElem? hw) rfl)) (fun _ h9 => h9) hv' hd k1
          · exact va_get hx hb hts hin hown hZ.1 hR.1 a hws hq k hk (hts _ (tm_good_in (List.mem_of_getElem? hw) rfl)) (fun _ h9 => h9) hv' hd k1
      · cases hst
    · cases hst
  · cases hst
end TH
