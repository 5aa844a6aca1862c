/-! Making objects and arrays -/
def tm_nchk (r : Nat × Nat × Nat × Nat × Nat × Nat) : Bool := match tm_own[r.1]?, tm_cl[r.2.2.1]? with
  | some own, some q => decide (lw_tbl[r.2.2.2.1]? = some (Cond.classLink own r.2.1 q.1)) && decide (lw_tbl[r.2.2.2.2.1]? = some (Cond.instantiable q.1 q.2.2)) && decide (lw_tbl[r.2.2.2.2.2]? = some (Cond.initialized q.1))
  | _, _ => false
set_option maxRecDepth 100000 in
theorem tm_news_ok : tm_news.all tm_nchk = true := by decide +kernel
theorem tm_defs_ok : tm_fty.all (fun l => l.all (fun ty => decide (tm_def ty = defaultValue ty))) = true := by decide +kernel
def tm_ochk (t : Nat) : Bool := match tm_tys[t]?, tm_apos[t]? with
  | some ty, some q => decide (lw_tbl[q]? = some (if t < 2 then Cond.arrayClass ty else Cond.arrayOver ty))
  | _, _ => false
set_option maxRecDepth 100000 in
theorem tm_tys_ok : (List.range 9).all tm_ochk = true := by decide +kernel
theorem tm_new_row {o i : Nat} {r : Nat × Nat × Nat × Nat × Nat × Nat} (h : tm_newR o i = some r) : r.1 = o ∧ r.2.1 = i ∧ tm_nchk r = true := by
  have h1 := List.find?_some h
  have h2 := List.mem_of_find?_eq_some h
  simp only [Bool.and_eq_true, beq_iff_eq] at h1
  exact ⟨h1.1, h1.2, List.all_eq_true.mp tm_news_ok r h2⟩
theorem tm_ty_word {t : Nat} {ty : FieldType} (h : tm_tys[t]? = some ty) : (if t < 2 then Cond.arrayClass ty else Cond.arrayOver ty) ∈ lw_tbl := by
  have hl : t < 9 := (List.getElem?_eq_some_iff.mp h).1
  have h1 := List.all_eq_true.mp tm_tys_ok t (List.mem_range.mpr hl)
  unfold tm_ochk at h1
  rw [h] at h1
  split at h1
  · rename_i ty' q h2 h3
    cases h2
    simp only [decide_eq_true_eq] at h1
    exact List.mem_of_getElem? h1
  · cases h1
section TN
variable {p : Program} {l : Launch} {e : Env} {R : Room} {s : State} {m : MethodId} {args : Array Value} {below : List Frame} {meth : Method} {c : Code} {Q : State → Prop} {D : va_G} {cA : Nat → ClassId} {z b n0 s0 nL o : Nat} {cc : ByteArray} {sc : tm_X} {pc : Nat} {lv : tm_L} {st : List Value} {h : tm_H} {S' : tm_S}
/-- a method has made no more cells than are booked -/
theorem tm_sz {H : Heap} {locs : List Loc} {cells slots : Nat} {g : JFrame} (k : H.size ≤ s.heap.size + cells → W p l e R s m args below meth c H locs cells slots Q g) : W p l e R s m args below meth c H locs cells slots Q g := fun T hT X => by
  have h1 := X.same.2.2.1
  have h2 : (T.setVm s.vm).heap = H := hT
  rw [h2] at h1
  exact k h1 T hT X
/-- where a new cell lies -/
theorem tm_where {q : Nat} {x : va_E} {H1 : Heap} (hz : s.heap.size = z + n0) (hn : n0 ≤ h.1) (hP : va_P D tm_cl (tm_ws z b cA h ++ [(q, x)]) H1) (hD : va_D (fun q => z ≤ q) (tm_ws z b cA h ++ [(q, x)])) (hs : H1.size ≤ s.heap.size + (h.1 - n0 + 1)) : q = z + h.1 := by
  have hlen := tm_ws_len z b cA h
  have hlast : (tm_ws z b cA h ++ [(q, x)])[h.1]? = some (q, x) := by
    rw [List.getElem?_append_right (by omega), hlen]
    simp
  have hlt : q < H1.size := (hP _ _ hlast).lt
  have hzq : z ≤ q := hD.2 _ _ hlast
  by_cases hq : q < z + h.1
  · exfalso
    have hk : q - z < h.1 := by omega
    have hk2 : (tm_ws z b cA h ++ [(q, x)])[q - z]? = some (q, tm_e z b cA (h.2.2 (q - z))) := by
      rw [List.getElem?_append_left (by omega)]
      simp [tm_ws, hk]
      omega
    have := hD.1 _ _ _ _ hlast hk2 rfl
    omega
  · omega
theorem tm_Wcells {H : Heap} {locs : List Loc} {cells slots cells' slots' : Nat} {g : JFrame} (h1 : cells = cells') (h2 : slots = slots') (k : W p l e R s m args below meth c H locs cells slots Q g) : W p l e R s m args below meth c H locs cells' slots' Q g := by
  subst h1; subst h2; exact k
theorem tm_s_new {i : Nat} (C : tm_C D cA z b sc o nL cc p s m args c) (hz : s.heap.size = z + n0) (hroom : S'.2.2.2.1 - n0 ≤ R.cells ∧ S'.2.2.2.2.1 - s0 ≤ R.slots) (hd : decode cc pc = .ok (.new i, 3)) (hst : tm_new o i pc lv st h = some S') (kk : tm_Wk p l e R s m args below meth c Q D cA z b n0 s0 nL S') : tm_Wk p l e R s m args below meth c Q D cA z b n0 s0 nL (pc, lv, st, h) := by
  intro ls H locs hl hR
  obtain ⟨hx, hb, hml, ⟨own, ho, hown⟩, hts, hZ, hX, hbz⟩ := C
  unfold tm_new at hst
  split at hst
  · rename_i x1 x2 ci rest hr
    split at hst
    · rename_i lt hlt
      cases hst
      obtain ⟨hr1, hr2, hchk⟩ := tm_new_row hr
      unfold tm_nchk at hchk
      simp only at hr1 hr2 hchk
      subst hr1; subst hr2
      rw [ho] at hchk
      cases hq : tm_cl[ci]? with
      | none => rw [hq] at hchk; cases hchk
      | some q =>
        rw [hq] at hchk
        obtain ⟨C, T, N⟩ := q
        simp only [Bool.and_eq_true, decide_eq_true_eq] at hchk
        obtain ⟨⟨hw1, hw2⟩, hw3⟩ := hchk
        obtain ⟨ts, hts0, htl, hin, htyp, hdecl, hnm⟩ := tm_class hq
        rw [hlt] at hts0
        cases hts0
        simp only at htl htyp hin hroom
        have hn0 : n0 ≤ h.1 := hR.2.2.1
        have hs0 : s0 ≤ h.2.1 := hR.2.2.2
        simp only [tm_add] at hroom
        refine va_new (fs := (lt.map tm_def).map (tm_tr z b)) hx hb hts hin (fun k => (lt[k]?).getD .int) htyp hown (hts _ (tm_good_in (List.mem_of_getElem? hw1) rfl)) (hts _ (tm_good_in (List.mem_of_getElem? hw2) rfl)) (hts _ (tm_good_in (List.mem_of_getElem? hw3) rfl)) hZ.1 hR.1 (tm_ws_D z b cA h) hR.2.1 (fun q hq => by show z ≤ q; omega) hq (fun j hj => ?_) (by dsimp only; omega) (by dsimp only; omega) hd (fun q H1 hP1 hD1 hS1 => ?_)
        · have hj' : j < lt.length := by omega
          have hmem : lt ∈ tm_fty := List.mem_of_getElem? hlt
          have hdf := List.all_eq_true.mp (List.all_eq_true.mp tm_defs_ok lt hmem) lt[j] (List.getElem_mem hj')
          simp only [decide_eq_true_eq] at hdf
          simp only [vp_V, List.getD_eq_getElem?_getD, List.getElem?_map, List.getElem?_eq_getElem hj', Option.map_some, Option.getD_some]
          rw [← hdf]
          cases lt[j] <;> rfl
        · refine tm_sz fun hs => ?_
          have hw := tm_where hz hn0 hP1 hD1 hs
          subst hw
          have e1 : tm_ws z b cA h ++ [(z + h.1, .inr (ci, (lt.map tm_def).map (tm_tr z b)))] = tm_ws z b cA (tm_add h lt.length (.inr (.inr (ci, lt.map tm_def)))) := tm_ws_add z b cA h lt.length (.inr (.inr (ci, lt.map tm_def)))
          rw [e1] at hP1
          refine tm_Wcells ?_ ?_ (kk ls H1 locs hl ⟨hP1, hS1, ?_, ?_⟩)
          all_goals (simp only [tm_add]; omega)
    · cases hst
  · cases hst
theorem tm_s_newa {at_ : ArrayType} {t : Nat} {ty : FieldType} (C : tm_C D cA z b sc o nL cc p s m args c) (hz : s.heap.size = z + n0) (hroom : S'.2.2.2.1 - n0 ≤ R.cells ∧ S'.2.2.2.2.1 - s0 ≤ R.slots) (ht : tm_tys[t]? = some ty) (ht2 : t < 2) (hat : newarray.typeOf at_ = ty) (hdv : defaultValue ty = .int 0) (hcb : componentBytes ty ≤ 4) (hd : decode cc pc = .ok (.newarray at_, 2)) (hst : tm_newa t pc lv st h = some S') (kk : tm_Wk p l e R s m args below meth c Q D cA z b n0 s0 nL S') : tm_Wk p l e R s m args below meth c Q D cA z b n0 s0 nL (pc, lv, st, h) := by
  intro ls H locs hl hR
  obtain ⟨hx, hb, hml, ⟨own, ho, hown⟩, hts, hZ, hX, hbz⟩ := C
  unfold tm_newa at hst
  split at hst
  · rename_i n r
    split at hst
    · rename_i hc
      obtain ⟨hn, hby⟩ := hc
      cases hst
      have hn0 : n0 ≤ h.1 := hR.2.2.1
      have hs0 : s0 ≤ h.2.1 := hR.2.2.2
      simp only [tm_add] at hroom
      have hword := tm_ty_word ht
      rw [if_pos ht2] at hword
      have harr : (Cond.arrayClass (newarray.typeOf at_)).before args s = true := by rw [hat]; exact hts _ (tm_good_in hword rfl)
      have hby2 : n.toNatClampNeg * componentBytes ty ≤ 536870912 := Nat.le_trans (Nat.mul_le_mul_left _ hcb) hby
      refine va_newa (a0 := (n.toNatClampNeg, .inl (fun _ => 0))) hx hb harr hat hZ.1 hR.1 (tm_ws_D z b cA h) hR.2.1 (fun q hq => by show z ≤ q; omega) (fun cX => by rw [vp_cell_i, hdv]) hn rfl hby2 (by dsimp only; omega) (by dsimp only; omega) hd (fun q cX H1 hK1 hP1 hD1 hS1 => ?_)
      refine tm_sz fun hs => ?_
      have hw := tm_where hz hn0 hP1 hD1 hs
      subst hw
      have hcX : cX = cA t := by
        have h1 := (hZ.1.2 t _ (tm_ty_at ht)).2
        have h2 := (hK1.2 (tm_ty cA).length (cX, ty) (by simp)).2
        cases at_ <;> subst hat <;> exact Option.some.inj (Eq.trans (Eq.symm h2) h1)
      subst hcX
      have e1 : tm_ws z b cA h ++ [(z + h.1, .inl (cA t, n.toNatClampNeg, .inl (fun _ => 0)))] = tm_ws z b cA (tm_add h n.toNatClampNeg (.inl (t, n.toNatClampNeg, fun _ => 0))) := tm_ws_add z b cA h n.toNatClampNeg (.inl (t, n.toNatClampNeg, fun _ => 0))
      rw [e1] at hP1
      refine tm_Wcells ?_ ?_ (kk ls H1 locs hl ⟨hP1, hS1, ?_, ?_⟩)
      all_goals (simp only [tm_add]; omega)
    · cases hst
  · cases hst
end TN
