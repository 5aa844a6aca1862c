/-! WHAT THE SMALL MACHINE RUNS, THE MACHINE RUNS -/
def tm_wsM (M : tm_MT) : List Cond := Cond.code M.1 M.2.1 M.2.2.1 M.2.2.2.1 :: tm_T
def tm_rm (d cells slots : Nat) : Room := { frames := d, cells := cells, slots := slots, locals := 40 * d }
def tm_Pc (D : va_G) (cA : Nat → ClassId) (z b : Nat) (sc : tm_X) (as : List Value) (h : tm_H) : Array Value → State → Prop := fun v U =>
  v = (as.map (tm_tr z b)).toArray ∧ U.heap.size = z + h.1 ∧ va_P D tm_cl (tm_ws z b cA h) U.heap ∧ tm_Z D cA U ∧ va_X b sc.1 sc.2 U U.heap
def tm_Qc (D : va_G) (cA : Nat → ClassId) (z b : Nat) (r : Option Value) (h' : tm_H) : Array Value → State → Outcome → State → Prop := fun _ st oc t =>
  oc = .returned (r.map (tm_tr z b)) ∧ va_P D tm_cl (tm_ws z b cA h') t.heap ∧ va_F (fun q => z ≤ q) st t
theorem tm_blind {D : va_G} {cA : Nat → ClassId} {z b : Nat} {sc : tm_X} {as : List Value} {h : tm_H} : FrameBlind (tm_Pc D cA z b sc as h) := by
  intro a U g mk hq
  obtain ⟨h1, h2, h3, h4, h5⟩ := hq
  exact ⟨h1, h2, h3, tm_Z_call h4, va_X.moved (u := U) (U := U.calling g mk a) (Vm.Alike.refl U.vm) h5⟩
/-- the run of fuel is sound, from any place of any method -/
def tm_PF (l : Launch) (D : va_G) (cA : Nat → ClassId) (z b : Nat) (sc : tm_X) (fuel : Nat) : Prop :=
  ∀ (d j : Nat) (M : tm_MT) (pc : Nat) (lv : tm_L) (st : List Value) (h : tm_H) (r : Option Value) (h' : tm_H), tm_Ms[j]? = some M → tm_run sc fuel d j pc lv st h = some (r, h') →
  ∀ (p : Program) (e : Env) (R : Room) (s : State) (m : MethodId) (args : Array Value) (below : List Frame) (meth : Method) (c : Code) (Q : State → Prop) (n0 s0 : Nat), tm_C D cA z b sc M.2.2.2.2 M.2.2.1 M.2.1 p s m args c → s.heap.size = z + n0 → ((M.1.name == "<init>") = true → meth.name = "<init>") → d ≤ R.frames → 40 * d ≤ R.locals → h'.1 - n0 ≤ R.cells → h'.2.1 - s0 ≤ R.slots →
  (∀ (pc' : Nat) (i : Instr) (st' : List Value) (ls : Array Slot) (H : Heap) (locs : List Loc), decode M.2.1 pc' = .ok (i, 1) → tm_retOk M.2.2.2.1 i st' = some r → tm_R D cA z b n0 s0 s.heap h' H locs → W p l e R s m args below meth c H locs (h'.1 - n0) (h'.2.1 - s0) Q (F0 m pc' ls (st'.map (tm_tr z b)))) →
  tm_Wk p l e R s m args below meth c Q D cA z b n0 s0 M.2.2.1 (pc, lv, st, h)
theorem tm_ent_tr (z b : Nat) : ∀ (as : List Value) (i : Nat), lv_args i (as.map (tm_tr z b)) = tm_lv z b (lv_args i as)
  | [], _ => rfl
  | v :: as, i => by
    show (i, tm_tr z b v) :: lv_args (if (tm_tr z b v).category = 2 then i + 2 else i + 1) (as.map (tm_tr z b)) = (i, tm_tr z b v) :: tm_lv z b (lv_args (if v.category = 2 then i + 2 else i + 1) as)
    rw [tm_tr_cat, tm_ent_tr z b as]
theorem tm_sl_len : ∀ (vs : List Value), (∀ v ∈ vs, v.category = 1) → (lg_sl vs).length = vs.length
  | [], _ => rfl
  | v :: vs, h => by
    have h1 := h v List.mem_cons_self
    have h2 := tm_sl_len vs (fun w hw => h w (List.mem_cons_of_mem _ hw))
    unfold lg_sl at h2 ⊢
    simp only [List.flatMap_cons, h1]
    simp [h2]
theorem tm_pop_ok : ∀ (n : Nat) (st as r : List Value), tm_pop n st = some (as, r) → as.length = n ∧ st = as.reverse ++ r ∧ ∀ v ∈ as, v.category = 1
  | 0, st, as, r, h => by
    unfold tm_pop at h
    cases h
    exact ⟨rfl, rfl, fun v hv => by cases hv⟩
  | n + 1, [], as, r, h => by cases h
  | n + 1, v :: st, as, r, h => by
    unfold tm_pop at h
    split at h
    · rename_i hv
      obtain ⟨⟨as', r'⟩, hq, hS⟩ := Option.map_eq_some_iff.mp h
      cases hS
      obtain ⟨h1, h2, h3⟩ := tm_pop_ok n st as' r' hq
      refine ⟨by simp [h1], by simp [h2], fun w hw => ?_⟩
      rcases List.mem_append.mp hw with q | q
      · exact h3 w q
      · rw [List.mem_singleton.mp q]; exact hv
    · cases h
theorem tm_met {l : Launch} {D : va_G} {cA : Nat → ClassId} {z b : Nat} {sc : tm_X} {fuel : Nat} (hPF : tm_PF l D cA z b sc fuel) (hbz : b < z) {d j : Nat} {M : tm_MT} {as : List Value} {h h' : tm_H} {r : Option Value} (hM : tm_Ms[j]? = some M) (hrun : tm_run sc fuel d j 0 (tm_ent as) [] h = some (r, h')) (hpl : plainName M.1.cls = true) (hown : tm_own[M.2.2.2.2]? = some M.1.cls) (hargs : (lg_sl (as.map (tm_tr z b))).length ≤ M.2.2.1) :
    Met l M.1 (tm_wsM M) (tm_rm d (h'.1 - h.1) (h'.2.1 - h.2.1)) (tm_Pc D cA z b sc as h) (tm_Qc D cA z b r h') (h'.1 - h.1) (h'.2.1 - h.2.1) (fun q => z ≤ q) := by
  refine Met.ofW (cc := M.2.1) (maxL := M.2.2.1) (ret := M.2.2.2.1) hpl rfl ?_
  intro p e s m args below meth c s₁ B hml hv
  obtain ⟨rfl, hsz, hPw, hZ, hX⟩ := hv
  have hx := B.exec
  have hb := B.bytes
  have hr := B.returns
  have hts := atoms_spec (ws := tm_wsM M) B.pre
  have hown' : s.vm.findClass M.1.cls = some m.cls := findClass_of_methodNamed B.named
  have hlocks := B.notSynchronized
  have hin : meth.name = M.1.name := (name_of_methodNamed B.named B.method).1
  have hl := lv_entry (as.map (tm_tr z b)) (n := M.2.2.1) hargs
  rw [lg_entry_eq]
  generalize (lg_sl (as.map (tm_tr z b)) ++ List.replicate (M.2.2.1 - (lg_sl (as.map (tm_tr z b))).length) Slot.unset).toArray = ls at hl ⊢
  rw [tm_ent_tr] at hl
  have C : tm_C D cA z b sc M.2.2.2.2 M.2.2.1 M.2.1 p s m (as.map (tm_tr z b)).toArray c := ⟨hx, hb, hml, ⟨_, hown, hown'⟩, fun w hw => hts w (List.mem_cons_of_mem _ hw), hZ, hX, hbz⟩
  have key := hPF d j M 0 (tm_ent as) [] h r h' hM hrun p e (headSpec (tm_wsM M) (tm_rm d (h'.1 - h.1) (h'.2.1 - h.2.1))).room s m (as.map (tm_tr z b)).toArray below meth c (MQ below (tm_Qc D cA z b r h') (as.map (tm_tr z b)).toArray s (h'.1 - h.1) (h'.2.1 - h.2.1) (fun q => z ≤ q)) h.1 h.2.1 C hsz (fun hi => by rw [hin]; exact beq_iff_eq.mp hi) (Nat.le_refl _) (Nat.le_refl _) (Nat.le_refl _) (Nat.le_refl _) ?_
  · refine tm_Wcells (Nat.sub_self _) (Nat.sub_self _) (key ls s.heap [] hl ⟨hPw, va_S.rf, Nat.le_refl _, Nat.le_refl _⟩)
  · intro pc' i st' ls' H locs hdec hret hR
    have hq : ∀ (t : State), t.heap = H → tm_Qc D cA z b r h' (as.map (tm_tr z b)).toArray s (.returned (r.map (tm_tr z b))) t := fun t ht => ⟨rfl, by rw [ht]; exact hR.1, hR.2.1.F ht⟩
    unfold tm_retOk at hret
    split at hret
    · rename_i v ty hrt
      split at hret
      · rename_i hn
        cases hret
        exact W.zret hx hb (hr.trans hrt) hn (fun t ht _ => hq t ht) hR.2.1.2.2 hdec
      · cases hret
    · rename_i v o hrt
      split at hret
      · rename_i hv
        cases hret
        refine W.aret hx hb (hr.trans hrt) (Or.inl ⟨_, rfl⟩) ?_ (fun t ht _ => hq t ht) hR.2.1.2.2 hdec
        cases v <;> first | exact Or.inl rfl | exact Or.inr ⟨_, rfl⟩ | (simp [tm_rfOf] at hv)
      · cases hret
    · rename_i v o hrt
      split at hret
      · rename_i hv
        cases hret
        refine W.aret hx hb (hr.trans hrt) (Or.inr ⟨_, rfl⟩) ?_ (fun t ht _ => hq t ht) hR.2.1.2.2 hdec
        cases v <;> first | exact Or.inl rfl | exact Or.inr ⟨_, rfl⟩ | (simp [tm_rfOf] at hv)
      · cases hret
    · rename_i hrt
      cases hret
      exact W.vret hx hb (hr.trans hrt) (fun t ht _ => hq t ht) hR.2.1.2.2 hdec
    · cases hret
