def tm_vchk (r : tm_CT) : Bool := decide (r.2.2.1 ≠ 0) || (match tm_Ms[r.2.2.2.1]? with
  | some M => decide (M.2.2.2.2 < 13)
  | none => false)
set_option maxRecDepth 100000 in
theorem tm_callv_ok : tm_calls.all tm_vchk = true := by decide +kernel
section TR
variable {p : Program} {l : Launch} {e : Env} {R : Room} {s : State} {m : MethodId} {args : Array Value} {below : List Frame} {meth : Method} {c : Code} {Q : State → Prop} {D : va_G} {cA : Nat → ClassId} {z b n0 s0 nL o : Nat} {cc : ByteArray} {sc : tm_X} {pc : Nat} {lv : tm_L} {st : List Value} {h : tm_H} {S' : tm_S}
theorem tm_goodM {M : tm_MT} {j : Nat} (hj : j < 287) (hM : tm_Ms[j]? = some M) : GoodIn tm_T (tm_wsM M) := by
  intro w hw
  rcases List.mem_cons.mp hw with q | q
  · subst q
    exact ⟨tm_good_in (tm_code_in hj hM) rfl, good_of_word rfl⟩
  · exact ⟨q, good_of_word (List.mem_filter.mp q).2⟩
/-- what follows a call -/
theorem tm_after {rest : List Value} {h1 : tm_H} {r : Option Value} {ls : Array Slot} {H : Heap} {locs : List Loc} {st0 : List Value} {aa : Array Value}
    (hR : tm_R D cA z b n0 s0 s.heap h H locs) (hl : lv_has ls nL (tm_lv z b lv)) (hm : h.1 ≤ h1.1 ∧ h.2.1 ≤ h1.2.1)
    (hcall : ∀ T : State, T.heap = H → Stand p l e R s m args below meth c T locs (h.1 - n0) (h.2.1 - s0) → ∃ (v : Option Value) (vm₁ : Vm) (B : Pt), s.WarmedH vm₁ ∧ Stand p l e R s m args below meth c B.U B.locs B.cells B.slots ∧ PostOf (tm_Qc D cA z b r h1) (h1.1 - h.1) (h1.2.1 - h.2.1) (fun q => z ≤ q) ⟨T.setVm vm₁, locs, h.1 - n0, h.2.1 - s0⟩ aa v B ∧
      ∀ target, Steps p.tables e below (B.U.setTop { F0 m pc ls st0 with pc := pc + 3, stack := v.toList ++ rest.map (tm_tr z b) }) target → Steps p.tables e below (T.setTop (F0 m pc ls st0)) target)
    (kk : tm_Wk p l e R s m args below meth c Q D cA z b n0 s0 nL (pc + 3, lv, r.toList ++ rest, h1)) : W p l e R s m args below meth c H locs (h.1 - n0) (h.2.1 - s0) Q (F0 m pc ls st0) := by
  intro T hT X
  obtain ⟨v, vm₁, ⟨U', l2, c2, s2⟩, hW₁, X', ⟨g', mk, t, L, e1, e2, hq, q1, hL, q2, q3⟩, stp⟩ := hcall T hT X
  dsimp only [Pt.U, Pt.locs, Pt.cells, Pt.slots] at X' e1 e2 q1 q2 q3 stp
  subst q1; subst q2; subst q3
  obtain ⟨hv, hPw, hF⟩ := hq
  cases hv
  have hn0 : n0 ≤ h.1 := hR.2.2.1
  have hs0 : s0 ≤ h.2.1 := hR.2.2.2
  have hTH : ((T.setVm vm₁).calling g' mk aa).heap = H := hT
  have hF1 : H.size ≤ t.heap.size := by have := hF.1; rw [hTH] at this; exact this
  have hF2 : ∀ q : Nat, q < H.size → ¬ z ≤ q → t.heap[q]? = H[q]? := by have := hF.2; rw [hTH] at this; exact this
  have hR1 : tm_R D cA z b n0 s0 s.heap h1 U'.heap (locs ++ L) := by
    rw [e1]
    refine ⟨hPw, ⟨Nat.le_trans hR.2.1.1 hF1, fun q g1 g2 => ?_, fun q hq => ?_⟩, Nat.le_trans hn0 hm.1, Nat.le_trans hs0 hm.2⟩
    · rw [hF2 q (Nat.lt_of_lt_of_le g1 hR.2.1.1) g2]
      exact hR.2.1.2.1 q g1 g2
    · rcases List.mem_append.mp hq with q9 | q9
      · exact hR.2.1.2.2 q q9
      · exact hL q q9
  have k1 := tm_Wcells (cells' := h.1 - n0 + (h1.1 - h.1)) (slots' := h.2.1 - s0 + (h1.2.1 - h.2.1)) (by have := hm.1; dsimp only; omega) (by have := hm.2; dsimp only; omega) (kk ls U'.heap (locs ++ L) hl hR1)
  obtain ⟨t2, a1, b1⟩ := k1 U' rfl X'
  refine ⟨t2, stp t2 ?_, b1⟩
  have es : ((r.toList ++ rest).map (tm_tr z b)) = (r.map (tm_tr z b)).toList ++ rest.map (tm_tr z b) := by cases r <;> simp
  rw [← es]
  exact a1
set_option maxHeartbeats 4000000 in
theorem tm_scall {fuel d : Nat} (hPF : tm_PF l D cA z b sc fuel) {i : Instr} {k : Nat} {as rest : List Value} {h1 : tm_H} {r : Option Value} (C : tm_C D cA z b sc o nL cc p s m args c) (hz : s.heap.size = z + n0) (hfr : d + 1 ≤ R.frames) (hlo : 40 * (d + 1) ≤ R.locals) (hrc : h1.1 - n0 ≤ R.cells) (hrs : h1.2.1 - s0 ≤ R.slots) (hd : decode cc pc = .ok (i, 3)) (hinv : tm_inv o i st h = some (k, as, rest)) (hrun : tm_run sc fuel d k 0 (tm_ent as) [] h = some (r, h1))
    (kk : tm_Wk p l e R s m args below meth c Q D cA z b n0 s0 nL (pc + 3, lv, r.toList ++ rest, h1)) : tm_Wk p l e R s m args below meth c Q D cA z b n0 s0 nL (pc, lv, st, h) := by
  intro ls H locs hl hR
  obtain ⟨hx, hb, hml, ⟨own, ho, hown⟩, hts, hZ, hX, hbz⟩ := C
  have hm := tm_run_mono sc _ _ _ _ _ _ _ _ _ hrun
  have hn0 : n0 ≤ h.1 := hR.2.2.1
  have hs0 : s0 ≤ h.2.1 := hR.2.2.2
  have hXH : ∀ U : State, U.heap = H → s.WarmedH U.vm → va_X b sc.1 sc.2 U U.heap := fun U hU hW => by
    rw [hU]
    exact va_X.moved hW.alike (hX.kept (hR.2.1.2.1 b (by omega) (show ¬ z ≤ b by omega)))
  have hsz : ∀ T : State, T.heap = H → Stand p l e R s m args below meth c T locs (h.1 - n0) (h.2.1 - s0) → H.size = z + h.1 := fun T hT X => by
    have h1' := X.same.2.2.1
    have h2' : (T.setVm s.vm).heap = H := hT
    rw [h2'] at h1'
    have h3' : z + h.1 ≤ H.size := by
      by_cases h0 : h.1 = 0
      · have := hR.2.1.1; omega
      · have hg : (tm_ws z b cA h)[h.1 - 1]? = some (z + (h.1 - 1), tm_e z b cA (h.2.2 (h.1 - 1))) := by simp [tm_ws, show h.1 - 1 < h.1 by omega]
        have := (hR.1 _ _ hg).lt
        simp only at this
        omega
    omega
  unfold tm_inv at hinv
  split at hinv
  · -- invokevirtual
    rename_i ix
    split at hinv
    · rename_i x1 x2 j n rw_ hcall
      split at hinv
      · rename_i as' a r' hpop
        split at hinv
        · rename_i ci fs M hg hM
          split at hinv
          · rename_i hc
            obtain ⟨hci, hrest, hargs⟩ := hc
            cases hinv
            obtain ⟨p1, p2, p3⟩ := tm_pop_ok _ _ _ _ hpop
            obtain ⟨h1', h2', h3⟩ := tm_call_row hcall
            unfold tm_achk at h3
            simp only at h1' h2' h3
            subst h1'; subst h2'
            rw [ho, hM] at h3
            simp only [Bool.and_eq_true, decide_eq_true_eq] at h3
            obtain ⟨⟨⟨⟨⟨⟨⟨⟨c1, c2⟩, c3⟩, c4⟩, c5⟩, c6⟩, c7⟩, c8⟩, c9, c10⟩ := h3
            have hlen : ∀ sig, parseMethodDescriptor M.1.desc = some sig → (as'.map (tm_tr z b)).length = sig.parameters.length := fun sig hsig => by
              rw [hsig] at c3
              rw [List.length_map, p1]
              exact (Option.some.inj c3).symm
            have hsl : (lg_sl ((Value.ref a :: as').map (tm_tr z b))).length ≤ M.2.2.1 := by
              rw [tm_sl_len _ (fun v hv => by
                obtain ⟨w, hw, rfl⟩ := List.mem_map.mp hv
                rw [tm_tr_cat]
                rcases List.mem_cons.mp hw with q | q
                · subst q; rfl
                · exact p3 w q), List.length_map]
              exact hargs
            have hMet := tm_met hPF hbz hM hrun c5 c6 hsl
            have hK : Back l R p e below s args M.1 3 16 (PreOf R (h1.1 - h.1) (h1.2.1 - h.2.1) (tm_Pc D cA z b sc (Value.ref a :: as') h)) (PostOf (tm_Qc D cA z b r h1) (h1.1 - h.1) (h1.2.1 - h.2.1) (fun q => z ≤ q)) := back_of (bytes := M.2.1) (maxL := M.2.2.1) (ret := M.2.2.2.1) hMet tm_blind rfl rfl hfr (by show 16 + (M.2.2.1 + 11) + 40 * d ≤ R.locals; omega) (pay_in hts (tm_goodM c7 hM)) List.mem_cons_self (fun a' U hW => word_at hW (Or.inl rfl) (hts _ (tm_good_in (List.mem_of_getElem? c2) rfl)))
            have hcode := hts _ (tm_good_in (tm_code_in c7 hM) rfl)
            have hinst := hts _ (tm_good_in (List.mem_of_getElem? c9) rfl)
            have hsel := hts _ (tm_good_in (List.mem_of_getElem? c10) rfl)
            have hq : ∃ q, tm_cl[ci]? = some q ∧ q.1 = M.1.cls := by
              rw [← hci] at c6
              have hlt : ci < 13 := by
                have hv := List.all_eq_true.mp tm_callv_ok _ (List.mem_of_find?_eq_some hcall)
                unfold tm_vchk at hv
                simp only [hM] at hv
                simp only [Bool.or_eq_true, decide_eq_true_eq] at hv
                rcases hv with hv | hv
                · exact absurd hv (by decide)
                · rw [hci]; exact hv
              obtain ⟨q, hq⟩ : ∃ q, tm_cl[ci]? = some q := ⟨tm_cl[ci]'hlt, List.getElem?_eq_getElem hlt⟩
              exact ⟨q, hq, tm_own_cl hq c6⟩
            obtain ⟨q, hq, hqn⟩ := hq
            obtain ⟨-, -, hws⟩ := tm_ws_get (z := z) (b := b) (cA := cA) hg
            obtain ⟨cellB, hcB, hoB, hclB⟩ := va_recv hZ.1 hR.1 hq hws
            rw [hqn] at hclB
            refine tm_after (aa := ((Value.ref a :: as').map (tm_tr z b)).toArray) (rest := rest) hR hl hm (fun T hT X => ?_) kk
            have hpre : ∀ vm₁, s.WarmedH vm₁ → PreOf R (h1.1 - h.1) (h1.2.1 - h.2.1) (tm_Pc D cA z b sc (Value.ref a :: as') h) ⟨T.setVm vm₁, locs, h.1 - n0, h.2.1 - s0⟩ (Value.ref (z + a) :: as'.map (tm_tr z b)).toArray := fun vm₁ hW => ⟨by show h.1 - n0 + (h1.1 - h.1) ≤ R.cells; have := hm.1; omega, by show h.2.1 - s0 + (h1.2.1 - h.2.1) ≤ R.slots; have := hm.2; omega, rfl, by show T.heap.size = _; rw [hT]; exact hsz T hT X, by show va_P _ _ _ T.heap; rw [hT]; exact hR.1, tm_Z_warm hW hZ, hXH (T.setVm vm₁) hT hW⟩
            have hstk : (F0 m pc ls (st.map (tm_tr z b))).stack = (as'.map (tm_tr z b)).reverse ++ .ref (z + a) :: rest.map (tm_tr z b) := by
              show st.map (tm_tr z b) = _
              rw [p2, List.map_append, List.map_reverse]
              rfl
            split at c1
            · exact va_callVN X hx (C := M.1.cls) (bytes := M.2.1) (maxL := M.2.2.1) (ret := M.2.2.2.1) hown (va_Nw.use rfl (hZ.2.1 _ (List.mem_of_getElem? c1) rfl)) hinst hsel hcode c4 hK (by rw [hT]; exact hcB) hoB hclB rfl (by rw [hml]; exact hl.1) hlen hstk (by show 2 * 0 + _ ≤ 16; have := tm_rest_ok (z := z) (b := b) hrest; omega) (by rw [hb]; exact hd) hpre
            · exact callV X hx (C := M.1.cls) (bytes := M.2.1) (maxL := M.2.2.1) (ret := M.2.2.2.1) hown (hts _ (tm_good_in (List.mem_of_getElem? c1) rfl)) hinst hsel hcode c4 hK (by rw [hT]; exact hcB) hoB hclB rfl (by rw [hml]; exact hl.1) hlen hstk (by show 2 * 0 + _ ≤ 16; have := tm_rest_ok (z := z) (b := b) hrest; omega) (by rw [hb]; exact hd) hpre
          · cases hinv
        · cases hinv
      · cases hinv
    · cases hinv
  · -- invokespecial
    rename_i ix
    split at hinv
    · rename_i x1 x2 j n rw_ hcall
      split at hinv
      · rename_i as' a r' hpop
        split at hinv
        · rename_i M hM
          split at hinv
          · rename_i hc
            obtain ⟨hrest, hargs⟩ := hc
            cases hinv
            obtain ⟨p1, p2, p3⟩ := tm_pop_ok _ _ _ _ hpop
            obtain ⟨h1', h2', h3⟩ := tm_call_row hcall
            unfold tm_achk at h3
            simp only at h1' h2' h3
            subst h1'; subst h2'
            rw [ho, hM] at h3
            simp only [Bool.and_eq_true, decide_eq_true_eq] at h3
            obtain ⟨⟨⟨⟨⟨⟨⟨⟨c1, c2⟩, c3⟩, c4⟩, c5⟩, c6⟩, c7⟩, c8⟩, ⟨c9, c10⟩, c11⟩ := h3
            have hlen : ∀ sig, parseMethodDescriptor M.1.desc = some sig → (as'.map (tm_tr z b)).length = sig.parameters.length := fun sig hsig => by
              rw [hsig] at c3
              rw [List.length_map, p1]
              exact (Option.some.inj c3).symm
            have hsl : (lg_sl ((Value.ref a :: as').map (tm_tr z b))).length ≤ M.2.2.1 := by
              rw [tm_sl_len _ (fun v hv => by
                obtain ⟨w, hw, rfl⟩ := List.mem_map.mp hv
                rw [tm_tr_cat]
                rcases List.mem_cons.mp hw with q | q
                · subst q; rfl
                · exact p3 w q), List.length_map]
              exact hargs
            have hMet := tm_met hPF hbz hM hrun c5 c6 hsl
            have hK : Back l R p e below s args M.1 3 16 (PreOf R (h1.1 - h.1) (h1.2.1 - h.2.1) (tm_Pc D cA z b sc (Value.ref a :: as') h)) (PostOf (tm_Qc D cA z b r h1) (h1.1 - h.1) (h1.2.1 - h.2.1) (fun q => z ≤ q)) := back_of (bytes := M.2.1) (maxL := M.2.2.1) (ret := M.2.2.2.1) hMet tm_blind rfl rfl hfr (by show 16 + (M.2.2.1 + 11) + 40 * d ≤ R.locals; omega) (pay_in hts (tm_goodM c7 hM)) List.mem_cons_self (fun a' U hW => word_at hW (Or.inl rfl) (hts _ (tm_good_in (List.mem_of_getElem? c2) rfl)))
            have hcode := hts _ (tm_good_in (tm_code_in c7 hM) rfl)
            rw [c11] at hcode
            have hinst := hts _ (tm_good_in (List.mem_of_getElem? c9) rfl)
            refine tm_after (aa := ((Value.ref a :: as').map (tm_tr z b)).toArray) (rest := rest) hR hl hm (fun T hT X => ?_) kk
            have hpre : ∀ vm₁, s.WarmedH vm₁ → PreOf R (h1.1 - h.1) (h1.2.1 - h.2.1) (tm_Pc D cA z b sc (Value.ref a :: as') h) ⟨T.setVm vm₁, locs, h.1 - n0, h.2.1 - s0⟩ (Value.ref (z + a) :: as'.map (tm_tr z b)).toArray := fun vm₁ hW => ⟨by show h.1 - n0 + (h1.1 - h.1) ≤ R.cells; have := hm.1; omega, by show h.2.1 - s0 + (h1.2.1 - h.2.1) ≤ R.slots; have := hm.2; omega, rfl, by show T.heap.size = _; rw [hT]; exact hsz T hT X, by show va_P _ _ _ T.heap; rw [hT]; exact hR.1, tm_Z_warm hW hZ, hXH (T.setVm vm₁) hT hW⟩
            have hstk : (F0 m pc ls (st.map (tm_tr z b))).stack = (as'.map (tm_tr z b)).reverse ++ .ref (z + a) :: rest.map (tm_tr z b) := by
              show st.map (tm_tr z b) = _
              rw [p2, List.map_append, List.map_reverse]
              rfl
            split at c1
            · exact va_callIN X hx (bytes := M.2.1) (maxL := M.2.2.1) hown c10 (va_Nw.use rfl (hZ.2.1 _ (List.mem_of_getElem? c1) rfl)) hinst hcode c4 hK rfl (by rw [hml]; exact hl.1) hlen hstk (by show 2 * 0 + _ ≤ 16; have := tm_rest_ok (z := z) (b := b) hrest; omega) (by rw [hb]; exact hd) hpre
            · exact callI X hx (bytes := M.2.1) (maxL := M.2.2.1) hown c10 (hts _ (tm_good_in (List.mem_of_getElem? c1) rfl)) hinst hcode c4 hK rfl (by rw [hml]; exact hl.1) hlen hstk (by show 2 * 0 + _ ≤ 16; have := tm_rest_ok (z := z) (b := b) hrest; omega) (by rw [hb]; exact hd) hpre
          · cases hinv
        · cases hinv
      · cases hinv
    · cases hinv
  · -- invokestatic
    rename_i ix
    split at hinv
    · rename_i x1 x2 j n rw_ hcall
      split at hinv
      · rename_i as' r' hpop
        split at hinv
        · rename_i M hM
          split at hinv
          · rename_i hc
            obtain ⟨hrest, hargs⟩ := hc
            cases hinv
            obtain ⟨p1, p2, p3⟩ := tm_pop_ok _ _ _ _ hpop
            obtain ⟨h1', h2', h3⟩ := tm_call_row hcall
            unfold tm_achk at h3
            simp only at h1' h2' h3
            subst h1'; subst h2'
            rw [ho, hM] at h3
            simp only [Bool.and_eq_true, decide_eq_true_eq] at h3
            obtain ⟨⟨⟨⟨⟨⟨⟨⟨c1, c2⟩, c3⟩, c4⟩, c5⟩, c6⟩, c7⟩, c8⟩, c9⟩ := h3
            have hlen : ∀ sig, parseMethodDescriptor M.1.desc = some sig → (as.map (tm_tr z b)).length = sig.parameters.length := fun sig hsig => by
              rw [hsig] at c3
              rw [List.length_map, p1]
              exact (Option.some.inj c3).symm
            have hsl : (lg_sl (as.map (tm_tr z b))).length ≤ M.2.2.1 := by
              rw [tm_sl_len _ (fun v hv => by
                obtain ⟨w, hw, rfl⟩ := List.mem_map.mp hv
                rw [tm_tr_cat]
                exact p3 w hw), List.length_map]
              exact hargs
            have hMet := tm_met hPF hbz hM hrun c5 c6 hsl
            have hinit := hts _ (tm_good_in (List.mem_of_getElem? c2) rfl)
            have hK : Back l R p e below s args M.1 3 16 (PreOf R (h1.1 - h.1) (h1.2.1 - h.2.1) (tm_Pc D cA z b sc as h)) (PostOf (tm_Qc D cA z b r h1) (h1.1 - h.1) (h1.2.1 - h.2.1) (fun q => z ≤ q)) := back_of (bytes := M.2.1) (maxL := M.2.2.1) (ret := M.2.2.2.1) hMet tm_blind rfl rfl hfr (by show 16 + (M.2.2.1 + 11) + 40 * d ≤ R.locals; omega) (pay_in hts (tm_goodM c7 hM)) List.mem_cons_self (fun a' U hW => word_at hW (Or.inl rfl) hinit)
            have hcode := hts _ (tm_good_in (tm_code_in c7 hM) rfl)
            have hstat := hts _ (tm_good_in (List.mem_of_getElem? c9) rfl)
            refine tm_after (aa := (as.map (tm_tr z b)).toArray) (rest := rest) hR hl hm (fun T hT X => ?_) kk
            have hpre : ∀ vm₁, s.WarmedH vm₁ → PreOf R (h1.1 - h.1) (h1.2.1 - h.2.1) (tm_Pc D cA z b sc as h) ⟨T.setVm vm₁, locs, h.1 - n0, h.2.1 - s0⟩ (as.map (tm_tr z b)).toArray := fun vm₁ hW => ⟨by show h.1 - n0 + (h1.1 - h.1) ≤ R.cells; have := hm.1; omega, by show h.2.1 - s0 + (h1.2.1 - h.2.1) ≤ R.slots; have := hm.2; omega, rfl, by show T.heap.size = _; rw [hT]; exact hsz T hT X, by show va_P _ _ _ T.heap; rw [hT]; exact hR.1, tm_Z_warm hW hZ, hXH (T.setVm vm₁) hT hW⟩
            have hstk : (F0 m pc ls (st.map (tm_tr z b))).stack = (as.map (tm_tr z b)).reverse ++ rest.map (tm_tr z b) := by
              show st.map (tm_tr z b) = _
              rw [p2, List.map_append, List.map_reverse]
            split at c1
            · exact va_callSN X hx (bytes := M.2.1) (maxL := M.2.2.1) (ret := M.2.2.2.1) hown (va_Nw.use rfl (hZ.2.1 _ (List.mem_of_getElem? c1) rfl)) hstat hinit hcode c4 hK rfl (by rw [hml]; exact hl.1) hlen hstk (by show 2 * 0 + _ ≤ 16; have := tm_rest_ok (z := z) (b := b) hrest; omega) (by rw [hb]; exact hd) hpre
            · exact callS X hx (bytes := M.2.1) (maxL := M.2.2.1) (ret := M.2.2.2.1) hown (hts _ (tm_good_in (List.mem_of_getElem? c1) rfl)) hstat hinit hcode c4 hK rfl (by rw [hml]; exact hl.1) hlen hstk (by show 2 * 0 + _ ≤ 16; have := tm_rest_ok (z := z) (b := b) hrest; omega) (by rw [hb]; exact hd) hpre
          · cases hinv
        · cases hinv
      · cases hinv
    · cases hinv
  · cases hinv
end TR
set_option maxHeartbeats 4000000 in
theorem tm_main (hMN : tm_MN) (l : Launch) (D : va_G) (cA : Nat → ClassId) (z b : Nat) (sc : tm_X) : ∀ fuel, tm_PF l D cA z b sc fuel
  | 0 => fun d j M pc lv st h r h' hM hr => by cases hr
  | fuel + 1 => by
    intro d j M pc lv st h r h' hM hr p e R s m args below meth c Q n0 s0 C hz hini hfr hlo hrc hrs hend
    have ih := tm_main hMN l D cA z b sc fuel
    unfold tm_run at hr
    rw [hM] at hr
    simp only at hr
    split at hr
    · cases hr
    · rename_i i len hdec
      split at hr
      · rename_i r0 hret
        split at hr
        · rename_i hlen
          subst hlen
          cases hr
          exact fun ls H locs hl hR => hend pc i st ls H locs hdec hret hR
        · cases hr
      · split at hr
        · rename_i pc' lv' st' h2 hs
          have hm := tm_run_mono sc _ _ _ _ _ _ _ _ _ hr
          exact tm_snd hMN C hz hini ⟨by have := hm.1; dsimp only; omega, by have := hm.2; dsimp only; omega⟩ hdec hs (ih d j M pc' lv' st' h2 r h' hM hr p e R s m args below meth c Q n0 s0 C hz hini hfr hlo hrc hrs hend)
        · split at hr
          · cases hr
          · rename_i d'
            split at hr
            · rename_i hlen
              subst hlen
              split at hr
              · rename_i pc' lv' st' h2 hs
                have hm := tm_run_mono sc _ _ _ _ _ _ _ _ _ hr
                exact tm_snat C (by omega) (by omega) ⟨by have := hm.1; dsimp only; omega, by have := hm.2; dsimp only; omega⟩ hdec hs (ih (d' + 1) j M pc' lv' st' h2 r h' hM hr p e R s m args below meth c Q n0 s0 C hz hini hfr hlo hrc hrs hend)
              · split at hr
                · rename_i k as rest hinv
                  split at hr
                  · rename_i v h2 hc
                    have hm := tm_run_mono sc _ _ _ _ _ _ _ _ _ hr
                    exact tm_scall ih C hz hfr hlo (by have := hm.1; omega) (by have := hm.2; omega) hdec hinv hc (ih (d' + 1) j M (pc + 3) lv (v.toList ++ rest) h2 r h' hM hr p e R s m args below meth c Q n0 s0 C hz hini hfr hlo hrc hrs hend)
                  · cases hr
                · cases hr
            · cases hr
