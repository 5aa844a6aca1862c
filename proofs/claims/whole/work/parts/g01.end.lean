/-! new int[n][k] of the small machine is the machine's own; the claim out of the walk. -/
theorem tm_outer (c : ClassId) (N h0 : Nat) : ∀ i : Nat, Jvm.Free.Multi.outerC c N h0 i = arrV c N (fun j => va_rf (if j < i then some (h0 + 1 + j) else none))
  | 0 => by
    show ({ cls := c, slots := Array.replicate N .null, vm := .none } : Cell) = _
    rw [arrV_new]
    refine congrArg (arrV c N) (funext fun j => ?_)
    simp [va_rf]
  | i + 1 => by
    show (Jvm.Free.Multi.outerC c N h0 i).setSlot i (.ref (h0 + 1 + i)) = _
    rw [tm_outer c N h0 i, arrV_store]
    refine congrArg (arrV c N) (funext fun j => ?_)
    by_cases e : j = i
    · subst e
      simp [updV, va_rf]
    · by_cases h : j < i
      · simp [updV, e, h, Nat.lt_succ_of_lt h]
      · simp [updV, e, h, show ¬ j < i + 1 by omega]
set_option maxRecDepth 100000 in
theorem tm_mna_word : lw_tbl[568]? = some (Cond.classLink "SealedHouse$Store" 9 ("[" ++ (FieldType.array .int).toString)) := by decide +kernel
section TMN
variable {p : Program} {l : Launch} {e : Env} {R : Room} {s : State} {m : MethodId} {args : Array Value} {below : List Frame} {meth : Method} {c : Code} {Q : State → Prop} {D : va_G} {cA : Nat → ClassId} {z b n0 s0 nL o : Nat} {cc : ByteArray} {sc : tm_X} {pc : Nat} {lv : tm_L} {st : List Value} {h : tm_H} {S' : tm_S}
theorem tm_s_mnew {i d : Nat} (C : tm_C D cA z b sc o nL cc p s m args c) (hz : s.heap.size = z + n0) (hroom : S'.2.2.2.1 - n0 ≤ R.cells ∧ S'.2.2.2.2.1 - s0 ≤ R.slots) (hd : decode cc pc = .ok (.multianewarray i d, 4)) (hst : tm_mnew o i d pc lv st h = some S') (kk : tm_Wk p l e R s m args below meth c Q D cA z b n0 s0 nL S') : tm_Wk p l e R s m args below meth c Q D cA z b n0 s0 nL (pc, lv, st, h) := by
  intro ls H locs hl hR
  obtain ⟨hx, hb, hml, ⟨own, ho, hown⟩, hts, hZ, hX, hbz⟩ := C
  unfold tm_mnew at hst
  split at hst
  · rename_i k n r
    split at hst
    · rename_i hc
      obtain ⟨rfl, rfl, rfl, hn, hk, hby1, hby2⟩ := hc
      cases hst
      have hn0 : n0 ≤ h.1 := hR.2.2.1
      have hs0 : s0 ≤ h.2.1 := hR.2.2.2
      have ho' : own = "SealedHouse$Store" := by cases ho; rfl
      subst ho'
      simp only [tm_rows_1, tm_rows_2, tm_add] at hroom
      have hclink := hts _ (tm_good_in (List.mem_of_getElem? tm_mna_word) rfl)
      have hty8 : tm_tys[8]? = some (.array .int) := rfl
      have hword8 := tm_ty_word hty8
      rw [if_neg (by decide)] at hword8
      have hover : (Cond.arrayOver (.array .int)).before args s = true := hZ.2.2 _ hword8 rfl
      have hword0 := tm_ty_word (t := 0) (ty := .int) rfl
      rw [if_pos (by decide)] at hword0
      have harr := hts _ (tm_good_in hword0 rfl)
      intro T hT Xs
      have hsz : H.size ≤ s.heap.size + (h.1 - n0) := by
        have h1 := Xs.same.2.2.1
        have h2 : (T.setVm s.vm).heap = H := hT
        rw [h2] at h1
        exact h1
      have hsz2 : z + h.1 ≤ H.size := by
        by_cases h0 : h.1 = 0
        · have := hR.2.1.1; omega
        · have hg : (tm_ws z b cA h)[h.1 - 1]? = some (z + (h.1 - 1), tm_e z b cA (h.2.2 (h.1 - 1))) := by simp [tm_ws, show h.1 - 1 < h.1 by omega]
          have := (hR.1 _ _ hg).lt
          simp only at this
          omega
      have hH : H.size = z + h.1 := by omega
      obtain ⟨vm₁, cX, comp, -, fA, fC, hO, -, X', step⟩ := Xs.multianewarray2F hx hown hclink hover harr (g := F0 m pc ls (.int k :: .int n :: r.map (tm_tr z b))) rfl (by rw [hb]; exact hd) rfl hn hk hby1 hby2 (by omega) rfl rfl (by dsimp only; omega) (by dsimp only; omega)
      have hcomp : comp = cA 0 := by
        have h1 : s.vm.findClass ("[" ++ FieldType.int.toString) = some (cA 0) := (hZ.1.2 0 _ (tm_ty_at (t := 0) (ty := .int) rfl)).2
        exact Option.some.inj (Eq.trans (Eq.symm fC) h1)
      have hcX : cX = cA 8 := by
        have h1 : s.vm.findClass ("[" ++ (FieldType.array .int).toString) = some (cA 8) := (hZ.1.2 8 _ (tm_ty_at hty8)).2
        exact Option.some.inj (Eq.trans (Eq.symm fA) h1)
      subst hcomp
      subst hcX
      generalize hF : Jvm.Free.Multi.fill (T.setVm vm₁) (cA 8) (cA 0) n.toNatClampNeg k.toNatClampNeg (defaultValue .int) n.toNatClampNeg = F at X' step
      have hTh : (T.setVm vm₁).heap = H := hT
      obtain ⟨f1, f2, -, -⟩ := Jvm.Free.Multi.fill_facts (T.setVm vm₁) (cA 8) (cA 0) n.toNatClampNeg k.toNatClampNeg (defaultValue .int) n.toNatClampNeg
      rw [hF, hTh] at f1 f2
      have hold : ∀ x : Nat, x < H.size → F.heap[x]? = H[x]? := fun x hx => by
        have := Jvm.Free.Multi.fill_old (T.setVm vm₁) (cA 8) (cA 0) n.toNatClampNeg k.toNatClampNeg (defaultValue .int) (a := x) (by rw [hTh]; exact hx) n.toNatClampNeg
        rw [hF, hTh] at this
        exact this
      have hrow : ∀ j : Nat, j < n.toNatClampNeg → F.heap[H.size + 1 + j]? = some (vp_cell (cA 0) (k.toNatClampNeg, .inl (fun _ => 0))) := fun j hj => by
        have := Jvm.Free.Multi.fill_inner (T.setVm vm₁) (cA 8) (cA 0) n.toNatClampNeg k.toNatClampNeg (defaultValue .int) n.toNatClampNeg j hj
        rw [hF, hTh] at this
        rw [this]
        show some ({ cls := cA 0, slots := Array.replicate k.toNatClampNeg (.int 0), vm := .none } : Cell) = _
        rw [arrV_new]; rfl
      rw [tm_outer] at f2
      generalize hh2 : tm_add h n.toNatClampNeg (.inr (.inl (8, n.toNatClampNeg, fun j => if j < n.toNatClampNeg then some (h.1 + 1 + j) else none))) = h2 at kk
      have h21 : h2.1 = h.1 + 1 := by rw [← hh2]; rfl
      have h22 : h2.2.1 = h.2.1 + n.toNatClampNeg := by rw [← hh2]; rfl
      have hP1 : va_P D tm_cl (tm_ws z b cA (tm_rows k.toNatClampNeg n.toNatClampNeg h2)) F.heap := by
        intro q x hq
        have hql : q < h.1 + 1 + n.toNatClampNeg := by
          have := (List.getElem?_eq_some_iff.mp hq).1
          rw [tm_ws_len, tm_rows_1, h21] at this
          exact this
        have hx2 : x = (z + q, tm_e z b cA ((tm_rows k.toNatClampNeg n.toNatClampNeg h2).2.2 q)) := by
          unfold tm_ws at hq
          rw [tm_rows_1, h21, List.getElem?_map, List.getElem?_range hql] at hq
          exact (Option.some.inj hq).symm
        subst hx2
        by_cases c1 : q < h.1
        · rw [tm_rows_lo _ _ _ _ (by omega), ← hh2]
          show va_at D tm_cl (z + q, tm_e z b cA (va_up h.2.2 h.1 _ q)) F.heap
          rw [va_up_ne _ _ (by omega)]
          have hg : (tm_ws z b cA h)[q]? = some (z + q, tm_e z b cA (h.2.2 q)) := by simp [tm_ws, c1]
          exact (hR.1 _ _ hg).kept (hold _ (by show z + q < H.size; omega))
        · by_cases c2 : q = h.1
          · subst c2
            rw [tm_rows_lo _ _ _ _ (by omega), ← hh2]
            show va_at D tm_cl (z + h.1, tm_e z b cA (va_up h.2.2 h.1 _ h.1)) F.heap
            rw [va_up_self]
            show F.heap[z + h.1]? = some (vp_cell (cA 8) _)
            rw [← hH, f2, vp_cell_q]
            refine congrArg some (congrArg (arrV (cA 8) n.toNatClampNeg) (funext fun j => ?_))
            by_cases hj : j < n.toNatClampNeg
            · have e9 : H.size + 1 + j = z + (h.1 + 1 + j) := by omega
              simp [hj, e9]
            · simp [hj]
          · have he : q = h2.1 + (q - h2.1) := by omega
            rw [he, tm_rows_hi _ _ _ _ (by omega), ← he]
            show F.heap[z + q]? = some (vp_cell (cA 0) _)
            rw [show z + q = H.size + 1 + (q - h2.1) by omega]
            exact hrow _ (by omega)
      have hS1 : va_S (fun q => z ≤ q) s.heap F.heap locs := ⟨by have := hR.2.1.1; omega, fun x g1 g2 => (hold x (Nat.lt_of_lt_of_le g1 hR.2.1.1)).trans (hR.2.1.2.1 x g1 g2), hR.2.1.2.2⟩
      have k2 := tm_Wcells (cells' := h.1 - n0 + 1 + n.toNatClampNeg) (slots' := h.2.1 - s0 + n.toNatClampNeg + n.toNatClampNeg * k.toNatClampNeg) (by simp only [tm_rows_1, h21]; omega) (by simp only [tm_rows_2, h22]; omega) (kk ls F.heap locs hl ⟨hP1, hS1, by simp only [tm_rows_1, h21]; omega, by simp only [tm_rows_2, h22]; omega⟩)
      obtain ⟨t, a1, b1⟩ := k2 F rfl X'
      refine ⟨t, step t ?_, b1⟩
      have e : T.heap.size = z + h.1 := by rw [hT]; exact hH
      rw [e]
      exact a1
    · cases hst
  · cases hst
end TMN
theorem tm_mn : tm_MN := fun _ _ _ _ _ _ _ _ _ _ _ _ _ _ _ _ _ _ _ _ _ _ _ _ _ _ _ _ C hz hroom hd hst kk => tm_s_mnew C hz hroom hd hst kk
theorem whole_start {p : Program} {e : Env} {s : State} {m : MethodId} {below : List Frame} {meth : Method} {c : Code} (l : Launch) {b L : Nat} {xs : Nat → Int32} (hL : L ≤ 320) (C0 : lw_At p s m meth c b L xs) : W p l e room_1 s m #[Value.ref b] below meth c s.heap [] 0 0 (lw_Z below #[Value.ref b] s) (entryFrame m ([Value.ref b] : List Value).toArray 4) := by
  exact tm_start2 tm_mn l hL C0
set_option maxHeartbeats 4000000 in
theorem lw_walk (l : Launch) (b : Addr) (xs : List Int32) : MetFree l x (headSpec (Jvm.Cond.code x code maxLocals ret :: tables_1) room_1) (lw_P b xs) (fun _ _ _ _ _ => True) lw_Q := by
  refine MetFree.of_bodyS (code := code) (maxLocals := maxLocals) (ret := ret) (by decide) ?_ ?_
  · intro args s m h hn
    obtain ⟨meth, c, h1, h2, h3, h4, h5, h6, -, -⟩ := Cond.code_spec hn (atoms_spec (ws := Jvm.Cond.code x code maxLocals ret :: tables_1) h _ List.mem_cons_self)
    exact ⟨meth, c, h1, h2, h3, h4, h5, h6⟩
  · intro p e s m args below meth c s₁ B hml0 hP _
    obtain ⟨rfl, hx, hbd, hgv⟩ := hP
    obtain ⟨scr, harrAt, hlist, hof, hsmall⟩ := hx
    obtain ⟨hcb, hkn, -, -⟩ := State.arrayAt?_spec harrAt
    have hown : s.vm.findClass R_law = some m.cls := findClass_of_methodNamed B.named
    have hts0 : ∀ c ∈ (Jvm.Cond.code x code maxLocals ret :: tables_1), c.before #[Value.ref b] s = true := atoms_spec (ws := Jvm.Cond.code x code maxLocals ret :: tables_1) B.pre
    have hts : ∀ w ∈ lw_tbl, w.before #[Value.ref b] s = true := k2_hts_sels lw_privs (fun w hw => hts0 w (List.mem_cons_of_mem _ hw)) lw_privs_ok
    have hml : c.maxLocals = 4 := B.maxLocals_eq (hts0 _ List.mem_cons_self)
    have X₀ : Stand p l e room_1 s m #[Value.ref b] below meth c s₁ [] 0 0 := Stand.of_body B
    have hh0 : s₁.heap = s.heap := by rw [B.state]; rfl
    have hsz : scr.slots.size = xs.length := by rw [← Array.length_toList, hlist, List.length_map]
    have hval : ∀ j : Nat, j < xs.length → scr.slots[j]? = some (.int (xs.getD j 0)) := fun j hj => by
      rw [← Array.getElem?_toList, hlist]
      simp [hj]
    have hbl : b < s.heap.size := (Array.getElem?_eq_some_iff.mp hcb).1
    have hX : va_X b xs.length (fun j => xs.getD j 0) s s.heap := ⟨scr, hcb, hof, hkn, hsz, hval⟩
    have K : W p l e room_1 s m #[Value.ref b] below meth c s₁.heap [] 0 0 (lw_Z below #[Value.ref b] s) (entryFrame m ([Value.ref b] : List Value).toArray 4) := by
      rw [hh0]
      exact whole_start l hbd ⟨B.exec, B.bytes, B.returns, hml, hown, hts, hX, hbl, B.notSynchronized, hgv⟩
    obtain ⟨t, a1, o, b1, b2, b3⟩ := K s₁ rfl X₀
    exact ⟨t, o, a1, b1, b2, b3⟩
theorem lw_pre_spec {args : Array Value} {s : State} (h : (Jvm.Cond.and given_1 narrow_1).before args s = true) (hr : rest_1_c.before args s = true) : ∃ (b : Addr) (xs : List Int32), lw_P b xs args s := by
  have hs := flat_of_before _ h
  have hq := flat_of_before _ hr
  have hc : (Cond.count 1).before args s = true := hs _ (by decide +kernel)
  have harr : (Cond.arrayOf (.arg 0) .int).before args s = true := hs _ (by decide +kernel)
  have hle : (Cond.le (.length (.arg 0)) (.int 320)).before args s = true := hs _ (by decide +kernel)
  have hlen : (Cond.isInt (.length (.arg 0))).before args s = true := hq _ (by decide +kernel)
  have hall : (Cond.all (.arg 0) (.isInt (.elem (.arg 0) (.index 0)))).before args s = true := hq _ (by decide +kernel)
  obtain ⟨b, xs, hb, hx⟩ := State.ints_of_pre rfl harr hlen hall
  have hsm : xs.length < 2 ^ 31 := hx.choose_spec.2.2.2
  have hev : (Term.length (.arg 0)).eval args s none [] s = some (.int xs.length.toInt32) := hx.length_eval hb
  have hv := Cond.le_ints hev (show (Term.int 320).eval args s none [] s = some (.int 320) from rfl)
  have hd : xs.length.toInt32 ≤ 320 := by
    simpa [Cond.before, Cond.holds, hv] using hle
  have hN : xs.length ≤ 320 := (Int32.ofNat_le_ofNat hsm (by decide)).mp (show Int32.ofNat xs.length ≤ Int32.ofNat 320 from hd)
  exact ⟨b, xs, Cond.one_arg hc (show args[0]? = some (.ref b) from hb), hx, hN, h⟩
theorem lw_comes (l : Launch) : Comes l x (Jvm.Cond.code x code maxLocals ret :: tables_1) room_1 (fun tb e args s => Calls_1 tb e args s ∧ rest_1 tb e args s ∧ Pre_1 tb e args s)
    (fun _ _ args s o t => lw_Q args s o t) := by
  intro p e ha hc hk s m args below hf hfit hheap happ hpre
  obtain ⟨b, xs, hP⟩ := lw_pre_spec hpre.2.2 hpre.2.1
  obtain ⟨k, o, h1, h2, h3, hQ⟩ := lw_walk l b xs p e ha hc hk s m args below hf ((Spec.applies_iff_loose hf).mp happ).1 hP trivial
  exact ⟨k, o, h1, h2, h3, hQ⟩
theorem lw_frame {s t : State} {o : Outcome} {args : Array Value} (h : Framed s o t [] 600000 7302250) :
    Framed s o t (fieldLocs frame_1_writes args s ++ arrayLocs frame_1_arrays args s ++ staticLocs frame_1_statics s) 600000 7302250 := h
theorem lw_limb (L : Cond) (hL : ∀ (args : Array Value) (s t : State), L.after args s (.returned (some (.int 1))) t = true) :
    ArmFor flags0 classFile x code maxLocals ret World_1 tables_1 room_1 Calls_1 rest_1 Pre_1
      (fun tb e a s o t => postC L tb e a s o t ∧ Framed s o t (fieldLocs frame_1_writes a s ++ arrayLocs frame_1_arrays a s ++ staticLocs frame_1_statics s) 600000 7302250) := by
  intro l _ _ _ p e ha hc hk s m args below hf hfit hheap happ hpre
  obtain ⟨k, o, h1, h2, h3, rfl, hF⟩ := lw_comes l p e ha hc hk s m args below hf hfit hheap happ hpre
  exact ⟨k, _, h1, h2, h3, hL args s _, lw_frame hF⟩
theorem i_vc : Claimed_1_1 ∧ Claimed_1_2 := ⟨lw_limb limb_1_1 (fun args s t => by simp [limb_1_1, Cond.after, Cond.holds, Cond.value]), lw_limb limb_1_2 (fun args s t => Cond.after_iff.mpr (by
  first | (rw [show limb_1_2 = Cond.eq .result (.int 1) from rfl, Cond.eq_ints (x := 1) (y := 1) rfl rfl]; simp; done) | (simp [limb_1_2, Cond.value, Term.eval]; done)))⟩
