/-- what 50.mnew proves of new int[n][k] -/
def tm_MN : Prop := ∀ (p : Program) (l : Launch) (e : Env) (R : Room) (s : State) (m : MethodId) (args : Array Value) (below : List Frame) (meth : Method) (c : Code) (Q : State → Prop) (D : va_G) (cA : Nat → ClassId) (z b n0 s0 nL o : Nat) (cc : ByteArray) (sc : tm_X) (pc : Nat) (lv : tm_L) (st : List Value) (h : tm_H) (S' : tm_S) (i d : Nat), tm_C D cA z b sc o nL cc p s m args c → s.heap.size = z + n0 → (S'.2.2.2.1 - n0 ≤ R.cells ∧ S'.2.2.2.2.1 - s0 ≤ R.slots) → decode cc pc = .ok (.multianewarray i d, 4) → tm_mnew o i d pc lv st h = some S' → tm_Wk p l e R s m args below meth c Q D cA z b n0 s0 nL S' → tm_Wk p l e R s m args below meth c Q D cA z b n0 s0 nL (pc, lv, st, h)
def tm_kchk (r : Nat × Nat × Int32 × Nat) : Bool := match tm_own[r.1]? with
  | some own => decide (lw_tbl[r.2.2.2]? = some (Cond.constant own r.2.1 r.2.2.1))
  | _ => false
set_option maxRecDepth 100000 in
theorem tm_csts_ok : tm_csts.all tm_kchk = true := by decide +kernel
theorem tm_cst_word {o i : Nat} {v : Int32} {own : String} (ho : tm_own[o]? = some own) (h : tm_cst o i = some v) : Cond.constant own i v ∈ lw_tbl := by
  unfold tm_cst at h
  obtain ⟨r, hr, hv⟩ := Option.map_eq_some_iff.mp h
  have h1 := List.find?_some hr
  have h2 := List.all_eq_true.mp tm_csts_ok r (List.mem_of_find?_eq_some hr)
  simp only [Bool.and_eq_true, beq_iff_eq] at h1
  unfold tm_kchk at h2
  rw [h1.1, ho] at h2
  simp only [decide_eq_true_eq] at h2
  rw [← hv, ← h1.2]
  exact List.mem_of_getElem? h2
section TT
variable {p : Program} {l : Launch} {e : Env} {R : Room} {s : State} {m : MethodId} {args : Array Value} {below : List Frame} {meth : Method} {c : Code} {Q : State → Prop} {D : va_G} {cA : Nat → ClassId} {z b n0 s0 nL o : Nat} {cc : ByteArray} {sc : tm_X} {pc : Nat} {lv : tm_L} {st : List Value} {h : tm_H} {S' : tm_S}
set_option maxHeartbeats 4000000 in
theorem tm_snd (hMN : tm_MN) {i : Instr} {len : Nat} {ini : Bool} (C : tm_C D cA z b sc o nL cc p s m args c) (hz : s.heap.size = z + n0) (hini : ini = true → meth.name = "<init>") (hroom : S'.2.2.2.1 - n0 ≤ R.cells ∧ S'.2.2.2.2.1 - s0 ≤ R.slots) (hd : decode cc pc = .ok (i, len)) (hst : tm_step sc o nL ini i len pc lv st h = some S') (kk : tm_Wk p l e R s m args below meth c Q D cA z b n0 s0 nL S') : tm_Wk p l e R s m args below meth c Q D cA z b n0 s0 nL (pc, lv, st, h) := by
  have hx := C.1
  have hb := C.2.1
  obtain ⟨own, ho, hown⟩ := C.2.2.2.1
  have hts := C.2.2.2.2.1
  have hif : ∀ {n : Nat} {x : Option tm_S}, (if len = n then x else none) = some S' → len = n ∧ x = some S' := by
    intro n x hh
    by_cases q : len = n
    · exact ⟨q, by rw [if_pos q] at hh; exact hh⟩
    · rw [if_neg q] at hh; cases hh
  cases i
  case iconst n =>
    obtain ⟨rfl, h2⟩ := hif hst
    cases h2
    exact fun ls H locs hl hR => lv_iconst hx hb hd rfl (kk ls H locs hl hR)
  case bipush n =>
    obtain ⟨rfl, h2⟩ := hif hst
    cases h2
    exact fun ls H locs hl hR => lv_bipush hx hb hd rfl (kk ls H locs hl hR)
  case sipush n =>
    obtain ⟨rfl, h2⟩ := hif hst
    cases h2
    exact fun ls H locs hl hR => lv_sipush hx hb hd rfl (kk ls H locs hl hR)
  case ldc n =>
    obtain ⟨rfl, h2⟩ := hif hst
    obtain ⟨v, hv, hS⟩ := Option.map_eq_some_iff.mp h2
    subst hS
    exact fun ls H locs hl hR => lv_ldc hx hb hown (hts _ (tm_good_in (tm_cst_word ho hv) rfl)) hd (kk ls H locs hl hR)
  case ldc_w n =>
    obtain ⟨rfl, h2⟩ := hif hst
    obtain ⟨v, hv, hS⟩ := Option.map_eq_some_iff.mp h2
    subst hS
    exact fun ls H locs hl hR => lv_ldcw hx hb hown (hts _ (tm_good_in (tm_cst_word ho hv) rfl)) hd (kk ls H locs hl hR)
  case aconst_null =>
    obtain ⟨rfl, h2⟩ := hif hst
    cases h2
    exact fun ls H locs hl hR => lv_null hx hb hd (kk ls H locs hl hR)
  case iload_n k =>
    obtain ⟨rfl, h2⟩ := hif hst
    exact tm_s_ild (fun h3 k3 => lv_iload_n hx hb hd rfl h3 k3) h2 kk
  case iload k =>
    obtain ⟨rfl, h2⟩ := hif hst
    exact tm_s_ild (fun h3 k3 => lv_iload hx hb hd h3 k3) h2 kk
  case aload_n k =>
    obtain ⟨rfl, h2⟩ := hif hst
    exact tm_s_ald (fun h3 k3 => lv_aload_n hx hb hd rfl h3 k3) (fun h3 k3 => lv_aload_nN hx hb hd rfl h3 k3) h2 kk
  case aload k =>
    obtain ⟨rfl, h2⟩ := hif hst
    exact tm_s_ald (fun h3 k3 => lv_aload hx hb hd h3 k3) (fun h3 k3 => lv_aloadN hx hb hd h3 k3) h2 kk
  case istore_n k =>
    obtain ⟨rfl, h2⟩ := hif hst
    exact tm_s_ist (fun h3 h4 h5 k3 => lv_istore_n hx hb hd rfl h3 h4 h5 k3) h2 kk
  case istore k =>
    obtain ⟨rfl, h2⟩ := hif hst
    exact tm_s_ist (fun h3 h4 h5 k3 => lv_istore hx hb hd h3 h4 h5 k3) h2 kk
  case astore_n k =>
    obtain ⟨rfl, h2⟩ := hif hst
    exact tm_s_ast (fun h3 h4 h5 k3 => lv_astore_n hx hb hd rfl h3 h4 h5 k3) (fun h3 h4 h5 k3 => lv_astore_nN hx hb hd rfl h3 h4 h5 k3) h2 kk
  case astore k =>
    obtain ⟨rfl, h2⟩ := hif hst
    exact tm_s_ast (fun h3 h4 h5 k3 => lv_astore hx hb hd h3 h4 h5 k3) (fun h3 h4 h5 k3 => lv_astoreN hx hb hd h3 h4 h5 k3) h2 kk
  case iinc k n =>
    obtain ⟨rfl, h2⟩ := hif hst
    unfold tm_iinc at h2
    split at h2
    · rename_i x hlk
      split at h2
      · rename_i hk
        cases h2
        intro ls H locs hl hR
        obtain ⟨ix, hix⟩ := tm_lv_ix (z := z) (b := b) hlk
        exact lv_iinc hx hb hd hl hix rfl hk (tm_lv_set z b lv k (.int (x + Int32.ofInt n))) (fun ls' hl' => kk ls' H locs hl' hR)
      · cases h2
    · cases h2
  case iadd =>
    obtain ⟨rfl, h2⟩ := hif hst
    exact tm_s_bin (fun k3 => lv_iadd hx hb hd k3) h2 kk
  case isub =>
    obtain ⟨rfl, h2⟩ := hif hst
    exact tm_s_bin (fun k3 => lv_isub hx hb hd k3) h2 kk
  case imul =>
    obtain ⟨rfl, h2⟩ := hif hst
    exact tm_s_bin (fun k3 => lv_imul hx hb hd k3) h2 kk
  case iand =>
    obtain ⟨rfl, h2⟩ := hif hst
    exact tm_s_bin (fun k3 => lv_iand hx hb hd k3) h2 kk
  case ior =>
    obtain ⟨rfl, h2⟩ := hif hst
    exact tm_s_bin (fun k3 => lv_ior hx hb hd k3) h2 kk
  case ixor =>
    obtain ⟨rfl, h2⟩ := hif hst
    exact tm_s_bin (fun k3 => lv_ixor hx hb hd k3) h2 kk
  case ishl =>
    obtain ⟨rfl, h2⟩ := hif hst
    exact tm_s_bin (fun k3 => lv_ishl hx hb hd k3) h2 kk
  case ishr =>
    obtain ⟨rfl, h2⟩ := hif hst
    exact tm_s_bin (fun k3 => lv_ishr hx hb hd k3) h2 kk
  case iushr =>
    obtain ⟨rfl, h2⟩ := hif hst
    exact tm_s_bin (fun k3 => lv_iushr hx hb hd rfl k3) h2 kk
  case idiv =>
    obtain ⟨rfl, h2⟩ := hif hst
    exact tm_s_div (fun hy k3 => lv_idiv hx hb hd hy k3) h2 kk
  case irem =>
    obtain ⟨rfl, h2⟩ := hif hst
    exact tm_s_div (fun hy k3 => lv_irem hx hb hd hy k3) h2 kk
  case dup =>
    simp only [tm_step] at hst
    split at hst
    · split at hst
      · rename_i hc
        obtain ⟨rfl, h1⟩ := hc
        cases hst
        exact fun ls H locs hl hR => lv_dup hx hb hd (by rw [tm_tr_cat]; exact h1) (kk ls H locs hl hR)
      · cases hst
    · cases hst
  case pop =>
    simp only [tm_step] at hst
    split at hst
    · split at hst
      · rename_i hc
        obtain ⟨rfl, h1⟩ := hc
        cases hst
        exact fun ls H locs hl hR => lv_pop hx hb hd (by rw [tm_tr_cat]; exact h1) (kk ls H locs hl hR)
      · cases hst
    · cases hst
  case dup_x1 =>
    simp only [tm_step] at hst
    split at hst
    · split at hst
      · rename_i hc
        obtain ⟨rfl, h1, h2⟩ := hc
        cases hst
        exact fun ls H locs hl hR => lv_dup_x1 hx hb hd (by rw [tm_tr_cat]; exact h1) (by rw [tm_tr_cat]; exact h2) (kk ls H locs hl hR)
      · cases hst
    · cases hst
  case dup2 =>
    simp only [tm_step] at hst
    split at hst
    · split at hst
      · rename_i hc
        obtain ⟨rfl, h1, h2⟩ := hc
        cases hst
        exact fun ls H locs hl hR => lv_dup2_11 hx hb hd (by rw [tm_tr_cat]; exact h1) (by rw [tm_tr_cat]; exact h2) (kk ls H locs hl hR)
      · cases hst
    · cases hst
  case ifCond cd off =>
    obtain ⟨rfl, h2⟩ := hif hst
    exact tm_s_if1 hx hb hd h2 kk
  case if_icmp cd off =>
    obtain ⟨rfl, h2⟩ := hif hst
    exact tm_s_if2 hx hb hd h2 kk
  case if_acmp cd off =>
    obtain ⟨rfl, h2⟩ := hif hst
    exact tm_s_acmp hx hb hd h2 kk
  case ifnull off =>
    obtain ⟨rfl, h2⟩ := hif hst
    exact tm_s_ifnull hx hb hd h2 kk
  case ifnonnull off =>
    obtain ⟨rfl, h2⟩ := hif hst
    exact tm_s_ifnonnull hx hb hd h2 kk
  case goto off =>
    obtain ⟨rfl, h2⟩ := hif hst
    obtain ⟨t, ht, hS⟩ := Option.map_eq_some_iff.mp h2
    subst hS
    exact fun ls H locs hl hR => lv_goto hx hb hd (tm_tgt_ok ht) (kk ls H locs hl hR)
  case tableswitch dflt lo hi offs => exact tm_s_switch hx hb hd hst kk
  case getfield k =>
    obtain ⟨rfl, h2⟩ := hif hst
    exact tm_s_getf C hd h2 kk
  case putfield k =>
    obtain ⟨rfl, h2⟩ := hif hst
    exact tm_s_putf C hini hd h2 kk
  case iaload =>
    obtain ⟨rfl, h2⟩ := hif hst
    exact tm_s_iald C hz hd h2 kk
  case baload =>
    obtain ⟨rfl, h2⟩ := hif hst
    exact tm_s_bald C hd h2 kk
  case iastore =>
    obtain ⟨rfl, h2⟩ := hif hst
    exact tm_s_iast C hd h2 kk
  case bastore =>
    obtain ⟨rfl, h2⟩ := hif hst
    exact tm_s_bast C hd h2 kk
  case aaload =>
    obtain ⟨rfl, h2⟩ := hif hst
    exact tm_s_aald C hd h2 kk
  case aastore =>
    obtain ⟨rfl, h2⟩ := hif hst
    exact tm_s_aast C hd h2 kk
  case arraylength =>
    obtain ⟨rfl, h2⟩ := hif hst
    exact tm_s_alen C hz hd h2 kk
  case new k =>
    obtain ⟨rfl, h2⟩ := hif hst
    exact tm_s_new C hz hroom hd h2 kk
  case newarray t =>
    cases t
    case int =>
      obtain ⟨rfl, h2⟩ := hif hst
      exact tm_s_newa (t := 0) (ty := .int) C hz hroom rfl (by decide) rfl rfl (by decide) hd h2 kk
    case boolean =>
      obtain ⟨rfl, h2⟩ := hif hst
      exact tm_s_newa (t := 1) (ty := .boolean) C hz hroom rfl (by decide) rfl rfl (by decide) hd h2 kk
    all_goals (simp [tm_step] at hst)
  case anewarray k =>
    obtain ⟨rfl, h2⟩ := hif hst
    exact tm_s_anew C hz hroom hd h2 kk
  case multianewarray k d =>
    obtain ⟨rfl, h2⟩ := hif hst
    exact hMN p l e R s m args below meth c Q D cA z b n0 s0 nL o cc sc pc lv st h S' k d C hz hroom hd h2 kk
  all_goals (simp [tm_step] at hst)
end TT
