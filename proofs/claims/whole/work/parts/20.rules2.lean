/-! Rules of arrays, making, calls -/
def bm_Gi (sc : tm_X) (d j : Nat) (as : List Value) (B : bm_H) (Q : Int32 → bm_H → Prop) : Prop := bm_G sc d j 0 (tm_ent as) [] B (fun r B' => ∃ x, r = some (.int x) ∧ Q x B')
def bm_Gv (sc : tm_X) (d j : Nat) (as : List Value) (B : bm_H) (Q : bm_H → Prop) : Prop := bm_G sc d j 0 (tm_ent as) [] B (fun r B' => r = none ∧ Q B')
def bm_Gr (sc : tm_X) (d j : Nat) (as : List Value) (B : bm_H) (Q : Option Nat → bm_H → Prop) : Prop := bm_G sc d j 0 (tm_ent as) [] B (fun r B' => ∃ x, r = some (va_rf x) ∧ Q x B')
section BA
variable {sc : tm_X} {d j pc pc' o nL : Nat} {ini : Bool} {ret : Option FieldType} {code : List (Nat × Instr × Nat)} {lv lv' : tm_L} {st st' rest : List Value} {B B' : bm_H} {Q Q' : Option Value → bm_H → Prop} {i : Instr} {len : Nat}
theorem bm_inB {i : Int32} {n : Nat} (h : vp_in i n) : tm_inB i n = true := by
  unfold tm_inB
  unfold vp_in at h
  exact decide_eq_true h
theorem g_iald {a : Nat} {i : Int32} (hc : tm_cd j o nL ini ret code) (hl : code.lookup pc = some (.iaload, 1)) (hp : pc + 1 = pc') (ha : a < bm_n B) (hK : bm_K B a = 13) (hin : vp_in i (bm_AL B a)) (kk : bm_G sc d j pc' lv (.int (bm_AI B a i.toNatClampNeg) :: st) B Q) : bm_G sc d j pc lv (.int i :: .ref a :: st) B Q := by
  subst hp
  refine g_step hc hl rfl ?_ kk
  simp only [tm_step, if_true, tm_iald, bm_getI (t := 0) ha hK (by decide), bm_inB hin, and_self]
theorem g_bald {a : Nat} {i : Int32} (hc : tm_cd j o nL ini ret code) (hl : code.lookup pc = some (.baload, 1)) (hp : pc + 1 = pc') (ha : a < bm_n B) (hK : bm_K B a = 14) (hin : vp_in i (bm_AL B a)) (kk : bm_G sc d j pc' lv (.int (bm_AI B a i.toNatClampNeg) :: st) B Q) : bm_G sc d j pc lv (.int i :: .ref a :: st) B Q := by
  subst hp
  refine g_step hc hl rfl ?_ kk
  simp only [tm_step, if_true, tm_iald, bm_getI (t := 1) ha hK (by decide), bm_inB hin, and_self]
theorem bm_cell_setI {B : bm_H} {a t i : Nat} {x : Int32} (hK : bm_K B a = 13 + t) (ht : t < 2) : tm_put (bm_enc B) a (.inl (t, bm_AL B a, upd (bm_AI B a) i x)) = bm_enc (bm_setI B a i x) := by
  refine bm_enc_put rfl rfl ?_ (fun a' ha' => bm_cell_eq rfl (fun _ _ => rfl) (fun _ _ => rfl) rfl (fun i' => ?_) (fun _ => rfl))
  · unfold bm_cell
    have hK' : bm_K (bm_setI B a i x) a = 13 + t := hK
    rw [hK', if_neg (by omega), if_pos (by omega), Nat.add_sub_cancel_left]
    congr 3
    funext q
    show bm_up2 (bm_AI B) a i x a q = upd (bm_AI B a) i x q
    by_cases hq : q = i
    · subst hq; simp [bm_up2, upd]
    · simp [bm_up2, upd, hq]
  · show bm_up2 (bm_AI B) a i x a' i' = _
    unfold bm_up2
    rw [if_neg (fun w => ha' w.1)]
theorem g_iast {a : Nat} {i x : Int32} (hc : tm_cd j o nL ini ret code) (hl : code.lookup pc = some (.iastore, 1)) (hp : pc + 1 = pc') (ha : a < bm_n B) (hK : bm_K B a = 13) (hin : vp_in i (bm_AL B a)) (kk : bm_G sc d j pc' lv st (bm_setI B a i.toNatClampNeg x) Q) : bm_G sc d j pc lv (.int x :: .int i :: .ref a :: st) B Q := by
  subst hp
  refine g_step hc hl rfl ?_ kk
  simp only [tm_step, if_true, tm_iast, bm_getI (t := 0) ha hK (by decide), bm_inB hin, and_self]
  rw [bm_cell_setI (t := 0) hK (by decide)]
theorem g_bast {a : Nat} {i x : Int32} (hc : tm_cd j o nL ini ret code) (hl : code.lookup pc = some (.bastore, 1)) (hp : pc + 1 = pc') (ha : a < bm_n B) (hK : bm_K B a = 14) (hin : vp_in i (bm_AL B a)) (kk : bm_G sc d j pc' lv st (bm_setI B a i.toNatClampNeg (vp_nar .boolean x)) Q) : bm_G sc d j pc lv (.int x :: .int i :: .ref a :: st) B Q := by
  subst hp
  refine g_step hc hl rfl ?_ kk
  simp only [tm_step, if_true, tm_iast, bm_getI (t := 1) ha hK (by decide), bm_inB hin, and_self]
  rw [bm_cell_setI (t := 1) hK (by decide)]
  rfl
theorem g_aald {a t : Nat} {i : Int32} {ty : FieldType} {x : Option Nat} (hc : tm_cd j o nL ini ret code) (hl : code.lookup pc = some (.aaload, 1)) (hp : pc + 1 = pc') (ha : a < bm_n B) (hK : bm_K B a = 13 + t) (ht : 2 ≤ t) (hty : tm_tys[t]? = some ty) (hrk : refKind ty = true) (hin : vp_in i (bm_AL B a)) (hx : bm_AR B a i.toNatClampNeg = x) (kk : bm_G sc d j pc' lv (va_rf x :: st) B Q) : bm_G sc d j pc lv (.int i :: .ref a :: st) B Q := by
  subst hp; subst hx
  refine g_step hc hl rfl ?_ kk
  simp only [tm_step, if_true, tm_aald, bm_getR ha hK ht, hty, hrk, bm_inB hin, and_self]
theorem bm_cell_setR {B : bm_H} {a t i : Nat} {x : Option Nat} (hK : bm_K B a = 13 + t) (ht : 2 ≤ t) : tm_put (bm_enc B) a (.inr (.inl (t, bm_AL B a, va_up (bm_AR B a) i x))) = bm_enc (bm_setR B a i x) := by
  refine bm_enc_put rfl rfl ?_ (fun a' ha' => bm_cell_eq rfl (fun _ _ => rfl) (fun _ _ => rfl) rfl (fun _ => rfl) (fun i' => ?_))
  · unfold bm_cell
    have hK' : bm_K (bm_setR B a i x) a = 13 + t := hK
    rw [hK', if_neg (by omega), if_neg (by omega), Nat.add_sub_cancel_left]
    congr 4
    funext q
    show bm_up2 (bm_AR B) a i x a q = va_up (bm_AR B a) i x q
    by_cases hq : q = i
    · subst hq; simp [bm_up2, va_up]
    · simp [bm_up2, va_up, hq]
  · show bm_up2 (bm_AR B) a i x a' i' = _
    unfold bm_up2
    rw [if_neg (fun w => ha' w.1)]
theorem g_aast {a t v cv : Nat} {i : Int32} {q : vw_C} (hc : tm_cd j o nL ini ret code) (hl : code.lookup pc = some (.aastore, 1)) (hp : pc + 1 = pc') (ha : a < bm_n B) (hK : bm_K B a = 13 + t) (ht : 2 ≤ t) (hq : tm_cl[cv]? = some q) (hty : tm_tys[t]? = some (.object q.1)) (hv : v < bm_n B) (hKv : bm_K B v = cv) (hin : vp_in i (bm_AL B a)) (kk : bm_G sc d j pc' lv st (bm_setR B a i.toNatClampNeg (some v)) Q) : bm_G sc d j pc lv (.ref v :: .int i :: .ref a :: st) B Q := by
  subst hp
  refine g_step hc hl rfl ?_ kk
  simp only [tm_step, if_true, tm_aast, bm_getR ha hK ht, bm_getO hv hKv (tm_cl_lt hq), hty, hq, bm_inB hin, and_self]
  rw [bm_cell_setR hK ht]
theorem g_alen {a : Nat} (hc : tm_cd j o nL ini ret code) (hl : code.lookup pc = some (.arraylength, 1)) (hp : pc + 1 = pc') (ha : a < bm_n B) (hK : 13 ≤ bm_K B a) (hK2 : bm_K B a < 22) (kk : bm_G sc d j pc' lv (.int (Int32.ofNat (bm_AL B a)) :: st) B Q) : bm_G sc d j pc lv (.ref a :: st) B Q := by
  subst hp
  refine g_step hc hl rfl ?_ kk
  by_cases h15 : bm_K B a < 15
  · have hh := bm_getI (t := bm_K B a - 13) ha (by omega) (by omega)
    simp only [tm_step, if_true, tm_alen, hh]
    rw [if_pos (by omega)]
  · have hh := bm_getR (t := bm_K B a - 13) ha (by omega) (by omega)
    simp only [tm_step, if_true, tm_alen, hh]
    rw [if_pos (by omega)]
theorem bm_enc_add {B B' : bm_H} {N : Nat} {x : tm_E} (hn : bm_n B' = bm_n B + 1) (hs : bm_sl B' = bm_sl B + N) (hx : bm_cell B' (bm_n B) = x) (ho : ∀ a', a' ≠ bm_n B → bm_cell B' a' = bm_cell B a') : tm_add (bm_enc B) N x = bm_enc B' := by
  unfold tm_add bm_enc
  rw [hn, hs]
  show (bm_n B + 1, bm_sl B + N, va_up (bm_cell B) (bm_n B) x) = _
  congr 2
  funext q
  by_cases hq : q = bm_n B
  · subst hq; rw [va_up_self, hx]
  · rw [va_up_ne _ _ hq, ho q hq]
theorem bm_cell_newO {B : bm_H} {c : Nat} {l : List FieldType} (hcl : c < 13) (hl : tm_fty[c]? = some l) : tm_add (bm_enc B) l.length (.inr (.inr (c, l.map tm_def))) = bm_enc (bm_newO B c l.length) := by
  refine bm_enc_add rfl rfl ?_ (fun a' ha' => bm_cell_eq ?_ (fun _ _ => ?_) (fun _ _ => ?_) rfl (fun _ => rfl) (fun _ => rfl))
  · unfold bm_cell
    have hK' : bm_K (bm_newO B c l.length) (bm_n B) = c := va_up_self _ _ _
    rw [hK', if_pos hcl]
    congr 3
    unfold bm_fs
    rw [hl]
    apply List.ext_getElem?
    intro k
    simp only [Option.getD_some, List.getElem?_mapIdx, List.getElem?_map]
    congr 1
    funext ty
    cases ty <;> simp [bm_fv, bm_isI, bm_newO, tm_def, bm_FI, bm_FR, va_rf]
  · exact va_up_ne _ _ ha'
  · exact if_neg ha'
  · exact if_neg ha'
theorem g_new {ix c x1 x2 x3 : Nat} {l : List FieldType} (hc : tm_cd j o nL ini ret code) (hl : code.lookup pc = some (.new ix, 3)) (hr : tm_newR o ix = some (o, ix, c, x1, x2, x3)) (hf : tm_fty[c]? = some l) (hcl : c < 13) (hp : pc + 3 = pc') (kk : bm_G sc d j pc' lv (.ref (bm_n B) :: st) (bm_newO B c l.length) Q) : bm_G sc d j pc lv st B Q := by
  subst hp
  refine g_step hc hl rfl ?_ kk
  simp only [tm_step, if_true, tm_new, hr, hf, bm_cell_newO hcl hf]
  rfl
theorem bm_cell_newA {B : bm_H} {t N : Nat} (ht : t < 2) : tm_add (bm_enc B) N (.inl (t, N, fun _ => 0)) = bm_enc (bm_newA B (13 + t) N) := by
  refine bm_enc_add rfl rfl ?_ (fun a' ha' => bm_cell_eq ?_ (fun _ _ => rfl) (fun _ _ => rfl) ?_ (fun _ => ?_) (fun _ => ?_))
  · unfold bm_cell
    have hK' : bm_K (bm_newA B (13 + t) N) (bm_n B) = 13 + t := va_up_self _ _ _
    have hL' : bm_AL (bm_newA B (13 + t) N) (bm_n B) = N := va_up_self _ _ _
    rw [hK', if_neg (by omega), if_pos (by omega), hL', Nat.add_sub_cancel_left]
    congr 3
    funext q
    exact if_pos rfl
  · exact va_up_ne _ _ ha'
  · exact va_up_ne _ _ ha'
  · exact if_neg ha'
  · exact if_neg ha'
theorem bm_cell_newR {B : bm_H} {t N : Nat} (ht : 2 ≤ t) : tm_add (bm_enc B) N (.inr (.inl (t, N, fun _ => none))) = bm_enc (bm_newA B (13 + t) N) := by
  refine bm_enc_add rfl rfl ?_ (fun a' ha' => bm_cell_eq ?_ (fun _ _ => rfl) (fun _ _ => rfl) ?_ (fun _ => ?_) (fun _ => ?_))
  · unfold bm_cell
    have hK' : bm_K (bm_newA B (13 + t) N) (bm_n B) = 13 + t := va_up_self _ _ _
    have hL' : bm_AL (bm_newA B (13 + t) N) (bm_n B) = N := va_up_self _ _ _
    rw [hK', if_neg (by omega), if_neg (by omega), hL', Nat.add_sub_cancel_left]
    congr 4
    funext q
    exact if_pos rfl
  · exact va_up_ne _ _ ha'
  · exact va_up_ne _ _ ha'
  · exact if_neg ha'
  · exact if_neg ha'
theorem g_newI {n : Int32} (hc : tm_cd j o nL ini ret code) (hl : code.lookup pc = some (.newarray .int, 2)) (hp : pc + 2 = pc') (hn : ¬ n < 0) (hb : n.toNatClampNeg * 4 ≤ 536870912) (kk : bm_G sc d j pc' lv (.ref (bm_n B) :: st) (bm_newA B 13 n.toNatClampNeg) Q) : bm_G sc d j pc lv (.int n :: st) B Q := by
  subst hp
  refine g_step hc hl rfl ?_ kk
  simp only [tm_step, if_true, tm_newa]
  rw [if_pos ⟨hn, hb⟩, bm_cell_newA (t := 0) (by decide)]
  rfl
theorem g_newZ {n : Int32} (hc : tm_cd j o nL ini ret code) (hl : code.lookup pc = some (.newarray .boolean, 2)) (hp : pc + 2 = pc') (hn : ¬ n < 0) (hb : n.toNatClampNeg * 4 ≤ 536870912) (kk : bm_G sc d j pc' lv (.ref (bm_n B) :: st) (bm_newA B 14 n.toNatClampNeg) Q) : bm_G sc d j pc lv (.int n :: st) B Q := by
  subst hp
  refine g_step hc hl rfl ?_ kk
  simp only [tm_step, if_true, tm_newa]
  rw [if_pos ⟨hn, hb⟩, bm_cell_newA (t := 1) (by decide)]
  rfl
theorem g_newR {ix c x1 x2 x3 t : Nat} {n : Int32} {q : vw_C} (hc : tm_cd j o nL ini ret code) (hl : code.lookup pc = some (.anewarray ix, 3)) (hr : tm_newR o ix = some (o, ix, c, x1, x2, x3)) (hq : tm_cl[c]? = some q) (hf : tm_tys.findIdx? (fun ty => decide (ty = .object q.1)) = some t) (ht : 2 ≤ t) (hp : pc + 3 = pc') (hn : ¬ n < 0) (hb : n.toNatClampNeg * 4 ≤ 536870912) (kk : bm_G sc d j pc' lv (.ref (bm_n B) :: st) (bm_newA B (13 + t) n.toNatClampNeg) Q) : bm_G sc d j pc lv (.int n :: st) B Q := by
  subst hp
  refine g_step hc hl rfl ?_ kk
  simp only [tm_step, if_true, tm_anew, hr, hq, hf]
  rw [if_pos ⟨hn, hb⟩, bm_cell_newR ht]
  rfl
/-- an instance method is called -/
theorem tm_invV {ix j' n x1 x2 x3 x4 x5 a o' nL' : Nat} {as : List Value} {ini' : Bool} {ret' : Option FieldType} {code' : List (Nat × Instr × Nat)} (hcall : tm_callR o ix = some (o, ix, 0, j', n, x1, x2, x3, x4, x5)) (hpop : tm_pop n st = some (as, .ref a :: rest)) (hc' : tm_cd j' o' nL' ini' ret' code') (hr : tm_rest rest = true) (hal : as.length + 1 ≤ nL') (hcl : o' < 13) (ha : a < bm_n B) (hK : bm_K B a = o') : tm_inv o (.invokevirtual ix) st (bm_enc B) = some (j', .ref a :: as, rest) := by
  obtain ⟨M, h1, h2, h3, -⟩ := hc'
  simp only [tm_inv, hcall, hpop, bm_getO ha hK hcl, h1, h2, h3, hr, hal, and_self, if_true]
theorem tm_invI {ix j' n x1 x2 x3 x4 x5 a o' nL' : Nat} {as : List Value} {ini' : Bool} {ret' : Option FieldType} {code' : List (Nat × Instr × Nat)} (hcall : tm_callR o ix = some (o, ix, 1, j', n, x1, x2, x3, x4, x5)) (hpop : tm_pop n st = some (as, .ref a :: rest)) (hc' : tm_cd j' o' nL' ini' ret' code') (hr : tm_rest rest = true) (hal : as.length + 1 ≤ nL') : tm_inv o (.invokespecial ix) st (bm_enc B) = some (j', .ref a :: as, rest) := by
  obtain ⟨M, h1, h2, h3, -⟩ := hc'
  simp only [tm_inv, hcall, hpop, h1, h3, hr, hal, and_self, if_true]
theorem tm_invS {ix j' n x1 x2 x3 x4 x5 o' nL' : Nat} {as : List Value} {ini' : Bool} {ret' : Option FieldType} {code' : List (Nat × Instr × Nat)} (hcall : tm_callR o ix = some (o, ix, 2, j', n, x1, x2, x3, x4, x5)) (hpop : tm_pop n st = some (as, rest)) (hc' : tm_cd j' o' nL' ini' ret' code') (hr : tm_rest rest = true) (hal : as.length ≤ nL') : tm_inv o (.invokestatic ix) st (bm_enc B) = some (j', as, rest) := by
  obtain ⟨M, h1, h2, h3, -⟩ := hc'
  simp only [tm_inv, hcall, hpop, h1, h3, hr, hal, and_self, if_true]
/-- a call, by what it answers -/
theorem g_calli {k : Nat} {as : List Value} (hc : tm_cd j o nL ini ret code) (hl : code.lookup pc = some (i, 3)) (hr : tm_retOk ret i st = none) (hs : tm_step sc o nL ini i 3 pc lv st (bm_enc B) = none) (hn : tm_nat o i pc lv st (bm_enc B) = none) (hp : pc + 3 = pc') (hi : tm_inv o i st (bm_enc B) = some (k, as, rest)) (kk : bm_Gi sc d k as B (fun x B1 => bm_G sc (d + 1) j pc' lv (.int x :: rest) B1 Q)) : bm_G sc (d + 1) j pc lv st B Q := by
  refine g_call hc hl hr hs hn hi hp (g_mono (fun r B1 h => ?_) kk)
  obtain ⟨x, rfl, h⟩ := h
  exact h
theorem g_callv {k : Nat} {as : List Value} (hc : tm_cd j o nL ini ret code) (hl : code.lookup pc = some (i, 3)) (hr : tm_retOk ret i st = none) (hs : tm_step sc o nL ini i 3 pc lv st (bm_enc B) = none) (hn : tm_nat o i pc lv st (bm_enc B) = none) (hp : pc + 3 = pc') (hi : tm_inv o i st (bm_enc B) = some (k, as, rest)) (kk : bm_Gv sc d k as B (fun B1 => bm_G sc (d + 1) j pc' lv rest B1 Q)) : bm_G sc (d + 1) j pc lv st B Q := by
  refine g_call hc hl hr hs hn hi hp (g_mono (fun r B1 h => ?_) kk)
  obtain ⟨rfl, h⟩ := h
  exact h
theorem g_callr {k : Nat} {as : List Value} (hc : tm_cd j o nL ini ret code) (hl : code.lookup pc = some (i, 3)) (hr : tm_retOk ret i st = none) (hs : tm_step sc o nL ini i 3 pc lv st (bm_enc B) = none) (hn : tm_nat o i pc lv st (bm_enc B) = none) (hp : pc + 3 = pc') (hi : tm_inv o i st (bm_enc B) = some (k, as, rest)) (kk : bm_Gr sc d k as B (fun x B1 => bm_G sc (d + 1) j pc' lv (va_rf x :: rest) B1 Q)) : bm_G sc (d + 1) j pc lv st B Q := by
  refine g_call hc hl hr hs hn hi hp (g_mono (fun r B1 h => ?_) kk)
  obtain ⟨x, rfl, h⟩ := h
  exact h
end BA
