/-! Rules: from a place of a method the run comes to an end with Q -/
def bm_G (sc : tm_X) (d j pc : Nat) (lv : tm_L) (st : List Value) (B : bm_H) (Q : Option Value → bm_H → Prop) : Prop := ∃ (fuel : Nat) (r : Option Value) (B' : bm_H), tm_run sc fuel d j pc lv st (bm_enc B) = some (r, bm_enc B') ∧ Q r B'
/-- method j: own class, locals, constructor or not, its answer's type, its code -/
def tm_cd (j o nL : Nat) (ini : Bool) (ret : Option FieldType) (code : List (Nat × Instr × Nat)) : Prop := ∃ M : tm_MT, tm_Ms[j]? = some M ∧ M.2.2.2.2 = o ∧ M.2.2.1 = nL ∧ (M.1.name == "<init>") = ini ∧ M.2.2.2.1 = ret ∧ ∀ (pc : Nat) (i : Instr) (len : Nat), code.lookup pc = some (i, len) → decode M.2.1 pc = .ok (i, len)
theorem tm_lookup_mem2 {α : Type} {i : Nat} {v : α} : ∀ {l : List (Nat × α)}, l.lookup i = some v → (i, v) ∈ l
  | [], h => by simp at h
  | (j, w) :: r, h => by
    rw [List.lookup_cons] at h
    by_cases e : i = j
    · subst e
      simp at h
      subst h
      exact List.mem_cons_self
    · have : (i == j) = false := by simp [e]
      rw [this] at h
      exact List.mem_cons_of_mem _ (tm_lookup_mem2 h)
theorem tm_cd_of {j o nL : Nat} {ini : Bool} {ret : Option FieldType} {code : List (Nat × Instr × Nat)} {M : tm_MT} (h1 : tm_Ms[j]? = some M) (h2 : M.2.2.2.2 = o) (h3 : M.2.2.1 = nL) (h4 : (M.1.name == "<init>") = ini) (h5 : M.2.2.2.1 = ret) (h6 : code.all (fun r => decide (decode M.2.1 r.1 = .ok (r.2.1, r.2.2))) = true) : tm_cd j o nL ini ret code := by
  refine ⟨M, h1, h2, h3, h4, h5, fun pc i len hl => ?_⟩
  have := List.all_eq_true.mp h6 _ (tm_lookup_mem2 hl)
  exact of_decide_eq_true this
theorem tm_run_more (sc : tm_X) : ∀ (fuel d j pc : Nat) (lv : tm_L) (st : List Value) (h : tm_H) (x : Option Value × tm_H), tm_run sc fuel d j pc lv st h = some x → tm_run sc (fuel + 1) d j pc lv st h = some x
  | 0, d, j, pc, lv, st, h, x, hr => by cases hr
  | fuel + 1, d, j, pc, lv, st, h, x, hr => by
    unfold tm_run at hr
    split at hr
    · cases hr
    · rename_i M hM
      split at hr
      · cases hr
      · rename_i i len hdec
        split at hr
        · rename_i r0 hret
          unfold tm_run
          simp only [hM, hdec, hret]
          exact hr
        · rename_i hret
          split at hr
          · rename_i pc' lv' st' h' hs
            unfold tm_run
            simp only [hM, hdec, hret, hs]
            exact tm_run_more sc fuel _ _ _ _ _ _ _ hr
          · rename_i hs
            split at hr
            · cases hr
            · rename_i d'
              split at hr
              · rename_i hlen
                subst hlen
                split at hr
                · rename_i pc' lv' st' h' hn
                  unfold tm_run
                  simp only [hM, hdec, hret, hs, hn, if_true]
                  exact tm_run_more sc fuel _ _ _ _ _ _ _ hr
                · rename_i hn
                  split at hr
                  · rename_i k as r hi
                    split at hr
                    · rename_i v h' hc
                      have hc2 := tm_run_more sc fuel _ _ _ _ _ _ _ hc
                      unfold tm_run
                      simp only [hM, hdec, hret, hs, hn, if_true, hi, hc2]
                      exact tm_run_more sc fuel _ _ _ _ _ _ _ hr
                    · cases hr
                  · cases hr
              · cases hr
theorem tm_run_le (sc : tm_X) {fuel fuel' : Nat} (hle : fuel ≤ fuel') {d j pc : Nat} {lv : tm_L} {st : List Value} {h : tm_H} {x : Option Value × tm_H} (hr : tm_run sc fuel d j pc lv st h = some x) : tm_run sc fuel' d j pc lv st h = some x := by
  obtain ⟨k, rfl⟩ := Nat.le.dest hle
  induction k with
  | zero => exact hr
  | succ k ih => exact tm_run_more sc _ _ _ _ _ _ _ _ (ih (by omega))
section BR
variable {sc : tm_X} {d j pc pc' o nL : Nat} {ini : Bool} {ret : Option FieldType} {code : List (Nat × Instr × Nat)} {lv lv' : tm_L} {st st' rest : List Value} {B B' : bm_H} {Q Q' : Option Value → bm_H → Prop} {i : Instr} {len : Nat}
theorem g_mono (hQ : ∀ r B', Q' r B' → Q r B') (k : bm_G sc d j pc lv st B Q') : bm_G sc d j pc lv st B Q := by
  obtain ⟨f, r, B', h1, h2⟩ := k
  exact ⟨f, r, B', h1, hQ r B' h2⟩
theorem g_step (hc : tm_cd j o nL ini ret code) (hl : code.lookup pc = some (i, len)) (hr : tm_retOk ret i st = none) (hs : tm_step sc o nL ini i len pc lv st (bm_enc B) = some (pc', lv', st', bm_enc B')) (k : bm_G sc d j pc' lv' st' B' Q) : bm_G sc d j pc lv st B Q := by
  obtain ⟨M, h1, h2, h3, h4, h5, h6⟩ := hc
  obtain ⟨f, r, B2, h7, h8⟩ := k
  subst h2; subst h3; subst h4; subst h5
  refine ⟨f + 1, r, B2, ?_, h8⟩
  unfold tm_run
  simp only [h1, h6 pc i len hl, hr, hs]
  exact h7
theorem g_ret {r : Option Value} (hc : tm_cd j o nL ini ret code) (hl : code.lookup pc = some (i, 1)) (hr : tm_retOk ret i st = some r) (hq : Q r B) : bm_G sc d j pc lv st B Q := by
  obtain ⟨M, h1, h2, h3, h4, h5, h6⟩ := hc
  subst h5
  refine ⟨1, r, B, ?_, hq⟩
  unfold tm_run
  simp only [h1, h6 pc i 1 hl, hr, if_true]
theorem g_nat (hc : tm_cd j o nL ini ret code) (hl : code.lookup pc = some (i, 3)) (hr : tm_retOk ret i st = none) (hs : tm_step sc o nL ini i 3 pc lv st (bm_enc B) = none) (hn : tm_nat o i pc lv st (bm_enc B) = some (pc', lv', st', bm_enc B')) (k : bm_G sc (d + 1) j pc' lv' st' B' Q) : bm_G sc (d + 1) j pc lv st B Q := by
  obtain ⟨M, h1, h2, h3, h4, h5, h6⟩ := hc
  obtain ⟨f, r, B2, h7, h8⟩ := k
  subst h2; subst h3; subst h4; subst h5
  refine ⟨f + 1, r, B2, ?_, h8⟩
  unfold tm_run
  simp only [h1, h6 pc i 3 hl, hr, hs, if_true, hn]
  exact h7
theorem g_call {k : Nat} {as : List Value} (hc : tm_cd j o nL ini ret code) (hl : code.lookup pc = some (i, 3)) (hr : tm_retOk ret i st = none) (hs : tm_step sc o nL ini i 3 pc lv st (bm_enc B) = none) (hn : tm_nat o i pc lv st (bm_enc B) = none) (hi : tm_inv o i st (bm_enc B) = some (k, as, rest)) (hp : pc + 3 = pc') (kk : bm_G sc d k 0 (tm_ent as) [] B (fun v B1 => bm_G sc (d + 1) j pc' lv (v.toList ++ rest) B1 Q)) : bm_G sc (d + 1) j pc lv st B Q := by
  obtain ⟨M, h1, h2, h3, h4, h5, h6⟩ := hc
  obtain ⟨f1, v, B1, h7, f2, r, B2, h8, h9⟩ := kk
  subst h2; subst h3; subst h4; subst h5; subst hp
  refine ⟨max f1 f2 + 1, r, B2, ?_, h9⟩
  unfold tm_run
  simp only [h1, h6 pc i 3 hl, hr, hs, if_true, hn, hi, tm_run_le sc (Nat.le_max_left f1 f2) h7]
  exact tm_run_le sc (Nat.le_max_right f1 f2) h8
def tm_cmpP (c : Jvm.ClassFile.Cond) (x y : Int32) : Prop := match c with
  | .eq => x = y
  | .ne => ¬ x = y
  | .lt => x < y
  | .ge => y ≤ x
  | .gt => y < x
  | .le => x ≤ y
theorem tm_cmp_iff (c : Jvm.ClassFile.Cond) (x y : Int32) : tm_cmp c x y = true ↔ tm_cmpP c x y := by cases c <;> simp [tm_cmp, tm_cmpP]
theorem g_if1 {c : Jvm.ClassFile.Cond} {off : Int} {t : Nat} {x : Int32} (hc : tm_cd j o nL ini ret code) (hl : code.lookup pc = some (.ifCond c off, 3)) (ht : tm_tgt pc off = some t) (hp : pc + 3 = pc') (kt : tm_cmpP c x 0 → bm_G sc d j t lv st B Q) (kf : ¬ tm_cmpP c x 0 → bm_G sc d j pc' lv st B Q) : bm_G sc d j pc lv (.int x :: st) B Q := by
  subst hp
  by_cases q : tm_cmpP c x 0
  · exact g_step hc hl rfl (by simp only [tm_step, tm_if1, if_true, ht, Option.map_some, (tm_cmp_iff c x 0).mpr q]) (kt q)
  · have : ¬ tm_cmp c x 0 = true := fun w => q ((tm_cmp_iff c x 0).mp w)
    exact g_step hc hl rfl (by simp only [tm_step, tm_if1, if_true, ht, Option.map_some, if_neg this]) (kf q)
theorem g_if2 {c : Jvm.ClassFile.Cond} {off : Int} {t : Nat} {x y : Int32} (hc : tm_cd j o nL ini ret code) (hl : code.lookup pc = some (.if_icmp c off, 3)) (ht : tm_tgt pc off = some t) (hp : pc + 3 = pc') (kt : tm_cmpP c x y → bm_G sc d j t lv st B Q) (kf : ¬ tm_cmpP c x y → bm_G sc d j pc' lv st B Q) : bm_G sc d j pc lv (.int y :: .int x :: st) B Q := by
  subst hp
  by_cases q : tm_cmpP c x y
  · exact g_step hc hl rfl (by simp only [tm_step, tm_if2, if_true, ht, Option.map_some, (tm_cmp_iff c x y).mpr q]) (kt q)
  · have : ¬ tm_cmp c x y = true := fun w => q ((tm_cmp_iff c x y).mp w)
    exact g_step hc hl rfl (by simp only [tm_step, tm_if2, if_true, ht, Option.map_some, if_neg this]) (kf q)
theorem g_getI {ix c k ne po a : Nat} {ty : FieldType} (hc : tm_cd j o nL ini ret code) (hl : code.lookup pc = some (.getfield ix, 3)) (hf : tm_fldR o ix = some (o, ix, c, k, ne, po)) (hty : tm_ftyOf c k = some ty) (hi : bm_isI ty = true) (hp : pc + 3 = pc') (hcl : c < 13) (ha : a < bm_n B) (hK : bm_K B a = c) (kk : bm_G sc d j pc' lv (.int (bm_FI B c k a) :: st) B Q) : bm_G sc d j pc lv (.ref a :: st) B Q := by
  subst hp
  refine g_step hc hl rfl ?_ kk
  simp only [tm_step, if_true, tm_getf, hf, bm_getO ha hK hcl, bm_fs_at B hty, Option.map_some, bm_fv, hi]
theorem g_getR {ix c k ne po a : Nat} {ty : FieldType} {x : Option Nat} (hc : tm_cd j o nL ini ret code) (hl : code.lookup pc = some (.getfield ix, 3)) (hf : tm_fldR o ix = some (o, ix, c, k, ne, po)) (hty : tm_ftyOf c k = some ty) (hi : bm_isI ty = false) (hp : pc + 3 = pc') (hcl : c < 13) (ha : a < bm_n B) (hK : bm_K B a = c) (hx : bm_FR B c k a = x) (kk : bm_G sc d j pc' lv (va_rf x :: st) B Q) : bm_G sc d j pc lv (.ref a :: st) B Q := by
  subst hp; subst hx
  refine g_step hc hl rfl ?_ kk
  simp only [tm_step, if_true, tm_getf, hf, bm_getO ha hK hcl, bm_fs_at B hty, Option.map_some, bm_fv, hi]
  simp
theorem bm_cell_putI {B : bm_H} {a c k : Nat} {v : Int32} {ty : FieldType} (hK : bm_K B a = c) (hcl : c < 13) (hty : tm_ftyOf c k = some ty) (hi : bm_isI ty = true) : tm_put (bm_enc B) a (.inr (.inr (c, (bm_fs B c a).set k (.int v)))) = bm_enc (bm_putI B c k a v) := by
  refine bm_enc_put rfl rfl ?_ (fun a' ha' => bm_cell_eq rfl (fun c' k' => ?_) (fun _ _ => rfl) rfl (fun _ => rfl) (fun _ => rfl))
  · unfold bm_cell
    have hK' : bm_K (bm_putI B c k a v) a = c := hK
    rw [hK', if_pos hcl, bm_fs_putI B v hty hi]
  · show bm_up3 (bm_FI B) c k a v c' k' a' = _
    unfold bm_up3
    rw [if_neg (fun w => ha' w.2.2)]
theorem bm_cell_putR {B : bm_H} {a c k : Nat} {v : Option Nat} {ty : FieldType} (hK : bm_K B a = c) (hcl : c < 13) (hty : tm_ftyOf c k = some ty) (hi : bm_isI ty = false) : tm_put (bm_enc B) a (.inr (.inr (c, (bm_fs B c a).set k (va_rf v)))) = bm_enc (bm_putR B c k a v) := by
  refine bm_enc_put rfl rfl ?_ (fun a' ha' => bm_cell_eq rfl (fun _ _ => rfl) (fun c' k' => ?_) rfl (fun _ => rfl) (fun _ => rfl))
  · unfold bm_cell
    have hK' : bm_K (bm_putR B c k a v) a = c := hK
    rw [hK', if_pos hcl, bm_fs_putR B v hty hi]
  · show bm_up3 (bm_FR B) c k a v c' k' a' = _
    unfold bm_up3
    rw [if_neg (fun w => ha' w.2.2)]
theorem g_putI {ix c k ne po a : Nat} {v : Int32} {ty : FieldType} (hc : tm_cd j o nL ini ret code) (hl : code.lookup pc = some (.putfield ix, 3)) (hf : tm_fldR o ix = some (o, ix, c, k, ne, po)) (hty : tm_ftyOf c k = some ty) (hi : bm_isI ty = true) (hok : tm_okV ty (.int v) = true) (hfin : (tm_fin c k = false ∨ (tm_fin c k = true ∧ ini = true ∧ ne = 0 ∧ o = c))) (hp : pc + 3 = pc') (hcl : c < 13) (ha : a < bm_n B) (hK : bm_K B a = c) (kk : bm_G sc d j pc' lv st (bm_putI B c k a v) Q) : bm_G sc d j pc lv (.int v :: .ref a :: st) B Q := by
  subst hp
  refine g_step hc hl rfl ?_ kk
  have hlen := bm_fs_len B (a := a) hty
  simp only [tm_step, if_true, tm_putf, hf, bm_getO ha hK hcl, hty]
  rw [if_pos ⟨trivial, hok, hlen, hfin⟩, bm_cell_putI hK hcl hty hi]
theorem g_putR {ix c k ne po a : Nat} {v : Option Nat} {w : Value} {ty : FieldType} (hw : va_rf v = w) (hc : tm_cd j o nL ini ret code) (hl : code.lookup pc = some (.putfield ix, 3)) (hf : tm_fldR o ix = some (o, ix, c, k, ne, po)) (hty : tm_ftyOf c k = some ty) (hi : bm_isI ty = false) (hok : tm_okV ty w = true) (hfin : (tm_fin c k = false ∨ (tm_fin c k = true ∧ ini = true ∧ ne = 0 ∧ o = c))) (hp : pc + 3 = pc') (hcl : c < 13) (ha : a < bm_n B) (hK : bm_K B a = c) (kk : bm_G sc d j pc' lv st (bm_putR B c k a v) Q) : bm_G sc d j pc lv (w :: .ref a :: st) B Q := by
  subst hp
  refine g_step hc hl rfl ?_ kk
  have hlen := bm_fs_len B (a := a) hty
  simp only [tm_step, if_true, tm_putf, hf, bm_getO ha hK hcl, hty]
  rw [if_pos ⟨trivial, hok, hlen, hfin⟩, ← hw, bm_cell_putR hK hcl hty hi]
end BR
