/-! Rules: division, null, references alike, switches; Terms in another heap -/
section R4
variable {sc : tm_X} {d j pc pc' o nL : Nat} {ini : Bool} {ret : Option FieldType} {code : List (Nat × Instr × Nat)} {lv lv' : tm_L} {st st' rest : List Value} {B B' : bm_H} {Q Q' : Option Value → bm_H → Prop} {i : Instr} {len : Nat}
theorem g_div {x y z : Int32} (hc : tm_cd j o nL ini ret code) (hl : code.lookup pc = some (.idiv, 1)) (hp : pc + 1 = pc') (hy : ¬ y = 0) (hz : x / y = z) (kk : bm_G sc d j pc' lv (.int z :: st) B Q) : bm_G sc d j pc lv (.int y :: .int x :: st) B Q := by
  subst hp; subst hz
  exact g_step hc hl rfl (by simp only [tm_step, if_true, tm_div, if_neg hy]) kk
theorem g_rem {x y z : Int32} (hc : tm_cd j o nL ini ret code) (hl : code.lookup pc = some (.irem, 1)) (hp : pc + 1 = pc') (hy : ¬ y = 0) (hz : x - x / y * y = z) (kk : bm_G sc d j pc' lv (.int z :: st) B Q) : bm_G sc d j pc lv (.int y :: .int x :: st) B Q := by
  subst hp; subst hz
  exact g_step hc hl rfl (by simp only [tm_step, if_true, tm_div, if_neg hy]) kk
/-- ifnull, ifnonnull over a reference that is there, or null -/
theorem g_nlT {off : Int} {t : Nat} (hc : tm_cd j o nL ini ret code) (hl : code.lookup pc = some (.ifnull off, 3)) (ht : tm_tgt pc off = some t) (kk : bm_G sc d j t lv st B Q) : bm_G sc d j pc lv (.null :: st) B Q := g_step hc hl rfl (by simp [tm_step, tm_ifnull, ht]) kk
theorem g_nlF {off : Int} {t a : Nat} (hc : tm_cd j o nL ini ret code) (hl : code.lookup pc = some (.ifnull off, 3)) (ht : tm_tgt pc off = some t) (hp : pc + 3 = pc') (kk : bm_G sc d j pc' lv st B Q) : bm_G sc d j pc lv (.ref a :: st) B Q := by
  subst hp
  exact g_step hc hl rfl (by simp [tm_step, tm_ifnull, ht]) kk
theorem g_nnT {off : Int} {t a : Nat} (hc : tm_cd j o nL ini ret code) (hl : code.lookup pc = some (.ifnonnull off, 3)) (ht : tm_tgt pc off = some t) (kk : bm_G sc d j t lv st B Q) : bm_G sc d j pc lv (.ref a :: st) B Q := g_step hc hl rfl (by simp [tm_step, tm_ifnull, ht]) kk
theorem g_nnF {off : Int} {t : Nat} (hc : tm_cd j o nL ini ret code) (hl : code.lookup pc = some (.ifnonnull off, 3)) (ht : tm_tgt pc off = some t) (hp : pc + 3 = pc') (kk : bm_G sc d j pc' lv st B Q) : bm_G sc d j pc lv (.null :: st) B Q := by
  subst hp
  exact g_step hc hl rfl (by simp [tm_step, tm_ifnull, ht]) kk
/-- if two references are one -/
theorem g_acq {off : Int} {t a b : Nat} (hc : tm_cd j o nL ini ret code) (hl : code.lookup pc = some (.if_acmp .eq off, 3)) (ht : tm_tgt pc off = some t) (hp : pc + 3 = pc') (kt : a = b → bm_G sc d j t lv st B Q) (kf : ¬ a = b → bm_G sc d j pc' lv st B Q) : bm_G sc d j pc lv (.ref b :: .ref a :: st) B Q := by
  subst hp
  by_cases q : a = b
  · exact g_step hc hl rfl (by simp [tm_step, tm_acmp, tm_rfOf, ht, q]) (kt q)
  · exact g_step hc hl rfl (by simp [tm_step, tm_acmp, tm_rfOf, ht, q]) (kf q)
theorem g_acn {off : Int} {t a b : Nat} (hc : tm_cd j o nL ini ret code) (hl : code.lookup pc = some (.if_acmp .ne off, 3)) (ht : tm_tgt pc off = some t) (hp : pc + 3 = pc') (kt : ¬ a = b → bm_G sc d j t lv st B Q) (kf : a = b → bm_G sc d j pc' lv st B Q) : bm_G sc d j pc lv (.ref b :: .ref a :: st) B Q := by
  subst hp
  by_cases q : a = b
  · exact g_step hc hl rfl (by simp [tm_step, tm_acmp, tm_rfOf, ht, q]) (kf q)
  · exact g_step hc hl rfl (by simp [tm_step, tm_acmp, tm_rfOf, ht, q]) (kt q)
/-- a switch at a number that it names, or at another one -/
theorem g_swk {x k : Int32} (hx : x = k) (hc : tm_cd j o nL ini ret code) (hl : code.lookup pc = some (i, len)) (hr : tm_retOk ret i (.int k :: st) = none) (hs : ∀ (lv : tm_L) (h : tm_H), tm_step sc o nL ini i len pc lv (.int k :: st) h = some (pc', lv, st, h)) (kk : bm_G sc d j pc' lv st B Q) : bm_G sc d j pc lv (.int x :: st) B Q := by
  subst hx
  exact g_pure hc hl hr hs kk
theorem g_swd {x : Int32} {dflt lo hi : Int} {offs : Array Int} {t : Nat} (hc : tm_cd j o nL ini ret code) (hl : code.lookup pc = some (.tableswitch dflt lo hi offs, len)) (ht : tm_tgt pc dflt = some t) (hx : x.toInt < lo ∨ hi < x.toInt) (kk : bm_G sc d j t lv st B Q) : bm_G sc d j pc lv (.int x :: st) B Q := g_step hc hl rfl (by simp only [tm_step, tm_switch, if_pos hx, ht, Option.map_some]) kk
theorem i32_ne {x : Int32} {n : Nat} (hn : n < 2 ^ 31) (h : ¬ x = nI n) : x.toInt ≠ n := fun e => h (Int32.toInt_inj.mp (by rw [e, nI_toInt hn]))
/-- an array of booleans -/
theorem g_bI {a : Nat} {i x : Int32} (hc : tm_cd j o nL ini ret code) (hl : code.lookup pc = some (.baload, 1)) (hp : pc + 1 = pc') (ha : a < bm_n B) (hK : bm_K B a = 14) (hin : vp_in i (bm_AL B a)) (hx : bm_AI B a i.toNatClampNeg = x) (kk : bm_G sc d j pc' lv (.int x :: st) B Q) : bm_G sc d j pc lv (.int i :: .ref a :: st) B Q := by
  subst hx
  exact g_bald hc hl hp ha hK hin kk
theorem bz_nar (b : Bool) : vp_nar .boolean (bz b) = bz b := by cases b <;> decide
theorem g_bS {a : Nat} {i x : Int32} (hc : tm_cd j o nL ini ret code) (hl : code.lookup pc = some (.bastore, 1)) (hp : pc + 1 = pc') (ha : a < bm_n B) (hK : bm_K B a = 14) (hin : vp_in i (bm_AL B a)) (hx : vp_nar .boolean x = x) (kk : bm_G sc d j pc' lv st (bm_setI B a i.toNatClampNeg x) Q) : bm_G sc d j pc lv (.int x :: .int i :: .ref a :: st) B Q := g_bast hc hl hp ha hK hin (by rw [hx]; exact kk)
end R4
section TF
variable {X : Nat → Prop} {B B' : bm_H} {a ca ba da rm dr : Nat} {T : List Tm}
theorem te_ok_fr {sz : Nat} (h : te_ok B a ca ba da rm sz dr) (hf : fr X B B') (n1 : ¬ X a) : te_ok B' a ca ba da rm sz dr := by
  obtain ⟨⟨a1, a2⟩, ⟨a3, a4, a5⟩, ⟨⟨b1, b2, b3⟩, ⟨b4, b5, b6⟩, b7, b8, b9⟩, ⟨e1, e2, e3⟩, e4, e5⟩ := h
  refine ⟨⟨fr_lt hf a1, (fr_K hf a1).trans a2⟩, ⟨(fr_FR hf a1 n1 9 0).trans a3, (fr_FR hf a1 n1 9 1).trans a4, (fr_FR hf a1 n1 9 2).trans a5⟩, ⟨⟨fr_lt hf b1, (fr_K hf b1).trans b2, (fr_AL hf b1).trans b3⟩, ⟨fr_lt hf b4, (fr_K hf b4).trans b5, (fr_AL hf b4).trans b6⟩, fr_lt hf b7, (fr_K hf b7).trans b8, (fr_AL hf b7).trans b9⟩, ⟨(fr_FI hf a1 n1 9 3).trans e1, (fr_FI hf a1 n1 9 4).trans e2, (fr_FI hf a1 n1 9 5).trans e3⟩, e4, e5⟩
theorem TI_fr (h : TI B a ca ba da rm dr T) (hf : fr X B B') (n1 : ¬ X a) (n2 : ¬ X ca) (n3 : ¬ X ba) : TI B' a ca ba da rm dr T := TI_of h (te_ok_fr h.1 hf n1) (fr_AI hf h.1.2.2.1.1.1 n2) (fr_AI hf h.1.2.2.1.2.1.1 n3)
end TF
