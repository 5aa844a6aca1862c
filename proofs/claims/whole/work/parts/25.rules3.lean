/-! Constants, ends, what a walk uses -/
section BC
variable {sc : tm_X} {d j pc pc' o nL : Nat} {ini : Bool} {ret : Option FieldType} {code : List (Nat × Instr × Nat)} {lv lv' : tm_L} {st st' rest : List Value} {B B' : bm_H} {Q Q' : Option Value → bm_H → Prop} {i : Instr} {len : Nat}
theorem g_k1 {n : Int} {v : Int32} (hc : tm_cd j o nL ini ret code) (hl : code.lookup pc = some (.iconst n, 1)) (hv : Int32.ofInt n = v) (hp : pc + 1 = pc') (kk : bm_G sc d j pc' lv (.int v :: st) B Q) : bm_G sc d j pc lv st B Q := by
  subst hp; subst hv
  exact g_step hc hl rfl (by simp only [tm_step, if_true]) kk
theorem g_k2 {n : Int} {v : Int32} (hc : tm_cd j o nL ini ret code) (hl : code.lookup pc = some (.bipush n, 2)) (hv : (Int8.ofInt n).toInt32 = v) (hp : pc + 2 = pc') (kk : bm_G sc d j pc' lv (.int v :: st) B Q) : bm_G sc d j pc lv st B Q := by
  subst hp; subst hv
  exact g_step hc hl rfl (by simp only [tm_step, if_true]) kk
theorem g_k3 {n : Int} {v : Int32} (hc : tm_cd j o nL ini ret code) (hl : code.lookup pc = some (.sipush n, 3)) (hv : (Int16.ofInt n).toInt32 = v) (hp : pc + 3 = pc') (kk : bm_G sc d j pc' lv (.int v :: st) B Q) : bm_G sc d j pc lv st B Q := by
  subst hp; subst hv
  exact g_step hc hl rfl (by simp only [tm_step, if_true]) kk
theorem g_ldc {n : Nat} {v : Int32} (hc : tm_cd j o nL ini ret code) (hl : code.lookup pc = some (.ldc n, 2)) (hv : tm_cst o n = some v) (hp : pc + 2 = pc') (kk : bm_G sc d j pc' lv (.int v :: st) B Q) : bm_G sc d j pc lv st B Q := by
  subst hp
  exact g_step hc hl rfl (by simp only [tm_step, if_true, hv, Option.map_some]) kk
theorem g_ldcw {n : Nat} {v : Int32} (hc : tm_cd j o nL ini ret code) (hl : code.lookup pc = some (.ldc_w n, 3)) (hv : tm_cst o n = some v) (hp : pc + 3 = pc') (kk : bm_G sc d j pc' lv (.int v :: st) B Q) : bm_G sc d j pc lv st B Q := by
  subst hp
  exact g_step hc hl rfl (by simp only [tm_step, if_true, hv, Option.map_some]) kk
theorem g_reti {v : Int32} (hc : tm_cd j o nL ini (some .int) code) (hl : code.lookup pc = some (.ireturn, 1)) (hq : Q (some (.int v)) B) : bm_G sc d j pc lv [.int v] B Q := g_ret hc hl (by simp [tm_retOk, narrow]) hq
theorem g_retz {v : Int32} (hc : tm_cd j o nL ini (some .boolean) code) (hl : code.lookup pc = some (.ireturn, 1)) (hv : v = 0 ∨ v = 1) (hq : Q (some (.int v)) B) : bm_G sc d j pc lv [.int v] B Q := g_ret hc hl (by rcases hv with rfl | rfl <;> rfl) hq
theorem g_retv (hc : tm_cd j o nL ini none code) (hl : code.lookup pc = some (.return_, 1)) (hq : Q none B) : bm_G sc d j pc lv [] B Q := g_ret hc hl rfl hq
theorem g_retr {x : Option Nat} {C : String} (hc : tm_cd j o nL ini (some (.object C)) code) (hl : code.lookup pc = some (.areturn, 1)) (hq : Q (some (va_rf x)) B) : bm_G sc d j pc lv [va_rf x] B Q := g_ret hc hl (by cases x <;> simp [tm_retOk, va_rf, tm_rfOf]) hq
theorem g_reta {x : Nat} {t : FieldType} (hc : tm_cd j o nL ini (some (.array t)) code) (hl : code.lookup pc = some (.areturn, 1)) (hq : Q (some (.ref x)) B) : bm_G sc d j pc lv [.ref x] B Q := g_ret hc hl (by simp [tm_retOk, tm_rfOf]) hq
/-- reading a field with its value told -/
theorem g_fI {ix c k ne po a : Nat} {ty : FieldType} {x : Int32} (hc : tm_cd j o nL ini ret code) (hl : code.lookup pc = some (.getfield ix, 3)) (hf : tm_fldR o ix = some (o, ix, c, k, ne, po)) (hty : tm_ftyOf c k = some ty) (hi : bm_isI ty = true) (hp : pc + 3 = pc') (hcl : c < 13) (ha : a < bm_n B) (hK : bm_K B a = c) (hx : bm_FI B c k a = x) (kk : bm_G sc d j pc' lv (.int x :: st) B Q) : bm_G sc d j pc lv (.ref a :: st) B Q := by
  subst hx
  exact g_getI hc hl hf hty hi hp hcl ha hK kk
theorem g_fR {ix c k ne po a x : Nat} {ty : FieldType} (hc : tm_cd j o nL ini ret code) (hl : code.lookup pc = some (.getfield ix, 3)) (hf : tm_fldR o ix = some (o, ix, c, k, ne, po)) (hty : tm_ftyOf c k = some ty) (hi : bm_isI ty = false) (hp : pc + 3 = pc') (hcl : c < 13) (ha : a < bm_n B) (hK : bm_K B a = c) (hx : bm_FR B c k a = some x) (kk : bm_G sc d j pc' lv (.ref x :: st) B Q) : bm_G sc d j pc lv (.ref a :: st) B Q := g_getR hc hl hf hty hi hp hcl ha hK hx kk
/-- reading an array with its value told -/
theorem g_aI {a : Nat} {i x : Int32} (hc : tm_cd j o nL ini ret code) (hl : code.lookup pc = some (.iaload, 1)) (hp : pc + 1 = pc') (ha : a < bm_n B) (hK : bm_K B a = 13) (hin : vp_in i (bm_AL B a)) (hx : bm_AI B a i.toNatClampNeg = x) (kk : bm_G sc d j pc' lv (.int x :: st) B Q) : bm_G sc d j pc lv (.int i :: .ref a :: st) B Q := by
  subst hx
  exact g_iald hc hl hp ha hK hin kk
theorem g_aR {a t x : Nat} {i : Int32} {ty : FieldType} (hc : tm_cd j o nL ini ret code) (hl : code.lookup pc = some (.aaload, 1)) (hp : pc + 1 = pc') (ha : a < bm_n B) (hK : bm_K B a = 13 + t) (ht : 2 ≤ t) (hty : tm_tys[t]? = some ty) (hrk : refKind ty = true) (hin : vp_in i (bm_AL B a)) (hx : bm_AR B a i.toNatClampNeg = some x) (kk : bm_G sc d j pc' lv (.ref x :: st) B Q) : bm_G sc d j pc lv (.int i :: .ref a :: st) B Q := g_aald hc hl hp ha hK ht hty hrk hin hx kk
/-- a name for a number on the stack -/
theorem g_top {x : Int32} (k : ∀ y : Int32, y = x → bm_G sc d j pc lv (.int y :: st) B Q) : bm_G sc d j pc lv (.int x :: st) B Q := k x rfl
end BC
