/-! The reference: its object at 1482, its arrays at 1483 .. 1528; its state as plain values: fields, arrays -/
abbrev MS : Type := (Nat → Int32) × (Nat → Nat → Int32)
def mS (B : bm_H) : MS := (fun k => bm_FI B 12 k 1482, fun a => bm_AI B (1482 + a))
/-- field, array, kind, length -/
def mTab : List (Nat × Nat × Nat × Nat) := [(1, 1, 13, 4096), (2, 2, 13, 4096), (3, 3, 13, 4096), (4, 4, 13, 4096), (5, 5, 14, 4096), (6, 6, 14, 4096), (8, 7, 13, 8192), (9, 8, 13, 8192), (10, 9, 13, 8), (12, 10, 13, 3064), (13, 11, 13, 3064), (14, 12, 14, 3064), (15, 13, 13, 3064), (17, 14, 13, 9612), (18, 15, 13, 1602), (19, 16, 13, 6), (20, 17, 13, 30), (22, 18, 13, 14400), (23, 19, 14, 900), (24, 20, 13, 12), (25, 21, 13, 6), (26, 22, 14, 6), (27, 23, 13, 6), (28, 24, 13, 6), (29, 25, 13, 6), (31, 26, 13, 16), (39, 27, 13, 1200), (41, 28, 13, 716), (42, 29, 13, 716), (44, 30, 13, 716), (45, 31, 13, 716), (46, 32, 13, 716), (47, 33, 14, 716), (48, 34, 13, 716), (49, 35, 13, 716), (50, 36, 13, 716), (51, 37, 13, 4296), (52, 38, 13, 716), (55, 39, 13, 6), (56, 40, 13, 6), (57, 41, 13, 6), (58, 42, 13, 6), (59, 43, 13, 38), (60, 44, 13, 22), (62, 45, 13, 32), (64, 46, 13, 2400)]
def mX (y : Nat) : Prop := 1482 ≤ y ∧ y < 1529
def MoS (B : bm_H) : Prop := (1482 < bm_n B ∧ bm_K B 1482 = 12) ∧ ∀ (i k a t n : Nat), mTab[i]? = some (k, a, t, n) → bm_FR B 12 k 1482 = some (1482 + a) ∧ 1482 + a < bm_n B ∧ bm_K B (1482 + a) = t ∧ bm_AL B (1482 + a) = n
def mF (B B' : bm_H) : Prop := fz mX B B' ∧ MoS B'
theorem mF_rfl {B : bm_H} (h : MoS B) : mF B B := ⟨fz_rfl _ B, h⟩
theorem mF_trans {B B1 B2 : bm_H} (h : mF B B1) (g : mF B1 B2) : mF B B2 := ⟨fz_trans h.1 g.1, g.2⟩
/-- from a place of a method of the reference, in state s, the run ends with Q -/
def mg (sc : tm_X) (d j pc : Nat) (lv : tm_L) (st : List Value) (s : MS) (Q : Option Value → MS → Prop) : Prop := ∀ B, MoS B → mS B = s → bm_G sc d j pc lv st B (fun r B' => mF B B' ∧ Q r (mS B'))
def mGi (sc : tm_X) (d j : Nat) (as : List Value) (s : MS) (Q : Int32 → MS → Prop) : Prop := mg sc d j 0 (tm_ent as) [] s (fun r s' => ∃ x, r = some (.int x) ∧ Q x s')
def mGv (sc : tm_X) (d j : Nat) (as : List Value) (s : MS) (Q : MS → Prop) : Prop := mg sc d j 0 (tm_ent as) [] s (fun r s' => r = none ∧ Q s')
section MR
variable {sc : tm_X} {d j pc pc' nL : Nat} {ini : Bool} {ret : Option FieldType} {code : List (Nat × Instr × Nat)} {lv lv' : tm_L} {st st' rest : List Value} {s s' : MS} {Q Q' : Option Value → MS → Prop} {i : Instr} {len : Nat}
theorem mg_mono (h : ∀ r s', Q' r s' → Q r s') (k : mg sc d j pc lv st s Q') : mg sc d j pc lv st s Q := fun B hM hs => g_mono (fun r B' q => ⟨q.1, h _ _ q.2⟩) (k B hM hs)
/-- the heap stays -/
theorem m_same (h : ∀ (B : bm_H) (Q0 : Option Value → bm_H → Prop), bm_G sc d j pc' lv' st' B Q0 → bm_G sc d j pc lv st B Q0) (k : mg sc d j pc' lv' st' s Q) : mg sc d j pc lv st s Q := fun B hM hs => h B _ (k B hM hs)
theorem m_k1 {n : Int} {v : Int32} (hc : tm_cd j 12 nL ini ret code) (hl : code.lookup pc = some (.iconst n, 1)) (hv : Int32.ofInt n = v) (hp : pc + 1 = pc') (kk : mg sc d j pc' lv (.int v :: st) s Q) : mg sc d j pc lv st s Q := m_same (fun _ _ k => g_k1 hc hl hv hp k) kk
theorem m_k2 {n : Int} {v : Int32} (hc : tm_cd j 12 nL ini ret code) (hl : code.lookup pc = some (.bipush n, 2)) (hv : (Int8.ofInt n).toInt32 = v) (hp : pc + 2 = pc') (kk : mg sc d j pc' lv (.int v :: st) s Q) : mg sc d j pc lv st s Q := m_same (fun _ _ k => g_k2 hc hl hv hp k) kk
theorem m_k3 {n : Int} {v : Int32} (hc : tm_cd j 12 nL ini ret code) (hl : code.lookup pc = some (.sipush n, 3)) (hv : (Int16.ofInt n).toInt32 = v) (hp : pc + 3 = pc') (kk : mg sc d j pc' lv (.int v :: st) s Q) : mg sc d j pc lv st s Q := m_same (fun _ _ k => g_k3 hc hl hv hp k) kk
theorem m_ldc {n : Nat} {v : Int32} (hc : tm_cd j 12 nL ini ret code) (hl : code.lookup pc = some (.ldc n, 2)) (hv : tm_cst 12 n = some v) (hp : pc + 2 = pc') (kk : mg sc d j pc' lv (.int v :: st) s Q) : mg sc d j pc lv st s Q := m_same (fun _ _ k => g_ldc hc hl hv hp k) kk
theorem m_ldcw {n : Nat} {v : Int32} (hc : tm_cd j 12 nL ini ret code) (hl : code.lookup pc = some (.ldc_w n, 3)) (hv : tm_cst 12 n = some v) (hp : pc + 3 = pc') (kk : mg sc d j pc' lv (.int v :: st) s Q) : mg sc d j pc lv st s Q := m_same (fun _ _ k => g_ldcw hc hl hv hp k) kk
theorem m_reti {v : Int32} (hc : tm_cd j 12 nL ini (some .int) code) (hl : code.lookup pc = some (.ireturn, 1)) (hq : Q (some (.int v)) s) : mg sc d j pc lv [.int v] s Q := fun B hM hs => g_reti hc hl ⟨mF_rfl hM, by rw [hs]; exact hq⟩
theorem m_retz {v : Int32} (hc : tm_cd j 12 nL ini (some .boolean) code) (hl : code.lookup pc = some (.ireturn, 1)) (hv : v = 0 ∨ v = 1) (hq : Q (some (.int v)) s) : mg sc d j pc lv [.int v] s Q := fun B hM hs => g_retz hc hl hv ⟨mF_rfl hM, by rw [hs]; exact hq⟩
theorem m_retv (hc : tm_cd j 12 nL ini none code) (hl : code.lookup pc = some (.return_, 1)) (hq : Q none s) : mg sc d j pc lv [] s Q := fun B hM hs => g_retv hc hl ⟨mF_rfl hM, by rw [hs]; exact hq⟩
theorem m_ild {n w : Nat} {x : Int32} (hc : tm_cd j 12 nL ini ret code) (hl : code.lookup pc = some (i, w)) (hi : (i = .iload n ∧ w = 2) ∨ (∃ k : Fin 4, i = .iload_n k ∧ (k : Nat) = n ∧ w = 1)) (hx : lv.lookup n = some (.int x)) (hp : pc + w = pc') (kk : mg sc d j pc' lv (.int x :: st) s Q) : mg sc d j pc lv st s Q := m_same (fun _ _ k => g_ild hc hl hi hx hp k) kk
theorem m_ald {n w : Nat} {x : Value} (hc : tm_cd j 12 nL ini ret code) (hl : code.lookup pc = some (i, w)) (hi : (i = .aload n ∧ w = 2) ∨ (∃ k : Fin 4, i = .aload_n k ∧ (k : Nat) = n ∧ w = 1)) (hx : lv.lookup n = some x) (hr : tm_isR x = true) (hp : pc + w = pc') (kk : mg sc d j pc' lv (x :: st) s Q) : mg sc d j pc lv st s Q := m_same (fun _ _ k => g_ald hc hl hi hx hr hp k) kk
theorem m_ist {n w : Nat} {x : Int32} (hc : tm_cd j 12 nL ini ret code) (hl : code.lookup pc = some (i, w)) (hi : (i = .istore n ∧ w = 2) ∨ (∃ k : Fin 4, i = .istore_n k ∧ (k : Nat) = n ∧ w = 1)) (hn : n < nL) (hp : pc + w = pc') (kk : ∀ lv' : tm_L, lv' = tm_lset lv n (.int x) → mg sc d j pc' lv' st s Q) : mg sc d j pc lv (.int x :: st) s Q := fun B hM hs => g_ist hc hl hi hn hp (fun lv' e => kk lv' e B hM hs)
theorem m_ast {n w : Nat} {x : Value} (hc : tm_cd j 12 nL ini ret code) (hl : code.lookup pc = some (i, w)) (hi : (i = .astore n ∧ w = 2) ∨ (∃ k : Fin 4, i = .astore_n k ∧ (k : Nat) = n ∧ w = 1)) (hr : tm_isR x = true) (hn : n < nL) (hp : pc + w = pc') (kk : ∀ lv' : tm_L, lv' = tm_lset lv n x → mg sc d j pc' lv' st s Q) : mg sc d j pc lv (x :: st) s Q := fun B hM hs => g_ast hc hl hi hr hn hp (fun lv' e => kk lv' e B hM hs)
theorem m_inc {n : Nat} {m : Int} {x y : Int32} (hc : tm_cd j 12 nL ini ret code) (hl : code.lookup pc = some (.iinc n m, 3)) (hx : lv.lookup n = some (.int x)) (hn : n < nL) (hy : x + Int32.ofInt m = y) (hp : pc + 3 = pc') (kk : ∀ lv' : tm_L, lv' = tm_lset lv n (.int y) → mg sc d j pc' lv' st s Q) : mg sc d j pc lv st s Q := fun B hM hs => g_inc hc hl hx hn hy hp (fun lv' e => kk lv' e B hM hs)
theorem m_pure (hc : tm_cd j 12 nL ini ret code) (hl : code.lookup pc = some (i, len)) (hr : tm_retOk ret i st = none) (hs : ∀ (lv : tm_L) (h : tm_H), tm_step sc 12 nL ini i len pc lv st h = some (pc', lv, st', h)) (kk : mg sc d j pc' lv st' s Q) : mg sc d j pc lv st s Q := m_same (fun _ _ k => g_pure hc hl hr hs k) kk
theorem m_top {x : Int32} (k : ∀ y : Int32, y = x → mg sc d j pc lv (.int y :: st) s Q) : mg sc d j pc lv (.int x :: st) s Q := k x rfl
/-- another word for a number on the stack -/
theorem m_eq {x y : Int32} (e : x = y) (k : mg sc d j pc lv (.int y :: st) s Q) : mg sc d j pc lv (.int x :: st) s Q := e ▸ k
theorem m_if1 {c : Jvm.ClassFile.Cond} {off : Int} {t : Nat} {x : Int32} (hc : tm_cd j 12 nL ini ret code) (hl : code.lookup pc = some (.ifCond c off, 3)) (ht : tm_tgt pc off = some t) (hp : pc + 3 = pc') (kt : tm_cmpP c x 0 → mg sc d j t lv st s Q) (kf : ¬ tm_cmpP c x 0 → mg sc d j pc' lv st s Q) : mg sc d j pc lv (.int x :: st) s Q := fun B hM hs => g_if1 hc hl ht hp (fun q => kt q B hM hs) (fun q => kf q B hM hs)
theorem m_if2 {c : Jvm.ClassFile.Cond} {off : Int} {t : Nat} {x y : Int32} (hc : tm_cd j 12 nL ini ret code) (hl : code.lookup pc = some (.if_icmp c off, 3)) (ht : tm_tgt pc off = some t) (hp : pc + 3 = pc') (kt : tm_cmpP c x y → mg sc d j t lv st s Q) (kf : ¬ tm_cmpP c x y → mg sc d j pc' lv st s Q) : mg sc d j pc lv (.int y :: .int x :: st) s Q := fun B hM hs => g_if2 hc hl ht hp (fun q => kt q B hM hs) (fun q => kf q B hM hs)
theorem m_div {x y z : Int32} (hc : tm_cd j 12 nL ini ret code) (hl : code.lookup pc = some (.idiv, 1)) (hp : pc + 1 = pc') (hy : ¬ y = 0) (hz : x / y = z) (kk : mg sc d j pc' lv (.int z :: st) s Q) : mg sc d j pc lv (.int y :: .int x :: st) s Q := m_same (fun _ _ k => g_div hc hl hp hy hz k) kk
theorem m_rem {x y z : Int32} (hc : tm_cd j 12 nL ini ret code) (hl : code.lookup pc = some (.irem, 1)) (hp : pc + 1 = pc') (hy : ¬ y = 0) (hz : x - x / y * y = z) (kk : mg sc d j pc' lv (.int z :: st) s Q) : mg sc d j pc lv (.int y :: .int x :: st) s Q := m_same (fun _ _ k => g_rem hc hl hp hy hz k) kk
theorem m_swk {x k : Int32} (hx : x = k) (hc : tm_cd j 12 nL ini ret code) (hl : code.lookup pc = some (i, len)) (hr : tm_retOk ret i (.int k :: st) = none) (hs : ∀ (lv : tm_L) (h : tm_H), tm_step sc 12 nL ini i len pc lv (.int k :: st) h = some (pc', lv, st, h)) (kk : mg sc d j pc' lv st s Q) : mg sc d j pc lv (.int x :: st) s Q := m_same (fun _ _ k => g_swk hx hc hl hr hs k) kk
theorem m_swd {x : Int32} {dflt lo hi : Int} {offs : Array Int} {t : Nat} (hc : tm_cd j 12 nL ini ret code) (hl : code.lookup pc = some (.tableswitch dflt lo hi offs, len)) (ht : tm_tgt pc dflt = some t) (hx : x.toInt < lo ∨ hi < x.toInt) (kk : mg sc d j t lv st s Q) : mg sc d j pc lv (.int x :: st) s Q := m_same (fun _ _ k => g_swd hc hl ht hx k) kk
/-- a field -/
theorem m_fI {f : Nat → Int32} {A : Nat → Nat → Int32} {ix k ne po : Nat} {ty : FieldType} {x : Int32} (hc : tm_cd j 12 nL ini ret code) (hl : code.lookup pc = some (.getfield ix, 3)) (hf : tm_fldR 12 ix = some (12, ix, 12, k, ne, po)) (hty : tm_ftyOf 12 k = some ty) (hi : bm_isI ty = true) (hp : pc + 3 = pc') (hx : f k = x) (kk : mg sc d j pc' lv (.int x :: st) (f, A) Q) : mg sc d j pc lv (.ref 1482 :: st) (f, A) Q := fun B hM hs => g_fI hc hl hf hty hi hp (by decide) hM.1.1 hM.1.2 ((congrArg (fun q : MS => q.1 k) hs).trans hx) (kk B hM hs)
theorem m_fR {f : Nat → Int32} {A : Nat → Nat → Int32} {ix k ne po a ad t n r : Nat} {ty : FieldType} (hr : mTab[r]? = some (k, a, t, n)) (had : 1482 + a = ad) (hc : tm_cd j 12 nL ini ret code) (hl : code.lookup pc = some (.getfield ix, 3)) (hf : tm_fldR 12 ix = some (12, ix, 12, k, ne, po)) (hty : tm_ftyOf 12 k = some ty) (hi : bm_isI ty = false) (hp : pc + 3 = pc') (kk : mg sc d j pc' lv (.ref ad :: st) (f, A) Q) : mg sc d j pc lv (.ref 1482 :: st) (f, A) Q := fun B hM hs => g_fR hc hl hf hty hi hp (by decide) hM.1.1 hM.1.2 (had ▸ (hM.2 r k a t n hr).1) (kk B hM hs)
theorem m_aI {f : Nat → Int32} {A : Nat → Nat → Int32} {a ad k n r : Nat} {ix x : Int32} {g : Nat → Int32} (hr : mTab[r]? = some (k, a, 13, n)) (had : 1482 + a = ad) (hc : tm_cd j 12 nL ini ret code) (hl : code.lookup pc = some (.iaload, 1)) (hp : pc + 1 = pc') (hg : A a = g) (hin : vp_in ix n) (hx : g ix.toNatClampNeg = x) (kk : mg sc d j pc' lv (.int x :: st) (f, A) Q) : mg sc d j pc lv (.int ix :: .ref ad :: st) (f, A) Q := fun B hM hs => by
  obtain ⟨-, h1, h2, h3⟩ := hM.2 r k a 13 n hr
  subst had
  refine g_aI hc hl hp h1 h2 (by rw [h3]; exact hin) ?_ (kk B hM hs)
  have e2 : bm_AI B (1482 + a) = A a := congrArg (fun q : MS => q.2 a) hs
  rw [e2, hg]
  exact hx
theorem m_bI {f : Nat → Int32} {A : Nat → Nat → Int32} {a ad k n r : Nat} {ix x : Int32} {g : Nat → Int32} (hr : mTab[r]? = some (k, a, 14, n)) (had : 1482 + a = ad) (hc : tm_cd j 12 nL ini ret code) (hl : code.lookup pc = some (.baload, 1)) (hp : pc + 1 = pc') (hg : A a = g) (hin : vp_in ix n) (hx : g ix.toNatClampNeg = x) (kk : mg sc d j pc' lv (.int x :: st) (f, A) Q) : mg sc d j pc lv (.int ix :: .ref ad :: st) (f, A) Q := fun B hM hs => by
  obtain ⟨-, h1, h2, h3⟩ := hM.2 r k a 14 n hr
  subst had
  refine g_bI hc hl hp h1 h2 (by rw [h3]; exact hin) ?_ (kk B hM hs)
  have e2 : bm_AI B (1482 + a) = A a := congrArg (fun q : MS => q.2 a) hs
  rw [e2, hg]
  exact hx
theorem m_al {f : Nat → Int32} {A : Nat → Nat → Int32} {a ad k t n r : Nat} {x : Int32} (hr : mTab[r]? = some (k, a, t, n)) (ht : t = 13 ∨ t = 14) (had : 1482 + a = ad) (hc : tm_cd j 12 nL ini ret code) (hl : code.lookup pc = some (.arraylength, 1)) (hp : pc + 1 = pc') (hx : nI n = x) (kk : mg sc d j pc' lv (.int x :: st) (f, A) Q) : mg sc d j pc lv (.ref ad :: st) (f, A) Q := fun B hM hs => by
  obtain ⟨-, h1, h2, h3⟩ := hM.2 r k a t n hr
  subst had
  exact g_al hc hl hp h1 (by omega) (by omega) (by rw [h3]; exact hx) (kk B hM hs)
theorem mTab_lt {r k a t n : Nat} (hr : mTab[r]? = some (k, a, t, n)) : 0 < a ∧ a < 47 := by
  have h : mTab.all (fun q => decide (0 < q.2.1 ∧ q.2.1 < 47)) = true := by decide
  have := List.all_eq_true.mp h _ (List.mem_of_getElem? hr)
  exact of_decide_eq_true this
/-- a write to an array -/
theorem MoS_set {B : bm_H} (h : MoS B) (a i : Nat) (v : Int32) : MoS (bm_setI B a i v) := h
theorem mS_set {B : bm_H} {a i : Nat} {v : Int32} {s : MS} {g : Nat → Int32} (hs : mS B = s) (hg : s.2 a = g) : mS (bm_setI B (1482 + a) i v) = (s.1, fset s.2 a (upd g i v)) := by
  subst hs; subst hg
  refine Prod.ext rfl (funext fun a' => funext fun i' => ?_)
  show (if 1482 + a' = 1482 + a ∧ i' = i then v else bm_AI B (1482 + a') i') = fset (mS B).2 a (upd ((mS B).2 a) i v) a' i'
  unfold fset
  by_cases e : a' = a
  · subst e
    rw [if_pos rfl]
    show _ = if i' = i then v else _
    by_cases e2 : i' = i
    · rw [if_pos ⟨rfl, e2⟩, if_pos e2]
    · rw [if_neg (fun q => e2 q.2), if_neg e2]; rfl
  · rw [if_neg (fun q => e (by omega)), if_neg e]; rfl
theorem m_aS {f : Nat → Int32} {A : Nat → Nat → Int32} {a ad k n r : Nat} {ix x : Int32} {g : Nat → Int32} {p : Nat} (hr : mTab[r]? = some (k, a, 13, n)) (had : 1482 + a = ad) (hc : tm_cd j 12 nL ini ret code) (hl : code.lookup pc = some (.iastore, 1)) (hp : pc + 1 = pc') (hg : A a = g) (hin : vp_in ix n) (hx : ix.toNatClampNeg = p) (kk : mg sc d j pc' lv st (f, fset A a (upd g p x)) Q) : mg sc d j pc lv (.int x :: .int ix :: .ref ad :: st) (f, A) Q := fun B hM hs => by
  obtain ⟨-, h1, h2, h3⟩ := hM.2 r k a 13 n hr
  have hlt := mTab_lt hr
  subst had; subst hx
  refine g_iast hc hl hp h1 h2 (by rw [h3]; exact hin) ?_
  have hz : fz mX B (bm_setI B (1482 + a) ix.toNatClampNeg x) := ⟨fr_mono (fun y q => by unfold mX; omega) (fr_setI _ _ _ _), rfl, rfl⟩
  exact g_mono (fun r B' q => ⟨mF_trans ⟨hz, MoS_set hM _ _ _⟩ q.1, q.2⟩) (kk _ (MoS_set hM _ _ _) (mS_set (s := (f, A)) hs hg))
theorem m_bS {f : Nat → Int32} {A : Nat → Nat → Int32} {a ad k n r : Nat} {ix x : Int32} {g : Nat → Int32} {p : Nat} (hr : mTab[r]? = some (k, a, 14, n)) (had : 1482 + a = ad) (hc : tm_cd j 12 nL ini ret code) (hl : code.lookup pc = some (.bastore, 1)) (hp : pc + 1 = pc') (hg : A a = g) (hin : vp_in ix n) (hx : ix.toNatClampNeg = p) (hv : vp_nar .boolean x = x) (kk : mg sc d j pc' lv st (f, fset A a (upd g p x)) Q) : mg sc d j pc lv (.int x :: .int ix :: .ref ad :: st) (f, A) Q := fun B hM hs => by
  obtain ⟨-, h1, h2, h3⟩ := hM.2 r k a 14 n hr
  have hlt := mTab_lt hr
  subst had; subst hx
  refine g_bS hc hl hp h1 h2 (by rw [h3]; exact hin) hv ?_
  have hz : fz mX B (bm_setI B (1482 + a) ix.toNatClampNeg x) := ⟨fr_mono (fun y q => by unfold mX; omega) (fr_setI _ _ _ _), rfl, rfl⟩
  exact g_mono (fun r B' q => ⟨mF_trans ⟨hz, MoS_set hM _ _ _⟩ q.1, q.2⟩) (kk _ (MoS_set hM _ _ _) (mS_set (s := (f, A)) hs hg))
theorem mS_put {B : bm_H} {k : Nat} {v : Int32} {s : MS} (hs : mS B = s) : mS (bm_putI B 12 k 1482 v) = (fset s.1 k v, s.2) := by
  subst hs
  refine Prod.ext (funext fun k' => ?_) rfl
  show (if 12 = 12 ∧ k' = k ∧ 1482 = 1482 then v else bm_FI B 12 k' 1482) = fset (mS B).1 k v k'
  unfold fset
  by_cases e : k' = k
  · rw [if_pos ⟨rfl, e, rfl⟩, if_pos e]
  · rw [if_neg (fun q => e q.2.1), if_neg e]; rfl
theorem m_pI {f : Nat → Int32} {A : Nat → Nat → Int32} {ix k ne po : Nat} {v : Int32} {ty : FieldType} (hc : tm_cd j 12 nL ini ret code) (hl : code.lookup pc = some (.putfield ix, 3)) (hf : tm_fldR 12 ix = some (12, ix, 12, k, ne, po)) (hty : tm_ftyOf 12 k = some ty) (hi : bm_isI ty = true) (hok : tm_okV ty (.int v) = true) (hfin : tm_fin 12 k = false) (hp : pc + 3 = pc') (kk : mg sc d j pc' lv st (fset f k v, A) Q) : mg sc d j pc lv (.int v :: .ref 1482 :: st) (f, A) Q := fun B hM hs => by
  refine g_putI hc hl hf hty hi hok (Or.inl hfin) hp (by decide) hM.1.1 hM.1.2 ?_
  have hz : fz mX B (bm_putI B 12 k 1482 v) := ⟨fr_mono (fun y q => by unfold mX; omega) (fr_putI _ _ _ _ _), rfl, rfl⟩
  exact g_mono (fun r B' q => ⟨mF_trans ⟨hz, hM⟩ q.1, q.2⟩) (kk _ hM (mS_put (s := (f, A)) hs))
/-- calls -/
theorem m_callV {ix j' n x1 x2 x3 x4 x5 nL' : Nat} {as : List Value} {ini' : Bool} {ret' : Option FieldType} {code' : List (Nat × Instr × Nat)} {R : Option Value → MS → Prop} (hc : tm_cd j 12 nL ini ret code) (hl : code.lookup pc = some (.invokevirtual ix, 3)) (hr : tm_retOk ret (.invokevirtual ix) st = none) (hp : pc + 3 = pc') (hcall : tm_callR 12 ix = some (12, ix, 0, j', n, x1, x2, x3, x4, x5)) (hpop : tm_pop n st = some (as, .ref 1482 :: rest)) (hc' : tm_cd j' 12 nL' ini' ret' code') (hre : tm_rest rest = true) (hal : as.length + 1 ≤ nL') (hk : mg sc d j' 0 (tm_ent (.ref 1482 :: as)) [] s R) (kk : ∀ v s', R v s' → mg sc (d + 1) j pc' lv (v.toList ++ rest) s' Q) : mg sc (d + 1) j pc lv st s Q := fun B hM hs => by
  refine g_call hc hl hr rfl ?_ (tm_invV hcall hpop hc' hre hal (by decide) hM.1.1 hM.1.2) hp (g_mono (fun v B1 q => ?_) (hk B hM hs))
  · simp only [tm_nat]
  · exact g_mono (fun r B' q2 => ⟨mF_trans q.1 q2.1, q2.2⟩) (kk v (mS B1) q.2 B1 q.1.2 rfl)
theorem m_callS {ix j' n x1 x2 x3 x4 x5 nL' o' : Nat} {as : List Value} {ini' : Bool} {ret' : Option FieldType} {code' : List (Nat × Instr × Nat)} {R : Option Value → MS → Prop} (hc : tm_cd j 12 nL ini ret code) (hl : code.lookup pc = some (.invokestatic ix, 3)) (hr : tm_retOk ret (.invokestatic ix) st = none) (hp : pc + 3 = pc') (hcall : tm_callR 12 ix = some (12, ix, 2, j', n, x1, x2, x3, x4, x5)) (hpop : tm_pop n st = some (as, rest)) (hc' : tm_cd j' o' nL' ini' ret' code') (hre : tm_rest rest = true) (hal : as.length ≤ nL') (hk : mg sc d j' 0 (tm_ent as) [] s R) (kk : ∀ v s', R v s' → mg sc (d + 1) j pc' lv (v.toList ++ rest) s' Q) : mg sc (d + 1) j pc lv st s Q := fun B hM hs => by
  refine g_call hc hl hr rfl ?_ (tm_invS hcall hpop hc' hre hal) hp (g_mono (fun v B1 q => ?_) (hk B hM hs))
  · cases st <;> simp only [tm_nat, hcall]
  · exact g_mono (fun r B' q2 => ⟨mF_trans q.1 q2.1, q2.2⟩) (kk v (mS B1) q.2 B1 q.1.2 rfl)
theorem m_ci {ix j' n x1 x2 x3 x4 x5 nL' : Nat} {as : List Value} {ini' : Bool} {ret' : Option FieldType} {code' : List (Nat × Instr × Nat)} (hc : tm_cd j 12 nL ini ret code) (hl : code.lookup pc = some (.invokevirtual ix, 3)) (hr : tm_retOk ret (.invokevirtual ix) st = none) (hp : pc + 3 = pc') (hcall : tm_callR 12 ix = some (12, ix, 0, j', n, x1, x2, x3, x4, x5)) (hpop : tm_pop n st = some (as, .ref 1482 :: rest)) (hc' : tm_cd j' 12 nL' ini' ret' code') (hre : tm_rest rest = true) (hal : as.length + 1 ≤ nL') (kk : mGi sc d j' (.ref 1482 :: as) s (fun x s' => mg sc (d + 1) j pc' lv (.int x :: rest) s' Q)) : mg sc (d + 1) j pc lv st s Q := m_callV hc hl hr hp hcall hpop hc' hre hal kk (fun v s' q => by obtain ⟨x, rfl, q⟩ := q; exact q)
theorem m_cv {ix j' n x1 x2 x3 x4 x5 nL' : Nat} {as : List Value} {ini' : Bool} {ret' : Option FieldType} {code' : List (Nat × Instr × Nat)} (hc : tm_cd j 12 nL ini ret code) (hl : code.lookup pc = some (.invokevirtual ix, 3)) (hr : tm_retOk ret (.invokevirtual ix) st = none) (hp : pc + 3 = pc') (hcall : tm_callR 12 ix = some (12, ix, 0, j', n, x1, x2, x3, x4, x5)) (hpop : tm_pop n st = some (as, .ref 1482 :: rest)) (hc' : tm_cd j' 12 nL' ini' ret' code') (hre : tm_rest rest = true) (hal : as.length + 1 ≤ nL') (kk : mGv sc d j' (.ref 1482 :: as) s (fun s' => mg sc (d + 1) j pc' lv rest s' Q)) : mg sc (d + 1) j pc lv st s Q := m_callV hc hl hr hp hcall hpop hc' hre hal kk (fun v s' q => by obtain ⟨rfl, q⟩ := q; exact q)
theorem m_si {ix j' n x1 x2 x3 x4 x5 nL' o' : Nat} {as : List Value} {ini' : Bool} {ret' : Option FieldType} {code' : List (Nat × Instr × Nat)} (hc : tm_cd j 12 nL ini ret code) (hl : code.lookup pc = some (.invokestatic ix, 3)) (hr : tm_retOk ret (.invokestatic ix) st = none) (hp : pc + 3 = pc') (hcall : tm_callR 12 ix = some (12, ix, 2, j', n, x1, x2, x3, x4, x5)) (hpop : tm_pop n st = some (as, rest)) (hc' : tm_cd j' o' nL' ini' ret' code') (hre : tm_rest rest = true) (hal : as.length ≤ nL') (kk : mGi sc d j' as s (fun x s' => mg sc (d + 1) j pc' lv (.int x :: rest) s' Q)) : mg sc (d + 1) j pc lv st s Q := m_callS hc hl hr hp hcall hpop hc' hre hal kk (fun v s' q => by obtain ⟨x, rfl, q⟩ := q; exact q)
end MR
