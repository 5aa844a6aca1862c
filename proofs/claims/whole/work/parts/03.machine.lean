/-! A SMALL MACHINE over numbered cells: cell k lies at the machine's address z + k; a reference to the script is .retAddr 0 here. It fetches with the model's own decode out of the claim's own code. -/
/-- a cell: an array of ints or booleans (its type, length, contents), an array of references, an object (its class, its fields) -/
abbrev tm_E : Type := (Nat × Nat × (Nat → Int32)) ⊕ (Nat × Nat × (Nat → Option Nat)) ⊕ (Nat × List Value)
/-- cells made, slots made, contents -/
abbrev tm_H : Type := Nat × Nat × (Nat → tm_E)
abbrev tm_L : Type := List (Nat × Value)
/-- pc, locals, operand stack, heap -/
abbrev tm_S : Type := Nat × tm_L × List Value × tm_H
/-- the script: length, contents -/
abbrev tm_X : Type := Nat × (Nat → Int32)
def tm_get (h : tm_H) (k : Nat) : Option tm_E := if k < h.1 then some (h.2.2 k) else none
def tm_put (h : tm_H) (k : Nat) (e : tm_E) : tm_H := (h.1, h.2.1, va_up h.2.2 k e)
def tm_add (h : tm_H) (n : Nat) (e : tm_E) : tm_H := (h.1 + 1, h.2.1 + n, va_up h.2.2 h.1 e)
def tm_tgt (pc : Nat) (off : Int) : Option Nat := if 0 ≤ (pc : Int) + off then some ((pc : Int) + off).toNat else none
def tm_cmp (c : Jvm.ClassFile.Cond) (x y : Int32) : Bool := match c with
  | .eq => decide (x = y)
  | .ne => decide (¬ x = y)
  | .lt => decide (x < y)
  | .ge => decide (y ≤ x)
  | .gt => decide (y < x)
  | .le => decide (x ≤ y)
def tm_lset (lv : tm_L) (i : Nat) (v : Value) : tm_L := (i, v) :: lv.filter (fun q => !(q.1 == i) && !(q.1 + 1 == i && q.2.category == 2))
def tm_inB (i : Int32) (n : Nat) : Bool := decide (¬ (i < 0 ∨ n ≤ i.toNatClampNeg))
def tm_isR : Value → Bool
  | .ref _ => true
  | .null => true
  | .retAddr _ => true
  | _ => false
def tm_ild (w i pc : Nat) (lv : tm_L) (st : List Value) (h : tm_H) : Option tm_S := match lv.lookup i with
  | some (.int x) => some (pc + w, lv, .int x :: st, h)
  | _ => none
def tm_ald (w i pc : Nat) (lv : tm_L) (st : List Value) (h : tm_H) : Option tm_S := match lv.lookup i with
  | some v => if tm_isR v = true then some (pc + w, lv, v :: st, h) else none
  | _ => none
def tm_ist (w i pc nL : Nat) (lv : tm_L) (st : List Value) (h : tm_H) : Option tm_S := match st with
  | .int x :: r => if i < nL then some (pc + w, tm_lset lv i (.int x), r, h) else none
  | _ => none
def tm_ast (w i pc nL : Nat) (lv : tm_L) (st : List Value) (h : tm_H) : Option tm_S := match st with
  | v :: r => if tm_isR v = true ∧ i < nL then some (pc + w, tm_lset lv i v, r, h) else none
  | _ => none
def tm_bin (f : Int32 → Int32 → Int32) (pc : Nat) (lv : tm_L) (st : List Value) (h : tm_H) : Option tm_S := match st with
  | .int y :: .int x :: r => some (pc + 1, lv, .int (f x y) :: r, h)
  | _ => none
def tm_div (f : Int32 → Int32 → Int32) (pc : Nat) (lv : tm_L) (st : List Value) (h : tm_H) : Option tm_S := match st with
  | .int y :: .int x :: r => if y = 0 then none else some (pc + 1, lv, .int (f x y) :: r, h)
  | _ => none
def tm_iinc (i : Nat) (n : Int) (pc nL : Nat) (lv : tm_L) (st : List Value) (h : tm_H) : Option tm_S := match lv.lookup i with
  | some (.int x) => if i < nL then some (pc + 3, tm_lset lv i (.int (x + Int32.ofInt n)), st, h) else none
  | _ => none
def tm_if1 (c : Jvm.ClassFile.Cond) (off : Int) (pc : Nat) (lv : tm_L) (st : List Value) (h : tm_H) : Option tm_S := match st with
  | .int x :: r => (tm_tgt pc off).map fun t => (if tm_cmp c x 0 = true then t else pc + 3, lv, r, h)
  | _ => none
def tm_if2 (c : Jvm.ClassFile.Cond) (off : Int) (pc : Nat) (lv : tm_L) (st : List Value) (h : tm_H) : Option tm_S := match st with
  | .int y :: .int x :: r => (tm_tgt pc off).map fun t => (if tm_cmp c x y = true then t else pc + 3, lv, r, h)
  | _ => none
def tm_ifnull (b : Bool) (off : Int) (pc : Nat) (lv : tm_L) (st : List Value) (h : tm_H) : Option tm_S := match st with
  | .null :: r => (tm_tgt pc off).map fun t => (if b = true then t else pc + 3, lv, r, h)
  | .ref _ :: r => (tm_tgt pc off).map fun t => (if b = true then pc + 3 else t, lv, r, h)
  | _ => none
def tm_rfOf : Value → Option (Option Nat)
  | .null => some none
  | .ref k => some (some k)
  | _ => none
def tm_acmp (c : Jvm.ClassFile.ACond) (off : Int) (pc : Nat) (lv : tm_L) (st : List Value) (h : tm_H) : Option tm_S := match st with
  | y :: x :: r => match tm_rfOf y, tm_rfOf x, tm_tgt pc off with
    | some ry, some rx, some t => some (if decide (rx = ry) = (match c with | .eq => true | .ne => false) then t else pc + 3, lv, r, h)
    | _, _, _ => none
  | _ => none
def tm_switch (dflt lo hi : Int) (offs : Array Int) (pc : Nat) (lv : tm_L) (st : List Value) (h : tm_H) : Option tm_S := match st with
  | .int x :: r => if x.toInt < lo ∨ hi < x.toInt then (tm_tgt pc dflt).map fun t => (t, lv, r, h) else match offs[(x.toInt - lo).toNat]? with
    | some off => (tm_tgt pc off).map fun t => (t, lv, r, h)
    | none => none
  | _ => none
def tm_fldR (o i : Nat) : Option (Nat × Nat × Nat × Nat × Nat × Nat) := tm_flds.find? (fun r => r.1 == o && r.2.1 == i)
def tm_getf (o i pc : Nat) (lv : tm_L) (st : List Value) (h : tm_H) : Option tm_S := match st with
  | .ref a :: r => match tm_fldR o i, tm_get h a with
    | some (_, _, ci, k, _), some (.inr (.inr (cj, fs))) => if ci = cj then (fs[k]?).map fun v => (pc + 3, lv, v :: r, h) else none
    | _, _ => none
  | _ => none
def tm_ftyOf (ci k : Nat) : Option FieldType := (tm_fty[ci]?).bind fun l => l[k]?
def tm_fin (ci k : Nat) : Bool := match tm_cl[ci]? with
  | some q => (q.2.1 k).2.2.2
  | none => true
/-- what a field or a method's answer of a type takes as it is -/
def tm_okV (ty : FieldType) (v : Value) : Bool := decide (narrow ty v = v) && fits ty v
def tm_putf (o i pc : Nat) (ini : Bool) (lv : tm_L) (st : List Value) (h : tm_H) : Option tm_S := match st with
  | v :: .ref a :: r => match tm_fldR o i, tm_get h a with
    | some (_, _, ci, k, nest, _), some (.inr (.inr (cj, fs))) => match tm_ftyOf ci k with
      | some ty => if ci = cj ∧ tm_okV ty v = true ∧ k < fs.length ∧ (tm_fin ci k = false ∨ (tm_fin ci k = true ∧ ini = true ∧ nest = 0 ∧ o = ci)) then some (pc + 3, lv, r, tm_put h a (.inr (.inr (cj, fs.set k v)))) else none
      | none => none
    | _, _ => none
  | _ => none
def tm_iald (t : Nat) (sc : tm_X) (pc : Nat) (lv : tm_L) (st : List Value) (h : tm_H) : Option tm_S := match st with
  | .int i :: .ref a :: r => match tm_get h a with
    | some (.inl (u, n, f)) => if u = t ∧ tm_inB i n = true then some (pc + 1, lv, .int (f i.toNatClampNeg) :: r, h) else none
    | _ => none
  | .int i :: .retAddr _ :: r => if t = 0 ∧ tm_inB i sc.1 = true then some (pc + 1, lv, .int (sc.2 i.toNatClampNeg) :: r, h) else none
  | _ => none
def tm_iast (t : Nat) (pc : Nat) (lv : tm_L) (st : List Value) (h : tm_H) : Option tm_S := match st with
  | .int x :: .int i :: .ref a :: r => match tm_get h a with
    | some (.inl (u, n, f)) => if u = t ∧ tm_inB i n = true then some (pc + 1, lv, r, tm_put h a (.inl (u, n, upd f i.toNatClampNeg (if t = 0 then x else vp_nar .boolean x)))) else none
    | _ => none
  | _ => none
def tm_aald (pc : Nat) (lv : tm_L) (st : List Value) (h : tm_H) : Option tm_S := match st with
  | .int i :: .ref a :: r => match tm_get h a with
    | some (.inr (.inl (u, n, f))) => match tm_tys[u]? with
      | some ty => if refKind ty = true ∧ tm_inB i n = true then some (pc + 1, lv, va_rf (f i.toNatClampNeg) :: r, h) else none
      | none => none
    | _ => none
  | _ => none
def tm_aast (pc : Nat) (lv : tm_L) (st : List Value) (h : tm_H) : Option tm_S := match st with
  | .ref v :: .int i :: .ref a :: r => match tm_get h a, tm_get h v with
    | some (.inr (.inl (u, n, f))), some (.inr (.inr (cj, _))) => match tm_tys[u]?, tm_cl[cj]? with
      | some (.object C), some q => if C = q.1 ∧ tm_inB i n = true then some (pc + 1, lv, r, tm_put h a (.inr (.inl (u, n, va_up f i.toNatClampNeg (some v))))) else none
      | _, _ => none
    | _, _ => none
  | _ => none
def tm_alen (sc : tm_X) (pc : Nat) (lv : tm_L) (st : List Value) (h : tm_H) : Option tm_S := match st with
  | .ref a :: r => match tm_get h a with
    | some (.inl (u, n, _)) => if u < 9 then some (pc + 1, lv, .int (Int32.ofNat n) :: r, h) else none
    | some (.inr (.inl (u, n, _))) => if u < 9 then some (pc + 1, lv, .int (Int32.ofNat n) :: r, h) else none
    | _ => none
  | .retAddr _ :: r => some (pc + 1, lv, .int (Int32.ofNat sc.1) :: r, h)
  | _ => none
def tm_newR (o i : Nat) : Option (Nat × Nat × Nat × Nat × Nat × Nat) := tm_news.find? (fun r => r.1 == o && r.2.1 == i)
def tm_def (ty : FieldType) : Value := match ty with
  | .int => .int 0
  | .boolean => .int 0
  | _ => .null
def tm_new (o i pc : Nat) (lv : tm_L) (st : List Value) (h : tm_H) : Option tm_S := match tm_newR o i with
  | some (_, _, ci, _) => match tm_fty[ci]? with
    | some l => some (pc + 3, lv, .ref h.1 :: st, tm_add h l.length (.inr (.inr (ci, l.map tm_def))))
    | none => none
  | none => none
def tm_newa (t : Nat) (pc : Nat) (lv : tm_L) (st : List Value) (h : tm_H) : Option tm_S := match st with
  | .int n :: r => if ¬ n < 0 ∧ n.toNatClampNeg * 4 ≤ 536870912 then some (pc + 2, lv, .ref h.1 :: r, tm_add h n.toNatClampNeg (.inl (t, n.toNatClampNeg, fun _ => 0))) else none
  | _ => none
def tm_anew (o i pc : Nat) (lv : tm_L) (st : List Value) (h : tm_H) : Option tm_S := match st with
  | .int n :: r => match tm_newR o i with
    | some (_, _, ci, _) => match tm_cl[ci]? with
      | some q => match tm_tys.findIdx? (fun ty => decide (ty = .object q.1)) with
        | some t => if ¬ n < 0 ∧ n.toNatClampNeg * 4 ≤ 536870912 then some (pc + 3, lv, .ref h.1 :: r, tm_add h n.toNatClampNeg (.inr (.inl (t, n.toNatClampNeg, fun _ => none)))) else none
        | none => none
      | none => none
    | none => none
  | _ => none
/-- new int[n][k]: the outer array, then its n rows -/
def tm_rows (k : Nat) : Nat → tm_H → tm_H
  | 0, h => h
  | n + 1, h => tm_add (tm_rows k n h) k (.inl (0, k, fun _ => 0))
def tm_mnew (o i d pc : Nat) (lv : tm_L) (st : List Value) (h : tm_H) : Option tm_S := match st with
  | .int k :: .int n :: r => if o = 8 ∧ i = 9 ∧ d = 2 ∧ ¬ n < 0 ∧ ¬ k < 0 ∧ n.toNatClampNeg * 4 ≤ 536870912 ∧ k.toNatClampNeg * 4 ≤ 536870912 then
      some (pc + 4, lv, .ref h.1 :: r, tm_rows k.toNatClampNeg n.toNatClampNeg (tm_add h n.toNatClampNeg (.inr (.inl (8, n.toNatClampNeg, fun j => if j < n.toNatClampNeg then some (h.1 + 1 + j) else none))))) else none
  | _ => none
def tm_cst (o i : Nat) : Option Int32 := (tm_csts.find? (fun r => r.1 == o && r.2.1 == i)).map fun r => r.2.2.1
/-- one instruction that neither calls nor returns -/
def tm_step (sc : tm_X) (o nL : Nat) (ini : Bool) (i : Instr) (len pc : Nat) (lv : tm_L) (st : List Value) (h : tm_H) : Option tm_S := match i with
  | .iconst n => if len = 1 then some (pc + 1, lv, .int (Int32.ofInt n) :: st, h) else none
  | .bipush n => if len = 2 then some (pc + 2, lv, .int (Int8.ofInt n).toInt32 :: st, h) else none
  | .sipush n => if len = 3 then some (pc + 3, lv, .int (Int16.ofInt n).toInt32 :: st, h) else none
  | .ldc x => if len = 2 then (tm_cst o x).map fun v => (pc + 2, lv, .int v :: st, h) else none
  | .ldc_w x => if len = 3 then (tm_cst o x).map fun v => (pc + 3, lv, .int v :: st, h) else none
  | .aconst_null => if len = 1 then some (pc + 1, lv, .null :: st, h) else none
  | .iload_n k => if len = 1 then tm_ild 1 k pc lv st h else none
  | .iload k => if len = 2 then tm_ild 2 k pc lv st h else none
  | .aload_n k => if len = 1 then tm_ald 1 k pc lv st h else none
  | .aload k => if len = 2 then tm_ald 2 k pc lv st h else none
  | .istore_n k => if len = 1 then tm_ist 1 k pc nL lv st h else none
  | .istore k => if len = 2 then tm_ist 2 k pc nL lv st h else none
  | .astore_n k => if len = 1 then tm_ast 1 k pc nL lv st h else none
  | .astore k => if len = 2 then tm_ast 2 k pc nL lv st h else none
  | .iinc k n => if len = 3 then tm_iinc k n pc nL lv st h else none
  | .iadd => if len = 1 then tm_bin (fun x y => x + y) pc lv st h else none
  | .isub => if len = 1 then tm_bin (fun x y => x - y) pc lv st h else none
  | .imul => if len = 1 then tm_bin (fun x y => x * y) pc lv st h else none
  | .iand => if len = 1 then tm_bin (fun x y => x &&& y) pc lv st h else none
  | .ior => if len = 1 then tm_bin (fun x y => x ||| y) pc lv st h else none
  | .ixor => if len = 1 then tm_bin (fun x y => x ^^^ y) pc lv st h else none
  | .ishl => if len = 1 then tm_bin (fun x y => x <<< (y &&& 31)) pc lv st h else none
  | .ishr => if len = 1 then tm_bin (fun x y => x >>> (y &&& 31)) pc lv st h else none
  | .iushr => if len = 1 then tm_bin (fun x y => (x.toUInt32 >>> (y.toUInt32 &&& Int32.toUInt32 31)).toInt32) pc lv st h else none
  | .idiv => if len = 1 then tm_div (fun x y => x / y) pc lv st h else none
  | .irem => if len = 1 then tm_div (fun x y => x - x / y * y) pc lv st h else none
  | .dup => match st with
    | v :: r => if len = 1 ∧ v.category = 1 then some (pc + 1, lv, v :: v :: r, h) else none
    | _ => none
  | .pop => match st with
    | v :: r => if len = 1 ∧ v.category = 1 then some (pc + 1, lv, r, h) else none
    | _ => none
  | .dup_x1 => match st with
    | v :: w :: r => if len = 1 ∧ v.category = 1 ∧ w.category = 1 then some (pc + 1, lv, v :: w :: v :: r, h) else none
    | _ => none
  | .dup2 => match st with
    | v :: w :: r => if len = 1 ∧ v.category = 1 ∧ w.category = 1 then some (pc + 1, lv, v :: w :: v :: w :: r, h) else none
    | _ => none
  | .ifCond c off => if len = 3 then tm_if1 c off pc lv st h else none
  | .if_icmp c off => if len = 3 then tm_if2 c off pc lv st h else none
  | .if_acmp c off => if len = 3 then tm_acmp c off pc lv st h else none
  | .ifnull off => if len = 3 then tm_ifnull true off pc lv st h else none
  | .ifnonnull off => if len = 3 then tm_ifnull false off pc lv st h else none
  | .goto off => if len = 3 then (tm_tgt pc off).map fun t => (t, lv, st, h) else none
  | .tableswitch dflt lo hi offs => tm_switch dflt lo hi offs pc lv st h
  | .getfield x => if len = 3 then tm_getf o x pc lv st h else none
  | .putfield x => if len = 3 then tm_putf o x pc ini lv st h else none
  | .iaload => if len = 1 then tm_iald 0 sc pc lv st h else none
  | .baload => if len = 1 then tm_iald 1 sc pc lv st h else none
  | .iastore => if len = 1 then tm_iast 0 pc lv st h else none
  | .bastore => if len = 1 then tm_iast 1 pc lv st h else none
  | .aaload => if len = 1 then tm_aald pc lv st h else none
  | .aastore => if len = 1 then tm_aast pc lv st h else none
  | .arraylength => if len = 1 then tm_alen sc pc lv st h else none
  | .new x => if len = 3 then tm_new o x pc lv st h else none
  | .newarray .int => if len = 2 then tm_newa 0 pc lv st h else none
  | .newarray .boolean => if len = 2 then tm_newa 1 pc lv st h else none
  | .anewarray x => if len = 3 then tm_anew o x pc lv st h else none
  | .multianewarray x d => if len = 4 then tm_mnew o x d pc lv st h else none
  | _ => none
def tm_callR (o i : Nat) : Option tm_CT := tm_calls.find? (fun r => r.1 == o && r.2.1 == i)
/-- the locals that a method begins with -/
def tm_ent (args : List Value) : tm_L := lv_args 0 args
def tm_retOk (ret : Option FieldType) (i : Instr) (st : List Value) : Option (Option Value) := match i, st, ret with
  | .ireturn, [.int v], some ty => if narrow ty (.int v) = .int v then some (some (.int v)) else none
  | .areturn, [v], some (.object _) => if v = .null ∨ (tm_rfOf v).isSome = true then some (some v) else none
  | .areturn, [v], some (.array _) => if v = .null ∨ (tm_rfOf v).isSome = true then some (some v) else none
  | .return_, [], none => some none
  | _, _, _ => none
def tm_rest (r : List Value) : Bool := decide ((r.map fun v => v.category).sum ≤ 16)
/-- System.arraycopy between int arrays -/
def tm_copy (pc : Nat) (lv : tm_L) (st : List Value) (h : tm_H) : Option tm_S := match st with
  | .int n :: .int dp :: .ref a1 :: .int sp :: .ref a0 :: r => match tm_get h a0, tm_get h a1 with
    | some (.inl (0, n0, f)), some (.inl (0, n1, g)) => if ¬ sp < 0 ∧ ¬ dp < 0 ∧ ¬ n < 0 ∧ sp.toNatClampNeg + n.toNatClampNeg ≤ n0 ∧ dp.toNatClampNeg + n.toNatClampNeg ≤ n1 ∧ tm_rest r = true then some (pc + 3, lv, r, tm_put h a1 (.inl (0, n1, va_cpy f g sp.toNatClampNeg dp.toNatClampNeg n.toNatClampNeg))) else none
    | _, _ => none
  | _ => none
/-- Math.min, Math.max -/
def tm_mm (f : Int32 → Int32 → Int32) (pc : Nat) (lv : tm_L) (st : List Value) (h : tm_H) : Option tm_S := match st with
  | .int y :: .int x :: r => if tm_rest r = true then some (pc + 3, lv, .int (f x y) :: r, h) else none
  | _ => none
def tm_pop : Nat → List Value → Option (List Value × List Value)
  | 0, st => some ([], st)
  | n + 1, v :: st => if v.category = 1 then (tm_pop n st).map fun q => (q.1 ++ [v], q.2) else none
  | _ + 1, [] => none
/-- what an invocation takes from the stack: the method, its arguments (the receiver first), the rest; whether it is Object's constructor or arraycopy -/
def tm_inv (o : Nat) (i : Instr) (st : List Value) (h : tm_H) : Option (Nat × List Value × List Value) := match i with
  | .invokevirtual x => match tm_callR o x with
    | some (_, _, 0, j, n, _) => match tm_pop n st with
      | some (as, .ref a :: r) => match tm_get h a, tm_Ms[j]? with
        | some (.inr (.inr (ci, _))), some M => if ci = M.2.2.2.2 ∧ tm_rest r = true ∧ as.length + 1 ≤ M.2.2.1 then some (j, .ref a :: as, r) else none
        | _, _ => none
      | _ => none
    | _ => none
  | .invokespecial x => match tm_callR o x with
    | some (_, _, 1, j, n, _) => match tm_pop n st with
      | some (as, .ref a :: r) => match tm_Ms[j]? with
        | some M => if tm_rest r = true ∧ as.length + 1 ≤ M.2.2.1 then some (j, .ref a :: as, r) else none
        | none => none
      | _ => none
    | _ => none
  | .invokestatic x => match tm_callR o x with
    | some (_, _, 2, j, n, _) => match tm_pop n st with
      | some (as, r) => match tm_Ms[j]? with
        | some M => if tm_rest r = true ∧ as.length ≤ M.2.2.1 then some (j, as, r) else none
        | none => none
      | _ => none
    | _ => none
  | _ => none
/-- calls without a frame of ours: Object's constructor, arraycopy -/
def tm_nat (o : Nat) (i : Instr) (pc : Nat) (lv : tm_L) (st : List Value) (h : tm_H) : Option tm_S := match i with
  | .invokespecial x => match tm_callR o x, st with
    | some (_, _, 3, _), .ref _ :: r => if tm_rest r = true then some (pc + 3, lv, r, h) else none
    | _, _ => none
  | .invokestatic x => match tm_callR o x with
    | some (_, _, 4, _) => tm_copy pc lv st h
    | some (_, _, 5, _) => tm_mm (fun x y => if y < x then y else x) pc lv st h
    | some (_, _, 6, _) => tm_mm (fun x y => if x < y then y else x) pc lv st h
    | _ => none
  | _ => none
/-- THE RUN: fuel, depth, method, pc, locals, stack, heap; its answer and the heap behind it -/
def tm_run (sc : tm_X) : Nat → Nat → Nat → Nat → tm_L → List Value → tm_H → Option (Option Value × tm_H)
  | 0, _, _, _, _, _, _ => none
  | fuel + 1, d, j, pc, lv, st, h => match tm_Ms[j]? with
    | none => none
    | some M => match decode M.2.1 pc with
      | .error _ => none
      | .ok (i, len) => match tm_retOk M.2.2.2.1 i st with
        | some r => if len = 1 then some (r, h) else none
        | none => match tm_step sc M.2.2.2.2 M.2.2.1 (M.1.name == "<init>") i len pc lv st h with
          | some (pc', lv', st', h') => tm_run sc fuel d j pc' lv' st' h'
          | none => match d with
            | 0 => none
            | d' + 1 => if len = 3 then match tm_nat M.2.2.2.2 i pc lv st h with
                | some (pc', lv', st', h') => tm_run sc fuel (d' + 1) j pc' lv' st' h'
                | none => match tm_inv M.2.2.2.2 i st h with
                  | some (k, as, r) => match tm_run sc fuel d' k 0 (tm_ent as) [] h with
                    | some (v, h') => tm_run sc fuel (d' + 1) j (pc + 3) lv (v.toList ++ r) h'
                    | none => none
                  | none => none
              else none
