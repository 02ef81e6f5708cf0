/-! THE MINI MACHINE: a big-step evaluator over a list of cells. Addresses are places of the list; a String constant is 'retAddr k'. -/
abbrev mm_H : Type := List va_E × Bool × Nat × Nat
abbrev mm_L : Type := List (Nat × Value)
/-- what a step comes to: the next state | an end | a call (method, arguments, rest) | a throw (row of the table of exceptions) -/
abbrev mm_O : Type := (Nat × mm_L × List Value × mm_H) ⊕ (Option Value) ⊕ (Nat × List Value × List Value) ⊕ Nat
def mm_look (lv : mm_L) (i : Nat) : Option Value := (lv.find? (fun q => q.1 == i)).map (fun q => q.2)
def mm_st1 (lv : mm_L) (i : Nat) (v : Value) : mm_L := (i, v) :: lv.filter (fun q => !(q.1 == i) && !(q.1 + 1 == i && q.2.category == 2))
def mm_st2 (lv : mm_L) (i : Nat) (v : Value) : mm_L := (i, v) :: lv.filter (fun q => !(q.1 == i) && (!(q.1 == i + 1) && !(q.1 + 1 == i && q.2.category == 2)))
def mm_tgt (pc : Nat) (off : Int) : Option Nat := if 0 ≤ (pc : Int) + off then some ((pc : Int) + off).toNat else none
def mm_c1 (c : Jvm.ClassFile.Cond) (x : Int32) : Bool := match c with
  | .eq => decide (x = 0)
  | .ne => decide (¬ x = 0)
  | .lt => decide (x < 0)
  | .ge => decide (0 ≤ x)
  | .gt => decide (0 < x)
  | .le => decide (x ≤ 0)
def mm_c2 (c : Jvm.ClassFile.Cond) (x y : Int32) : Bool := match c with
  | .eq => decide (x = y)
  | .ne => decide (¬ x = y)
  | .lt => decide (x < y)
  | .ge => decide (y ≤ x)
  | .gt => decide (y < x)
  | .le => decide (x ≤ y)
def mm_i2 (f : Int32 → Int32 → Int32) (pc : Nat) (lv : mm_L) (st : List Value) (h : mm_H) : Option mm_O := match st with
  | .int y :: .int x :: r => some (.inl (pc + 1, lv, .int (f x y) :: r, h))
  | _ => none
def mm_l2 (f : Int64 → Int64 → Int64) (pc : Nat) (lv : mm_L) (st : List Value) (h : mm_H) : Option mm_O := match st with
  | .long y :: .long x :: r => some (.inl (pc + 1, lv, .long (f x y) :: r, h))
  | _ => none
def mm_push (k : Nat) (v : Value) (pc : Nat) (lv : mm_L) (st : List Value) (h : mm_H) : Option mm_O := some (.inl (pc + k, lv, v :: st, h))
def mm_ild (k i : Nat) (pc : Nat) (lv : mm_L) (st : List Value) (h : mm_H) : Option mm_O := match mm_look lv i with
  | some (.int x) => some (.inl (pc + k, lv, .int x :: st, h))
  | _ => none
def mm_lld (k i : Nat) (pc : Nat) (lv : mm_L) (st : List Value) (h : mm_H) : Option mm_O := match mm_look lv i with
  | some (.long x) => some (.inl (pc + k, lv, .long x :: st, h))
  | _ => none
def mm_ald (k i : Nat) (pc : Nat) (lv : mm_L) (st : List Value) (h : mm_H) : Option mm_O := match mm_look lv i with
  | some (.ref x) => some (.inl (pc + k, lv, .ref x :: st, h))
  | some (.retAddr x) => some (.inl (pc + k, lv, .retAddr x :: st, h))
  | _ => none
def mm_ist (nL k i : Nat) (pc : Nat) (lv : mm_L) (st : List Value) (h : mm_H) : Option mm_O := match st with
  | .int x :: r => if i < nL then some (.inl (pc + k, mm_st1 lv i (.int x), r, h)) else none
  | _ => none
def mm_ast (nL k i : Nat) (pc : Nat) (lv : mm_L) (st : List Value) (h : mm_H) : Option mm_O := match st with
  | .ref x :: r => if i < nL then some (.inl (pc + k, mm_st1 lv i (.ref x), r, h)) else none
  | _ => none
def mm_lst (nL k i : Nat) (pc : Nat) (lv : mm_L) (st : List Value) (h : mm_H) : Option mm_O := match st with
  | .long x :: r => if i + 1 < nL then some (.inl (pc + k, mm_st2 lv i (.long x), r, h)) else none
  | _ => none
def mm_jmp (t : Option Nat) (lv : mm_L) (st : List Value) (h : mm_H) : Option mm_O := match t with
  | some t => some (.inl (t, lv, st, h))
  | none => none
/-- may such a value lie in field k of class ci? -/
def mm_fitF (tys : Nat → Nat → FieldType) (ci k : Nat) (v : Value) : Bool := match tys ci k, v with
  | .int, .int _ => true
  | .boolean, .int x => decide (x = 0 ∨ x = 1)
  | .object _, .ref _ => true
  | .array _, .ref _ => true
  | _, _ => false
def mm_getf (ci k : Nat) (pc : Nat) (lv : mm_L) (st : List Value) (h : mm_H) : Option mm_O := match st with
  | .ref a :: r => match h.1[a]? with
    | some (.inr (c, fs)) => if c = ci then (match fs[k]? with
      | some v => some (.inl (pc + 3, lv, v :: r, h))
      | none => none) else none
    | _ => none
  | _ => none
def mm_putf (tys : Nat → Nat → FieldType) (fin : Nat → Nat → Bool) (ini : Bool) (own ci k : Nat) (pc : Nat) (lv : mm_L) (st : List Value) (h : mm_H) : Option mm_O := match st with
  | v :: .ref a :: r => match h.1[a]? with
    | some (.inr (c, fs)) => if c = ci ∧ k < fs.length ∧ mm_fitF tys ci k v = true ∧ (fin ci k = false ∨ (ini = true ∧ own = ci)) then some (.inl (pc + 3, lv, r, (h.1.set a (.inr (c, fs.set k v)), h.2))) else none
    | _ => none
  | _ => none
def mm_iald (t : Nat) (pc : Nat) (lv : mm_L) (st : List Value) (h : mm_H) : Option mm_O := match st with
  | .int i :: .ref a :: r => match h.1[a]? with
    | some (.inl (c, n, .inl f)) => if c = t ∧ ¬ (i < 0 ∨ n ≤ i.toNatClampNeg) then some (.inl (pc + 1, lv, .int (f i.toNatClampNeg) :: r, h)) else none
    | _ => none
  | _ => none
def mm_lald (pc : Nat) (lv : mm_L) (st : List Value) (h : mm_H) : Option mm_O := match st with
  | .int i :: .ref a :: r => match h.1[a]? with
    | some (.inl (c, n, .inr (.inl f))) => if c = 2 ∧ ¬ (i < 0 ∨ n ≤ i.toNatClampNeg) then some (.inl (pc + 1, lv, .long (f i.toNatClampNeg) :: r, h)) else none
    | _ => none
  | _ => none
def mm_aald (pc : Nat) (lv : mm_L) (st : List Value) (h : mm_H) : Option mm_O := match st with
  | .int i :: .ref a :: r => match h.1[a]? with
    | some (.inl (c, n, .inr (.inr (.inr (.inr f))))) => if c = 3 ∧ ¬ (i < 0 ∨ n ≤ i.toNatClampNeg) then (match f i.toNatClampNeg with
      | some q => some (.inl (pc + 1, lv, .ref q :: r, h))
      | none => none) else none
    | _ => none
  | _ => none
def mm_iast (pc : Nat) (lv : mm_L) (st : List Value) (h : mm_H) : Option mm_O := match st with
  | .int x :: .int i :: .ref a :: r => match h.1[a]? with
    | some (.inl (c, n, .inl f)) => if c = 0 ∧ ¬ (i < 0 ∨ n ≤ i.toNatClampNeg) then some (.inl (pc + 1, lv, r, (h.1.set a (.inl (c, n, .inl (upd f i.toNatClampNeg x))), h.2))) else none
    | _ => none
  | _ => none
def mm_bast (pc : Nat) (lv : mm_L) (st : List Value) (h : mm_H) : Option mm_O := match st with
  | .int x :: .int i :: .ref a :: r => match h.1[a]? with
    | some (.inl (c, n, .inl f)) => if c = 1 ∧ ¬ (i < 0 ∨ n ≤ i.toNatClampNeg) then some (.inl (pc + 1, lv, r, (h.1.set a (.inl (c, n, .inl (upd f i.toNatClampNeg (vp_nar .byte x)))), h.2))) else none
    | _ => none
  | _ => none
def mm_last (pc : Nat) (lv : mm_L) (st : List Value) (h : mm_H) : Option mm_O := match st with
  | .long x :: .int i :: .ref a :: r => match h.1[a]? with
    | some (.inl (c, n, .inr (.inl f))) => if c = 2 ∧ ¬ (i < 0 ∨ n ≤ i.toNatClampNeg) then some (.inl (pc + 1, lv, r, (h.1.set a (.inl (c, n, .inr (.inl (vp_updL f i.toNatClampNeg x)))), h.2))) else none
    | _ => none
  | _ => none
def mm_aast (pc : Nat) (lv : mm_L) (st : List Value) (h : mm_H) : Option mm_O := match st with
  | .ref v :: .int i :: .ref a :: r => match h.1[a]?, h.1[v]? with
    | some (.inl (c, n, .inr (.inr (.inr (.inr f))))), some (.inr (9, _)) => if c = 3 ∧ ¬ (i < 0 ∨ n ≤ i.toNatClampNeg) then some (.inl (pc + 1, lv, r, (h.1.set a (.inl (c, n, .inr (.inr (.inr (.inr (va_up f i.toNatClampNeg (some v))))))), h.2))) else none
    | _, _ => none
  | _ => none
def mm_copy (pc : Nat) (lv : mm_L) (st : List Value) (h : mm_H) : Option mm_O := match st with
  | .int n :: .int dp :: .ref a1 :: .int sp :: .ref a0 :: r => match h.1[a0]?, h.1[a1]? with
    | some (.inl (c0, n0, .inl f)), some (.inl (c1, n1, .inl g)) =>
      if (c0 = 0 ∧ c1 = 0) ∧ (¬ sp < 0 ∧ ¬ dp < 0 ∧ ¬ n < 0) ∧ (sp.toNatClampNeg + n.toNatClampNeg ≤ n0 ∧ dp.toNatClampNeg + n.toNatClampNeg ≤ n1) ∧ (r.map fun v => v.category).sum ≤ 8 then
        some (.inl (pc + 3, lv, r, (h.1.set a1 (.inl (c1, n1, .inl (va_cpy f g sp.toNatClampNeg dp.toNatClampNeg n.toNatClampNeg))), h.2))) else none
    | _, _ => none
  | _ => none
def mm_new1 (k : Nat) (e : va_E) (ns : Nat) (pc : Nat) (lv : mm_L) (r : List Value) (h : mm_H) : Option mm_O :=
  if h.2.1 = true then some (.inl (pc + k, lv, .ref h.1.length :: r, (h.1 ++ [e], true, h.2.2.1 + 1, h.2.2.2 + ns))) else none
def mm_newa (t : ArrayType) (pc : Nat) (lv : mm_L) (st : List Value) (h : mm_H) : Option mm_O := match st with
  | .int n :: r => if ¬ n < 0 ∧ n.toNatClampNeg ≤ 100000 then (match t with
    | .int => mm_new1 2 (.inl (0, n.toNatClampNeg, .inl (fun _ => 0))) n.toNatClampNeg pc lv r h
    | .byte => mm_new1 2 (.inl (1, n.toNatClampNeg, .inl (fun _ => 0))) n.toNatClampNeg pc lv r h
    | .long => mm_new1 2 (.inl (2, n.toNatClampNeg, .inr (.inl (fun _ => 0)))) n.toNatClampNeg pc lv r h
    | _ => none) else none
  | _ => none
def mm_anew (pc : Nat) (lv : mm_L) (st : List Value) (h : mm_H) : Option mm_O := match st with
  | .int n :: r => if ¬ n < 0 ∧ n.toNatClampNeg ≤ 100000 then mm_new1 3 (.inl (3, n.toNatClampNeg, .inr (.inr (.inr (.inr (fun _ => none)))))) n.toNatClampNeg pc lv r h else none
  | _ => none
/-- a call of method j with n arguments beside the receiver, if it has one of class ci -/
def mm_callV (ci j n : Nat) (st : List Value) (h : mm_H) : Option mm_O := match st.drop n with
  | .ref a :: r => match h.1[a]? with
    | some (.inr (c, _)) => if c = ci ∧ n ≤ st.length ∧ (r.map fun v => v.category).sum ≤ 8 then some (.inr (.inr (.inl (j, .ref a :: (st.take n).reverse, r)))) else none
    | _ => none
  | _ => none
def mm_callS (j n : Nat) (st : List Value) : Option mm_O :=
  if n ≤ st.length ∧ ((st.drop n).map fun v => v.category).sum ≤ 8 then some (.inr (.inr (.inl (j, (st.take n).reverse, st.drop n)))) else none
def mm_len (txt : Nat → List Int32) (pc : Nat) (lv : mm_L) (st : List Value) (h : mm_H) : Option mm_O := match st with
  | .retAddr k :: r => if (r.map fun v => v.category).sum ≤ 8 ∧ k < 36 then some (.inl (pc + 3, lv, .int (Int32.ofNat (txt k).length) :: r, h)) else none
  | _ => none
def mm_chr (txt : Nat → List Int32) (pc : Nat) (lv : mm_L) (st : List Value) (h : mm_H) : Option mm_O := match st with
  | .int i :: .retAddr k :: r => if (r.map fun v => v.category).sum ≤ 8 ∧ k < 36 ∧ ¬ (i < 0 ∨ (txt k).length ≤ i.toNatClampNeg) then some (.inl (pc + 3, lv, .int ((txt k).getD i.toNatClampNeg 0) :: r, h)) else none
  | _ => none
/-- the script lies where no cell of the world does: 'retAddr 1000000' -/
def mm_sld (L : Nat) (xs : Nat → Int32) (pc : Nat) (lv : mm_L) (st : List Value) (h : mm_H) : Option mm_O := match st with
  | .int i :: .retAddr k :: r => if k = 1000000 ∧ ¬ (i < 0 ∨ L ≤ i.toNatClampNeg) then some (.inl (pc + 1, lv, .int (xs i.toNatClampNeg) :: r, h)) else none
  | _ => mm_iald 0 pc lv st h
def mm_sln (L : Nat) (pc : Nat) (lv : mm_L) (st : List Value) (h : mm_H) : Option mm_O := match st with
  | .retAddr k :: r => if k = 1000000 then some (.inl (pc + 1, lv, .int (Int32.ofNat L) :: r, h)) else none
  | _ => none
/-- the tables that a step looks into: types of fields, final fields, fresh fields, a method's class, its arguments, texts, the script -/
abbrev mm_T : Type := (Nat → Nat → FieldType) × (Nat → Nat → Bool) × (Nat → List Value) × (Nat → Nat) × (Nat → Nat) × (Nat → List Int32) × Nat × (Nat → Int32)
def mm_step (B : mm_T) (own nL : Nat) (ini : Bool) (ins : Instr) (len : Nat) (r1 : Int) (r2 : Nat) (pc : Nat) (lv : mm_L) (st : List Value) (h : mm_H) : Option mm_O := match ins with
  | .iconst n => if len = 1 then mm_push 1 (.int (Int32.ofInt n)) pc lv st h else none
  | .bipush n => if len = 2 then mm_push 2 (.int (Int8.ofInt n).toInt32) pc lv st h else none
  | .sipush n => if len = 3 then mm_push 3 (.int (Int16.ofInt n).toInt32) pc lv st h else none
  | .lconst n => if len = 1 then mm_push 1 (.long (Int64.ofNat (n : Nat))) pc lv st h else none
  | .ldc _ => if len = 2 then (match r2 with
    | 0 => mm_push 2 (.int (Int32.ofInt r1)) pc lv st h
    | k + 1 => mm_push 2 (.retAddr k) pc lv st h) else none
  | .ldc_w _ => if len = 3 then (match r2 with
    | 0 => mm_push 3 (.int (Int32.ofInt r1)) pc lv st h
    | _ => none) else none
  | .ldc2_w _ => if len = 3 then mm_push 3 (.long (Int64.ofInt r1)) pc lv st h else none
  | .iload i => if len = 2 then mm_ild 2 i pc lv st h else none
  | .iload_n i => if len = 1 then mm_ild 1 i pc lv st h else none
  | .lload i => if len = 2 then mm_lld 2 i pc lv st h else none
  | .lload_n i => if len = 1 then mm_lld 1 i pc lv st h else none
  | .aload i => if len = 2 then mm_ald 2 i pc lv st h else none
  | .aload_n i => if len = 1 then mm_ald 1 i pc lv st h else none
  | .istore i => if len = 2 then mm_ist nL 2 i pc lv st h else none
  | .istore_n i => if len = 1 then mm_ist nL 1 i pc lv st h else none
  | .lstore i => if len = 2 then mm_lst nL 2 i pc lv st h else none
  | .lstore_n i => if len = 1 then mm_lst nL 1 i pc lv st h else none
  | .astore i => if len = 2 then mm_ast nL 2 i pc lv st h else none
  | .astore_n i => if len = 1 then mm_ast nL 1 i pc lv st h else none
  | .iinc i n => if len = 3 ∧ i < nL then (match mm_look lv i with
    | some (.int x) => some (.inl (pc + 3, mm_st1 lv i (.int (x + Int32.ofInt n)), st, h))
    | _ => none) else none
  | .iadd => if len = 1 then mm_i2 (fun x y => x + y) pc lv st h else none
  | .isub => if len = 1 then mm_i2 (fun x y => x - y) pc lv st h else none
  | .imul => if len = 1 then mm_i2 (fun x y => x * y) pc lv st h else none
  | .iand => if len = 1 then mm_i2 (fun x y => x &&& y) pc lv st h else none
  | .ior => if len = 1 then mm_i2 (fun x y => x ||| y) pc lv st h else none
  | .ixor => if len = 1 then mm_i2 (fun x y => x ^^^ y) pc lv st h else none
  | .ishl => if len = 1 then mm_i2 (fun x y => x <<< (y &&& 31)) pc lv st h else none
  | .ishr => if len = 1 then mm_i2 (fun x y => x >>> (y &&& 31)) pc lv st h else none
  | .iushr => if len = 1 then mm_i2 (fun x y => (x.toUInt32 >>> (y.toUInt32 &&& Int32.toUInt32 31)).toInt32) pc lv st h else none
  | .idiv => if len = 1 then (match st with
    | .int y :: .int x :: r => if ¬ y = 0 then some (.inl (pc + 1, lv, .int (x / y) :: r, h)) else none
    | _ => none) else none
  | .irem => if len = 1 then (match st with
    | .int y :: .int x :: r => if ¬ y = 0 then some (.inl (pc + 1, lv, .int (x - x / y * y) :: r, h)) else none
    | _ => none) else none
  | .ineg => if len = 1 then (match st with
    | .int x :: r => some (.inl (pc + 1, lv, .int (-x) :: r, h))
    | _ => none) else none
  | .ladd => if len = 1 then mm_l2 (fun x y => x + y) pc lv st h else none
  | .lmul => if len = 1 then mm_l2 (fun x y => x * y) pc lv st h else none
  | .ldiv => if len = 1 then (match st with
    | .long y :: .long x :: r => if ¬ y = 0 then some (.inl (pc + 1, lv, .long (x / y) :: r, h)) else none
    | _ => none) else none
  | .lcmp => if len = 1 then (match st with
    | .long y :: .long x :: r => some (.inl (pc + 1, lv, .int (lg_cmp x y) :: r, h))
    | _ => none) else none
  | .i2l => if len = 1 then (match st with
    | .int x :: r => some (.inl (pc + 1, lv, .long x.toInt64 :: r, h))
    | _ => none) else none
  | .l2i => if len = 1 then (match st with
    | .long x :: r => some (.inl (pc + 1, lv, .int x.toInt32 :: r, h))
    | _ => none) else none
  | .i2b => if len = 1 then (match st with
    | .int x :: r => some (.inl (pc + 1, lv, .int x.toInt8.toInt32 :: r, h))
    | _ => none) else none
  | .dup => if len = 1 then (match st with
    | v :: r => if v.category = 1 then some (.inl (pc + 1, lv, v :: v :: r, h)) else none
    | _ => none) else none
  | .dup2 => if len = 1 then (match st with
    | v :: w :: r => if v.category = 1 ∧ w.category = 1 then some (.inl (pc + 1, lv, v :: w :: v :: w :: r, h)) else none
    | _ => none) else none
  | .pop => if len = 1 then (match st with
    | v :: r => if v.category = 1 then some (.inl (pc + 1, lv, r, h)) else none
    | _ => none) else none
  | .goto off => if len = 3 then mm_jmp (mm_tgt pc off) lv st h else none
  | .ifCond c off => if len = 3 then (match st with
    | .int x :: r => (match mm_tgt pc off with
      | some t => some (.inl (if mm_c1 c x = true then t else pc + 3, lv, r, h))
      | none => none)
    | _ => none) else none
  | .if_icmp c off => if len = 3 then (match st with
    | .int y :: .int x :: r => (match mm_tgt pc off with
      | some t => some (.inl (if mm_c2 c x y = true then t else pc + 3, lv, r, h))
      | none => none)
    | _ => none) else none
  | .tableswitch d lo hi offs => (match st with
    | .int x :: r => if x.toInt < lo ∨ hi < x.toInt then mm_jmp (mm_tgt pc d) lv r h else (match offs[(x.toInt - lo).toNat]? with
      | some off => mm_jmp (mm_tgt pc off) lv r h
      | none => none)
    | _ => none)
  | .getfield _ => if len = 3 then mm_getf r1.toNat r2 pc lv st h else none
  | .putfield _ => if len = 3 then mm_putf B.1 B.2.1 ini own r1.toNat r2 pc lv st h else none
  | .iaload => if len = 1 then mm_sld B.2.2.2.2.2.2.1 B.2.2.2.2.2.2.2 pc lv st h else none
  | .arraylength => if len = 1 then mm_sln B.2.2.2.2.2.2.1 pc lv st h else none
  | .baload => if len = 1 then mm_iald 1 pc lv st h else none
  | .laload => if len = 1 then mm_lald pc lv st h else none
  | .aaload => if len = 1 then mm_aald pc lv st h else none
  | .iastore => if len = 1 then mm_iast pc lv st h else none
  | .bastore => if len = 1 then mm_bast pc lv st h else none
  | .lastore => if len = 1 then mm_last pc lv st h else none
  | .aastore => if len = 1 then mm_aast pc lv st h else none
  | .newarray t => if len = 2 then mm_newa t pc lv st h else none
  | .anewarray _ => if len = 3 then mm_anew pc lv st h else none
  | .new _ => if len = 3 then (match r1 with
    | 0 => mm_new1 3 (.inr (r2, B.2.2.1 r2)) (B.2.2.1 r2).length pc lv st h
    | 1 => if (st.map fun v => v.category).sum ≤ 8 then some (.inr (.inr (.inr r2))) else none
    | _ => none) else none
  | .invokevirtual _ => if len = 3 then (match r1 with
    | 0 => mm_callV (B.2.2.2.1 r2) r2 (B.2.2.2.2.1 r2) st h
    | 1 => mm_len B.2.2.2.2.2.1 pc lv st h
    | 2 => mm_chr B.2.2.2.2.2.1 pc lv st h
    | _ => none) else none
  | .invokespecial _ => if len = 3 then (match r1 with
    | 0 => mm_callV (B.2.2.2.1 r2) r2 (B.2.2.2.2.1 r2) st h
    | 1 => (match st with
      | .ref _ :: r => if (r.map fun v => v.category).sum ≤ 8 then some (.inl (pc + 3, lv, r, h)) else none
      | _ => none)
    | _ => none) else none
  | .invokestatic _ => if len = 3 then (match r1 with
    | 0 => mm_callS r2 (B.2.2.2.2.1 r2) st
    | 1 => mm_copy pc lv st h
    | 2 => (match st with
      | .int y :: .int x :: r => if (r.map fun v => v.category).sum ≤ 8 then some (.inl (pc + 3, lv, .int (if x < y then y else x) :: r, h)) else none
      | _ => none)
    | 3 => (match st with
      | .int y :: .int x :: r => if (r.map fun v => v.category).sum ≤ 8 then some (.inl (pc + 3, lv, .int (if y < x then y else x) :: r, h)) else none
      | _ => none)
    | _ => none) else none
  | .ireturn => if len = 1 then (match st with
    | [.int x] => some (.inr (.inl (some (.int x))))
    | _ => none) else none
  | .return_ => if len = 1 then (match st with
    | [] => some (.inr (.inl none))
    | _ => none) else none
  | _ => none
