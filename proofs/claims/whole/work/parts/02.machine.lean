/-! THE ABSTRACT MACHINE: a plain interpreter of the claim's bytecode over named cells. A cell's name is (tag, i, j); its contents are a function of the place. -/
abbrev Rf : Type := Nat × Nat × Nat
abbrev Av : Type := Int32 ⊕ (Int64 ⊕ Option Rf)
abbrev vI (x : Int32) : Av := Sum.inl x
abbrev vL (x : Int64) : Av := Sum.inr (Sum.inl x)
abbrev vR (t i j : Nat) : Av := Sum.inr (Sum.inr (some (t, i, j)))
abbrev vN : Av := Sum.inr (Sum.inr none)
abbrev Hp : Type := Rf → Nat → Av
/-- cells, lengths of arrays, how many cells, how many slots -/
abbrev St : Type := Hp × (Rf → Nat) × Nat × Nat
abbrev Lv : Type := List (Option Av)
/-- a method: bytes, name, locals, return type -/
abbrev Mu : Type := ByteArray × MethodName × Nat × Option FieldType
/-- the kind of a tag: 0 .. 8 a class of vwCl; 10 int[], 11 byte[], 12 boolean[], 13 char[], 14 Log[], 15 Law[], 16 Row[], 17 Slot[]; 20 String -/
def kdL : List Nat := [10, 10, 20, 11, 98, 99, 99, 99, 99, 99, 7, 3, 1, 14, 10, 10, 10, 10, 15, 99, 2, 6, 11, 10, 10, 16, 17, 10, 4, 10, 5, 1, 4, 10, 0, 10, 10, 99, 99, 99, 8, 10, 13, 12]
def kd (t : Nat) : Nat := kdL.getD t 99
def aty (k : Nat) : FieldType := match k with
  | 10 => .int
  | 11 => .byte
  | 12 => .boolean
  | 13 => .char
  | 14 => .object RX1
  | 15 => .object RX0
  | 16 => .object RX4
  | _ => .object RX5
/-- the class whose objects an array of kind k holds -/
def ecl (k : Nat) : Nat := match k with
  | 14 => 1
  | 15 => 0
  | 16 => 4
  | _ => 5
def qoff (r : Rf) : Nat := match r.1 with
  | 10 => 0
  | 11 => 1 + 19 * r.2.1
  | 12 => 8 + 19 * r.2.1 + r.2.2
  | 13 => 2 + 19 * r.2.1
  | 14 => 3 + 19 * r.2.1
  | 15 => 4 + 19 * r.2.1
  | 16 => 5 + 19 * r.2.1
  | 17 => 6 + 19 * r.2.1
  | 18 => 7 + 19 * r.2.1
  | 20 => 77
  | 21 => 78
  | 22 => 79
  | 23 => 80
  | 24 => 81
  | 25 => 82
  | 26 => 83
  | 27 => 84
  | 28 => 85 + 2 * r.2.1
  | 29 => 86 + 2 * r.2.1
  | 30 => 93 + 4 * r.2.1
  | 31 => 94 + 4 * r.2.1
  | 32 => 95 + 4 * r.2.1
  | 33 => 96 + 4 * r.2.1
  | 40 => 113
  | 41 => 114 + r.2.1
  | 42 => 119
  | 43 => 123
  | 34 => 135 + 3 * r.2.1
  | 35 => 136 + 3 * r.2.1
  | 36 => 137 + 3 * r.2.1
  | _ => 0
/-- the name of the cell that is made as the n-th -/
def qmk (n : Nat) : Rf :=
  if n = 0 then (10, 0, 0)
  else if n < 77 then (if (n - 1) % 19 = 0 then (11, (n - 1) / 19, 0) else if (n - 1) % 19 < 7 then (12 + (n - 1) % 19, (n - 1) / 19, 0) else (12, (n - 1) / 19, (n - 1) % 19 - 7))
  else if n < 85 then (n - 57, 0, 0)
  else if n < 93 then (28 + (n - 85) % 2, (n - 85) / 2, 0)
  else if n < 113 then (30 + (n - 93) % 4, (n - 93) / 4, 0)
  else if n = 113 then (40, 0, 0)
  else if n = 119 then (42, 0, 0)
  else if n = 123 then (43, 0, 0)
  else if n < 135 then (41, n - 114, 0)
  else (34 + (n - 135) % 3, (n - 135) / 3, 0)
theorem qoff_mk_lo : ∀ n, n < 135 → qoff (qmk n) = n := by decide +kernel
theorem qoff_mk (n : Nat) : qoff (qmk n) = n := by
  by_cases h : n < 135
  · exact qoff_mk_lo n h
  · have e : qmk n = (34 + (n - 135) % 3, (n - 135) / 3, 0) := by
      unfold qmk
      rw [if_neg (by omega), if_neg (by omega), if_neg (by omega), if_neg (by omega), if_neg (by omega), if_neg (by omega), if_neg (by omega), if_neg (by omega), if_neg (by omega)]
    rw [e]
    have h3 : (n - 135) % 3 = 0 ∨ (n - 135) % 3 = 1 ∨ (n - 135) % 3 = 2 := by omega
    rcases h3 with h3 | h3 | h3 <;> rw [h3] <;> simp only [qoff] <;> omega
theorem mk_tag_lo : ∀ n, n < 135 → 10 ≤ (qmk n).1 := by decide +kernel
theorem mk_tag (n : Nat) : 10 ≤ (qmk n).1 := by
  by_cases h : n < 135
  · exact mk_tag_lo n h
  · unfold qmk
    rw [if_neg (by omega), if_neg (by omega), if_neg (by omega), if_neg (by omega), if_neg (by omega), if_neg (by omega), if_neg (by omega), if_neg (by omega), if_neg (by omega)]
    show 10 ≤ 34 + (n - 135) % 3
    omega
/-! what the tables say: links, codes, constants, looked up in lw_tbl itself -/
def okw (w : Jvm.Cond) : Bool := decide (w ∈ lw_tbl) && goodWord w
def fCode (y : MethodName) : Option (ByteArray × Nat × Option FieldType) := lw_tbl.findSome? fun w => match w with
  | .code y' b n r => if y' = y then some (b, n, r) else none
  | _ => none
def fLink (own : String) (i : Nat) : Option (MethodName × Option String) := lw_tbl.findSome? fun w => match w with
  | .methodLink o k y => if k = i ∧ o = own then some (y, none) else none
  | .methodLinkNest o k y h => if k = i ∧ o = own then some (y, some h) else none
  | _ => none
def fFld (own : String) (i : Nat) : Option (String × String × String × Option String) := lw_tbl.findSome? fun w => match w with
  | .fieldLink o k ref n d => if k = i ∧ o = own then some (ref, n, d, none) else none
  | .fieldLinkNest o k ref n d h => if k = i ∧ o = own then some (ref, n, d, some h) else none
  | _ => none
def fCst (own : String) (i : Nat) : Option Int32 := lw_tbl.findSome? fun w => match w with
  | .constant o k v => if k = i ∧ o = own then some v else none
  | _ => none
def fCls (own : String) (i : Nat) : Option String := lw_tbl.findSome? fun w => match w with
  | .classLink o k c => if k = i ∧ o = own then some c else none
  | _ => none
/-- the literals of the class: place in the pool, text -/
def strs : List (Nat × String) := [(99, "drift"), (105, "fee"), (107, "fine"), (145, "fmr"), (147, "sw"), (149, "lm")]
def fStr (own : String) (i : Nat) : Option Nat := if own = RX2 then strs.findIdx? (fun q => q.1 == i) else none
/-- a call: 0 static, 1 virtual, 2 a constructor: the method, how many arguments (the receiver left out) -/
def rsl (c : Nat) (own : String) (i : Nat) : Option (Mu × Nat) :=
  match fLink own i with
  | none => none
  | some (y, nest) => match fCode y with
    | none => none
    | some (b, n, r) => match parseMethodDescriptor y.desc with
      | none => none
      | some sig =>
        if okw (.code y b n r) = true ∧ okw (.initialized y.cls) = true ∧ plainName y.cls = true ∧ (y.cls ≠ "java/lang/invoke/MethodHandle" ∧ y.cls ≠ "java/lang/invoke/VarHandle") ∧ n ≤ 19 ∧ (nest = none → okw (.methodLink own i y) = true) ∧
          (c = 0 → okw (.static y) = true) ∧ (c = 1 → okw (.instanceMethod y) = true ∧ okw (.selects y.cls y y) = true ∧ nest = none) ∧ (c = 2 → okw (.instanceMethod y) = true ∧ y.name = "<init>" ∧ r = none)
        then some ((b, y, n, r), sig.parameters.length) else none
/-- a field: its class, its number -/
def cfl (ref n d : String) : Option (Nat × Nat) := (List.range 9).findSome? fun ci => match vwCl[ci]? with
  | none => none
  | some q => if q.1 = ref then (List.range q.2.2).findSome? (fun k => if (q.2.1 k).1 = ref ∧ (q.2.1 k).2.1 = n ∧ (q.2.1 k).2.2.1 = d then some (ci, k) else none) else none
def fld (own : String) (i : Nat) : Option (Nat × Nat) := match fFld own i with
  | some (ref, n, d, none) => if okw (.fieldLink own i ref n d) = true then (if ref = "java/lang/String" then (if n = "coder" ∧ d = "B" then some (20, 0) else if n = "value" ∧ d = "[B" then some (20, 1) else none) else cfl ref n d) else none
  | _ => none
/-- a static: what it holds -/
def sta (own : String) (i : Nat) : Option Av := match fFld own i with
  | some (ref, n, d, none) => if okw (.fieldLink own i ref n d) = true then (if ref = "java/lang/String" ∧ n = "COMPACT_STRINGS" ∧ d = "Z" then some (vI 1) else if ref = "jdk/internal/util/Preconditions" ∧ n = "SIOOBE_FORMATTER" ∧ d = "Ljava/util/function/BiFunction;" then some (vR 4 0 0) else none) else none
  | some (ref, n, d, some _) => if ref = "LogLetters" ∧ n = "ABOVE" ∧ d = "[I" then some (vR 1 0 0) else none
  | _ => none
/-- new: the class -/
def nwc (own : String) (i : Nat) : Option Nat := match fCls own i with
  | none => none
  | some C => if okw (.classLink own i C) = true ∧ okw (.initialized C) = true then (List.range 9).findSome? (fun ci => match vwCl[ci]? with
    | none => none
    | some q => if q.1 = C ∧ okw (.instantiable C q.2.2) = true then some ci else none) else none
/-- anewarray: the kind -/
def nwa (own : String) (i : Nat) : Option Nat := match fCls own i with
  | none => none
  | some C => if okw (.classLink own i C) = true ∧ (Jvm.Cond.arrayOver (.object C)) ∈ lw_tbl then (if C = RX1 then some 14 else if C = RX0 then some 15 else if C = RX4 then some 16 else if C = RX5 then some 17 else none) else none
def tyOf (ci k : Nat) : FieldType := match ci with
  | 0 => tyX0 k
  | 1 => tyX1 k
  | 2 => tyX2 k
  | 3 => tyX3 k
  | 4 => tyX4 k
  | 5 => tyX5 k
  | 6 => tyX6 k
  | 7 => tyX7 k
  | _ => tyX8 k
def nFl (ci : Nat) : Nat := [4, 5, 14, 16, 3, 4, 2, 10, 33].getD ci 0
/-- is a field final -/
def qfin (ci k : Nat) : Bool := match vwCl[ci]? with
  | some q => (q.2.1 k).2.2.2
  | none => false
def dfv (ty : FieldType) : Av := match ty with
  | .object _ => vN
  | .array _ => vN
  | _ => vI 0
/-- may a field of this type hold this value -/
def fok (ty : FieldType) (v : Av) : Bool := match ty, v with
  | .int, .inl _ => true
  | .boolean, .inl x => decide (x = 0 ∨ x = 1)
  | .object _, .inr (.inr _) => true
  | .array _, .inr (.inr _) => true
  | _, _ => false
/-! the steps -/
def qjmp (pc : Nat) (o : Int) : Option Nat := if 0 ≤ (pc : Int) + o then some ((pc : Int) + o).toNat else none
def ldv (l : Lv) (k : Nat) : Option Av := (l[k]?).join
def nlx (l : Lv) (i : Nat) : Bool := match i with
  | 0 => true
  | j + 1 => match ldv l j with
    | some (.inr (.inl _)) => false
    | _ => true
def qsto (l : Lv) (i : Nat) (v : Av) : Option Lv := if i < l.length ∧ nlx l i = true then some (l.set i (some v)) else none
def qstoL (l : Lv) (i : Nat) (v : Av) : Option Lv := if i + 1 < l.length ∧ nlx l i = true then some ((l.set i (some v)).set (i + 1) none) else none
def qcat (v : Av) : Nat := match v with
  | .inr (.inl _) => 2
  | _ => 1
def cndB (c : ClassFile.Cond) (x y : Int32) : Bool := match c with
  | .eq => decide (x = y)
  | .ne => decide (¬ x = y)
  | .lt => decide (x < y)
  | .ge => decide (y ≤ x)
  | .gt => decide (y < x)
  | .le => decide (x ≤ y)
def liI (l : Lv) (k pc : Nat) (st : List Av) : Option (Nat × Lv × List Av) := match ldv l k with
  | some (.inl x) => some (pc, l, vI x :: st)
  | _ => none
def liA (l : Lv) (k pc : Nat) (st : List Av) : Option (Nat × Lv × List Av) := match ldv l k with
  | some (.inr (.inr r)) => some (pc, l, .inr (.inr r) :: st)
  | _ => none
def liL (l : Lv) (k pc : Nat) (st : List Av) : Option (Nat × Lv × List Av) := match ldv l k with
  | some (.inr (.inl x)) => some (pc, l, vL x :: st)
  | _ => none
def siI (l : Lv) (k pc : Nat) (st : List Av) : Option (Nat × Lv × List Av) := match st with
  | .inl x :: rest => (qsto l k (vI x)).map fun l' => (pc, l', rest)
  | _ => none
def siA (l : Lv) (k pc : Nat) (st : List Av) : Option (Nat × Lv × List Av) := match st with
  | .inr (.inr r) :: rest => (qsto l k (.inr (.inr r))).map fun l' => (pc, l', rest)
  | _ => none
def siL (l : Lv) (k pc : Nat) (st : List Av) : Option (Nat × Lv × List Av) := match st with
  | .inr (.inl x) :: rest => (qstoL l k (vL x)).map fun l' => (pc, l', rest)
  | _ => none
def b2 (f : Int32 → Int32 → Int32) (pc : Nat) (l : Lv) (st : List Av) : Option (Nat × Lv × List Av) := match st with
  | .inl y :: .inl x :: rest => some (pc + 1, l, vI (f x y) :: rest)
  | _ => none
def b2L (f : Int64 → Int64 → Int64) (pc : Nat) (l : Lv) (st : List Av) : Option (Nat × Lv × List Av) := match st with
  | .inr (.inl y) :: .inr (.inl x) :: rest => some (pc + 1, l, vL (f x y) :: rest)
  | _ => none
def u1 (f : Int32 → Int32) (pc : Nat) (l : Lv) (st : List Av) : Option (Nat × Lv × List Av) := match st with
  | .inl x :: rest => some (pc + 1, l, vI (f x) :: rest)
  | _ => none
/-- stack, locals, numbers, jumps: the cells are not asked -/
def sA (i : Instr) (len pc : Nat) (l : Lv) (st : List Av) : Option (Nat × Lv × List Av) := match i with
  | .aconst_null => if len = 1 then some (pc + 1, l, vN :: st) else none
  | .iconst n => if len = 1 then some (pc + 1, l, vI (Int32.ofInt n) :: st) else none
  | .bipush n => if len = 2 then some (pc + 2, l, vI (Int8.ofInt n).toInt32 :: st) else none
  | .sipush n => if len = 3 then some (pc + 3, l, vI (Int16.ofInt n).toInt32 :: st) else none
  | .lconst n => if len = 1 then some (pc + 1, l, vL (Int64.ofNat (n : Nat)) :: st) else none
  | .iload_n k => if len = 1 then liI l k (pc + 1) st else none
  | .iload k => if len = 2 then liI l k (pc + 2) st else none
  | .aload_n k => if len = 1 then liA l k (pc + 1) st else none
  | .aload k => if len = 2 then liA l k (pc + 2) st else none
  | .lload_n k => if len = 1 then liL l k (pc + 1) st else none
  | .lload k => if len = 2 then liL l k (pc + 2) st else none
  | .istore_n k => if len = 1 then siI l k (pc + 1) st else none
  | .istore k => if len = 2 then siI l k (pc + 2) st else none
  | .astore_n k => if len = 1 then siA l k (pc + 1) st else none
  | .astore k => if len = 2 then siA l k (pc + 2) st else none
  | .lstore_n k => if len = 1 then siL l k (pc + 1) st else none
  | .lstore k => if len = 2 then siL l k (pc + 2) st else none
  | .iinc k n => if len = 3 then (match ldv l k with
    | some (.inl x) => (qsto l k (vI (x + Int32.ofInt n))).map fun l' => (pc + 3, l', st)
    | _ => none) else none
  | .iadd => if len = 1 then b2 (fun x y => x + y) pc l st else none
  | .isub => if len = 1 then b2 (fun x y => x - y) pc l st else none
  | .imul => if len = 1 then b2 (fun x y => x * y) pc l st else none
  | .iand => if len = 1 then b2 (fun x y => x &&& y) pc l st else none
  | .ior => if len = 1 then b2 (fun x y => x ||| y) pc l st else none
  | .ixor => if len = 1 then b2 (fun x y => x ^^^ y) pc l st else none
  | .ishl => if len = 1 then b2 (fun x y => x <<< (y &&& 31)) pc l st else none
  | .ishr => if len = 1 then b2 (fun x y => x >>> (y &&& 31)) pc l st else none
  | .iushr => if len = 1 then b2 (fun x y => (x.toUInt32 >>> (y.toUInt32 &&& Int32.toUInt32 31)).toInt32) pc l st else none
  | .idiv => if len = 1 then (match st with
    | .inl y :: .inl x :: rest => if y = 0 then none else some (pc + 1, l, vI (x / y) :: rest)
    | _ => none) else none
  | .irem => if len = 1 then (match st with
    | .inl y :: .inl x :: rest => if y = 0 then none else some (pc + 1, l, vI (x - x / y * y) :: rest)
    | _ => none) else none
  | .ineg => if len = 1 then u1 (fun x => -x) pc l st else none
  | .i2b => if len = 1 then u1 (fun x => x.toInt8.toInt32) pc l st else none
  | .i2s => if len = 1 then u1 (fun x => x.toInt16.toInt32) pc l st else none
  | .i2c => if len = 1 then u1 (fun x => (x.toUInt32 % 65536).toInt32) pc l st else none
  | .i2l => if len = 1 then (match st with
    | .inl x :: rest => some (pc + 1, l, vL x.toInt64 :: rest)
    | _ => none) else none
  | .l2i => if len = 1 then (match st with
    | .inr (.inl x) :: rest => some (pc + 1, l, vI x.toInt32 :: rest)
    | _ => none) else none
  | .ladd => if len = 1 then b2L (fun x y => x + y) pc l st else none
  | .lsub => if len = 1 then b2L (fun x y => x - y) pc l st else none
  | .lneg => if len = 1 then (match st with
    | .inr (.inl x) :: rest => some (pc + 1, l, vL (-x) :: rest)
    | _ => none) else none
  | .lcmp => if len = 1 then (match st with
    | .inr (.inl y) :: .inr (.inl x) :: rest => some (pc + 1, l, vI (lg_cmp x y) :: rest)
    | _ => none) else none
  | .dup => if len = 1 then (match st with
    | v :: rest => if qcat v = 1 then some (pc + 1, l, v :: v :: rest) else none
    | _ => none) else none
  | .dup2 => if len = 1 then (match st with
    | v :: w :: rest => if qcat v = 1 ∧ qcat w = 1 then some (pc + 1, l, v :: w :: v :: w :: rest) else none
    | _ => none) else none
  | .pop => if len = 1 then (match st with
    | v :: rest => if qcat v = 1 then some (pc + 1, l, rest) else none
    | _ => none) else none
  | .if_icmp c o => if len = 3 then (match st with
    | .inl y :: .inl x :: rest => (qjmp pc o).map fun t => (if cndB c x y = true then t else pc + 3, l, rest)
    | _ => none) else none
  | .ifCond c o => if len = 3 then (match st with
    | .inl x :: rest => (qjmp pc o).map fun t => (if cndB c x 0 = true then t else pc + 3, l, rest)
    | _ => none) else none
  | .ifnull o => if len = 3 then (match st with
    | .inr (.inr none) :: rest => (qjmp pc o).map fun t => (t, l, rest)
    | .inr (.inr (some r)) :: rest => if 5 ≤ r.1 then some (pc + 3, l, rest) else none
    | _ => none) else none
  | .ifnonnull o => if len = 3 then (match st with
    | .inr (.inr none) :: rest => some (pc + 3, l, rest)
    | .inr (.inr (some r)) :: rest => if 5 ≤ r.1 then (qjmp pc o).map fun t => (t, l, rest) else none
    | _ => none) else none
  | .goto o => if len = 3 then (qjmp pc o).map fun t => (t, l, st) else none
  | .tableswitch df lo hi os => (match st with
    | .inl x :: rest => if x.toInt < lo ∨ hi < x.toInt then (qjmp pc df).map fun t => (t, l, rest) else (match os[(x.toInt - lo).toNat]? with
      | some o => (qjmp pc o).map fun t => (t, l, rest)
      | none => none)
    | _ => none)
  | .lookupswitch df ps => (match st with
    | .inl x :: rest => if (ps.toList.zip (ps.toList.drop 1)).all (fun (a, next) => a.1 < next.1) = true then (qjmp pc (Op.lookupswitch.offset ps.toList df x.toInt)).map fun t => (t, l, rest) else none
    | _ => none)
  | _ => none
/-- a cell that has been made, under its own name -/
def okr (σ : St) (r : Rf) : Bool := decide (5 ≤ r.1) && (decide (qoff r < σ.2.2.1) && decide (qmk (qoff r) = r))
/-- an array that was there before -/
def okx (r : Rf) : Bool := decide (r = (0, 0, 0) ∨ r = (1, 0, 0) ∨ (r.1 = 3 ∧ r.2.1 < 6 ∧ r.2.2 = 0))
/-- a text that was there before -/
def oks (r : Rf) : Bool := decide (r.1 = 2 ∧ r.2.1 < 6 ∧ r.2.2 = 0)
def aI (v : Av) : Int32 := match v with
  | .inl x => x
  | _ => 0
def aR (v : Av) : Option Rf := match v with
  | .inr (.inr (some q)) => if 5 ≤ q.1 then some q else none
  | _ => none
def rdA (ks : List Nat) (len pc : Nat) (st : List Av) (σ : St) : Option (Nat × List Av) := if len = 1 then (match st with
    | .inl x :: .inr (.inr (some r)) :: rest => if kd r.1 ∈ ks ∧ (okr σ r || okx r) = true ∧ 0 ≤ x ∧ x.toNatClampNeg < σ.2.1 r then some (pc + 1, vI (aI (σ.1 r x.toNatClampNeg)) :: rest) else none
    | _ => none) else none
def rdR (len pc : Nat) (st : List Av) (σ : St) : Option (Nat × List Av) := if len = 1 then (match st with
    | .inl x :: .inr (.inr (some r)) :: rest => if 14 ≤ kd r.1 ∧ kd r.1 < 18 ∧ okr σ r = true ∧ 0 ≤ x ∧ x.toNatClampNeg < σ.2.1 r then some (pc + 1, .inr (.inr (aR (σ.1 r x.toNatClampNeg))) :: rest) else none
    | _ => none) else none
/-- reads of cells and constants -/
def sB (own : String) (i : Instr) (len pc : Nat) (st : List Av) (σ : St) : Option (Nat × List Av) := match i with
  | .ldc k => if len = 2 then (match fCst own k with
    | some v => if okw (.constant own k v) = true then some (pc + 2, vI v :: st) else none
    | none => match fStr own k with
      | some q => some (pc + 2, vR 2 q 0 :: st)
      | none => none) else none
  | .ldc_w k => if len = 3 then (match fCst own k with
    | some v => if okw (.constant own k v) = true then some (pc + 3, vI v :: st) else none
    | none => none) else none
  | .getfield k => if len = 3 then (match st, fld own k with
    | .inr (.inr (some r)) :: rest, some (ci, q) => if kd r.1 = ci ∧ ((ci < 9 ∧ okr σ r = true) ∨ (ci = 20 ∧ oks r = true)) then some (pc + 3, σ.1 r q :: rest) else none
    | _, _ => none) else none
  | .getstatic k => if len = 3 then (match sta own k with
    | some v => some (pc + 3, v :: st)
    | none => none) else none
  | .iaload => rdA [10] len pc st σ
  | .baload => rdA [11, 12] len pc st σ
  | .caload => rdA [13] len pc st σ
  | .aaload => rdR len pc st σ
  | .arraylength => if len = 1 then (match st with
    | .inr (.inr (some r)) :: rest => if 10 ≤ kd r.1 ∧ kd r.1 < 18 ∧ (okr σ r || okx r) = true then some (pc + 1, vI (Int32.ofNat (σ.2.1 r)) :: rest) else none
    | _ => none) else none
  | _ => none
def hput (h : Hp) (r : Rf) (k : Nat) (v : Av) : Hp := fun r' k' => if r' = r ∧ k' = k then v else h r' k'
def hnew (h : Hp) (r : Rf) (f : Nat → Av) : Hp := fun r' => if r' = r then f else h r'
def alc (σ : St) (f : Nat → Av) (ln sl : Nat) : St := (hnew σ.1 (qmk σ.2.2.1) f, fun r => if r = qmk σ.2.2.1 then ln else σ.2.1 r, σ.2.2.1 + 1, σ.2.2.2 + sl)
def wrA (kq : Nat) (g : Int32 → Int32) (len pc : Nat) (st : List Av) (σ : St) : Option (Nat × List Av × St) := if len = 1 then (match st with
    | .inl v :: .inl x :: .inr (.inr (some r)) :: rest => if okr σ r = true ∧ kd r.1 = kq ∧ 0 ≤ x ∧ x.toNatClampNeg < σ.2.1 r then some (pc + 1, rest, (hput σ.1 r x.toNatClampNeg (vI (g v)), σ.2)) else none
    | _ => none) else none
def nwk (t : ArrayType) : Nat := match t with
  | .int => 10
  | .byte => 11
  | .boolean => 12
  | .char => 13
  | _ => 99
/-- writes of cells, new cells -/
def sC (μ : Mu) (d : Nat) (i : Instr) (len pc : Nat) (st : List Av) (σ : St) : Option (Nat × List Av × St) := match i with
  | .putfield k => if len = 3 then (match st, fld μ.2.1.cls k with
    | v :: .inr (.inr (some r)) :: rest, some (ci, q) => if okr σ r = true ∧ kd r.1 = ci ∧ ci < 9 ∧ fok (tyOf ci q) v = true ∧ (qfin ci q = false ∨ (μ.2.1.name = "<init>" ∧ (vwCl[ci]?).map (fun z => (z.2.1 q).1) = some μ.2.1.cls)) then some (pc + 3, rest, (hput σ.1 r q v, σ.2)) else none
    | _, _ => none) else none
  | .iastore => wrA 10 (fun x => x) len pc st σ
  | .bastore => (match wrA 11 (vp_nar .byte) len pc st σ with
    | some z => some z
    | none => wrA 12 (vp_nar .boolean) len pc st σ)
  | .castore => wrA 13 (vp_nar .char) len pc st σ
  | .aastore => if len = 1 then (match st with
    | .inr (.inr q) :: .inl x :: .inr (.inr (some r)) :: rest => if okr σ r = true ∧ 14 ≤ kd r.1 ∧ kd r.1 < 18 ∧ 0 ≤ x ∧ x.toNatClampNeg < σ.2.1 r ∧ (∀ z ∈ q, okr σ z = true ∧ kd z.1 = ecl (kd r.1)) then some (pc + 1, rest, (hput σ.1 r x.toNatClampNeg (.inr (.inr q)), σ.2)) else none
    | _ => none) else none
  | .new k => if len = 3 then (match nwc μ.2.1.cls k with
    | some ci => if kd (qmk σ.2.2.1).1 = ci then some (pc + 3, .inr (.inr (some (qmk σ.2.2.1))) :: st, alc σ (fun q => dfv (tyOf ci q)) 0 (nFl ci)) else none
    | none => none) else none
  | .newarray t => if len = 2 then (match st with
    | .inl x :: rest => if nwk t < 14 ∧ kd (qmk σ.2.2.1).1 = nwk t ∧ 0 ≤ x ∧ x.toNatClampNeg ≤ 100000 ∧ okw (.arrayClass (newarray.typeOf t)) = true then some (pc + 2, .inr (.inr (some (qmk σ.2.2.1))) :: rest, alc σ (fun _ => vI 0) x.toNatClampNeg x.toNatClampNeg) else none
    | _ => none) else none
  | .anewarray k => if len = 3 then (match st, nwa μ.2.1.cls k with
    | .inl x :: rest, some kq => if kd (qmk σ.2.2.1).1 = kq ∧ 0 ≤ x ∧ x.toNatClampNeg ≤ 100000 then some (pc + 3, .inr (.inr (some (qmk σ.2.2.1))) :: rest, alc σ (fun _ => vN) x.toNatClampNeg x.toNatClampNeg) else none
    | _, _ => none) else none
  | .invokespecial k => if len = 3 then (match st, fLink μ.2.1.cls k with
    | .inr (.inr (some r)) :: rest, some (y, none) => if y = Lib.objectInit ∧ 5 ≤ r.1 ∧ 1 ≤ d ∧ (rest.map qcat).sum ≤ 8 ∧ okw (.methodLink μ.2.1.cls k Lib.objectInit) = true ∧ okw (.instanceMethod Lib.objectInit) = true ∧ okw (.code Lib.objectInit ⟨#[0xb1]⟩ 1 none) = true then some (pc + 3, rest, σ) else none
    | _, _ => none) else none
  | .invokestatic k => if len = 3 then (match st, fLink μ.2.1.cls k with
    | .inl n :: .inl dp :: .inr (.inr (some r)) :: .inl sp :: .inr (.inr (some q)) :: rest, some (y, none) => if y = arraycopyName ∧ okr σ r = true ∧ okr σ q = true ∧ kd r.1 = 10 ∧ kd q.1 = 10 ∧ 0 ≤ n ∧ 0 ≤ dp ∧ 0 ≤ sp ∧ sp.toNatClampNeg + n.toNatClampNeg ≤ σ.2.1 q ∧ dp.toNatClampNeg + n.toNatClampNeg ≤ σ.2.1 r ∧ 1 ≤ d ∧ (rest.map qcat).sum ≤ 8 ∧ okw (.methodLink μ.2.1.cls k arraycopyName) = true ∧ okw (.native arraycopyName) = true ∧ okw (.static arraycopyName) = true ∧ okw (.initialized "java/lang/System") = true then some (pc + 3, rest, (hnew σ.1 r (fun k => vI (va_cpy (fun j => aI (σ.1 q j)) (fun j => aI (σ.1 r j)) sp.toNatClampNeg dp.toNatClampNeg n.toNatClampNeg k)), σ.2)) else none
    | _, _ => none) else none
  | _ => none
/-- the receiver r is of class C -/
def rcv (σ : St) (r : Rf) (C : String) : Bool := match vwCl[kd r.1]? with
  | some q => okr σ r && decide (q.1 = C)
  | none => oks r && decide (C = "java/lang/String")
def rfT (ty : FieldType) : Bool := match ty with
  | .object _ => true
  | .array _ => true
  | _ => false
/-- a call: the method, its arguments (the receiver first), what is left on the stack -/
def sD (own : String) (i : Instr) (len : Nat) (st : List Av) (σ : St) : Option (Mu × List Av × List Av) := if len = 3 then (match i with
  | .invokestatic k => (match rsl 0 own k with
    | some (m, n) => if n ≤ st.length ∧ ((st.drop n).map qcat).sum ≤ 8 then some (m, (st.take n).reverse, st.drop n) else none
    | none => none)
  | .invokevirtual k => (match rsl 1 own k with
    | some (m, n) => (match st.drop n with
      | .inr (.inr (some r)) :: rest => if n ≤ st.length ∧ (rest.map qcat).sum ≤ 8 ∧ rcv σ r m.2.1.cls = true then some (m, .inr (.inr (some r)) :: (st.take n).reverse, rest) else none
      | _ => none)
    | none => none)
  | .invokespecial k => (match rsl 2 own k with
    | some (m, n) => (match st.drop n with
      | .inr (.inr (some r)) :: rest => if n ≤ st.length ∧ (rest.map qcat).sum ≤ 8 ∧ 5 ≤ r.1 then some (m, .inr (.inr (some r)) :: (st.take n).reverse, rest) else none
      | _ => none)
    | none => none)
  | _ => none) else none
/-- a return -/
def sE (rt : Option FieldType) (i : Instr) (len : Nat) (st : List Av) : Option (Option Av) := if len = 1 then (match i, rt, st with
  | .return_, none, [] => some none
  | .ireturn, some ty, [.inl x] => if narrow ty (.int x) = .int x then some (some (vI x)) else none
  | .lreturn, some .long, [.inr (.inl x)] => some (some (vL x))
  | .areturn, some ty, [.inr (.inr r)] => if rfT ty = true then some (some (.inr (.inr r))) else none
  | _, _, _ => none) else none
def qent (as : List Av) (n : Nat) : Lv := as.map some ++ List.replicate (n - as.length) none
/-- n: fuel; d: how many calls may still be open -/
def xc : Nat → Nat → Mu → Nat → Lv → List Av → St → Option (Option Av × St)
  | 0, _, _, _, _, _, _ => none
  | n + 1, d, μ, pc, l, st, σ => match decode μ.1 pc with
    | .error _ => none
    | .ok (i, len) => match sA i len pc l st with
      | some (pc', l', st') => xc n d μ pc' l' st' σ
      | none => match sB μ.2.1.cls i len pc st σ with
        | some (pc', st') => xc n d μ pc' l st' σ
        | none => match sC μ d i len pc st σ with
          | some (pc', st', σ') => xc n d μ pc' l st' σ'
          | none => match sE μ.2.2.2 i len st with
            | some v => some (v, σ)
            | none => match d with
              | 0 => none
              | d' + 1 => match sD μ.2.1.cls i len st σ with
                | none => none
                | some (μ', as, rest) => if as.length ≤ μ'.2.2.1 ∧ (∀ a ∈ as, qcat a = 1) then (match xc n d' μ' 0 (qent as μ'.2.2.1) [] σ with
                  | none => none
                  | some (v, σ') => xc n d μ (pc + 3) l (v.toList ++ rest) σ') else none
