/-! ===== a symbolic executor over bytecode: a value is a symbol and an offset, symbols lie within bounds, every cell is known ===== -/
/-- a value: 1 an int, 2 a long, 3 a reference (0 for null, else the number of its cell, from 1 on), 5 the script; the symbol; the offset -/
abbrev kc_V : Type := Nat × Nat × Int
/-- what a field or a component may hold: 1, 2, 3 as above; from; to -/
abbrev kc_F : Type := Nat × Int × Int
/-- a cell: 0 an object, 1 an array of small numbers, 2 of longs, 3 of references; its class; an array's components' type, its length, what its components are, but for the first, told one by one; an object's fields -/
abbrev kc_G : Type := Nat × Nat × FieldType × Nat × kc_F × List kc_F × List kc_V
abbrev kc_E : Type := List (Int × Int)
/-- bounds, locals, stack, cells, cells made, slots made -/
abbrev kc_S : Type := kc_E × List kc_V × List kc_V × List kc_G × Nat × Nat
def kc_lo (E : kc_E) (a : kc_V) : Int := (E.getD a.2.1 (0, 0)).1 + a.2.2
def kc_hi (E : kc_E) (a : kc_V) : Int := (E.getD a.2.1 (0, 0)).2 + a.2.2
/-- a number within bounds: as a constant, if they are one -/
def kc_mk (E : kc_E) (t : Nat) (lo hi : Int) : kc_E × kc_V := if lo = hi then (E, (t, 0, lo)) else (E ++ [(lo, hi)], (t, E.length, 0))
def kc_any (E : kc_E) : kc_E × kc_V := kc_mk E 1 (-2147483648) 2147483647
def kc_anyl (E : kc_E) : kc_E × kc_V := kc_mk E 2 (-9223372036854775808) 9223372036854775807
def kc_iadd (E : kc_E) (a b : kc_V) : kc_E × kc_V :=
  if (-2147483648) ≤ kc_lo E a + kc_lo E b ∧ kc_hi E a + kc_hi E b ≤ 2147483647 then
    (if kc_lo E b = kc_hi E b then (E, (1, a.2.1, a.2.2 + kc_lo E b)) else if kc_lo E a = kc_hi E a then (E, (1, b.2.1, b.2.2 + kc_lo E a)) else kc_mk E 1 (kc_lo E a + kc_lo E b) (kc_hi E a + kc_hi E b))
  else kc_any E
def kc_isub (E : kc_E) (a b : kc_V) : kc_E × kc_V :=
  if (-2147483648) ≤ kc_lo E a - kc_hi E b ∧ kc_hi E a - kc_lo E b ≤ 2147483647 then
    (if kc_lo E b = kc_hi E b then (E, (1, a.2.1, a.2.2 - kc_lo E b)) else if a.2.1 = b.2.1 then (E, (1, 0, a.2.2 - b.2.2)) else kc_mk E 1 (kc_lo E a - kc_hi E b) (kc_hi E a - kc_lo E b))
  else kc_any E
def kc_imul (E : kc_E) (a b : kc_V) : kc_E × kc_V :=
  if 0 ≤ kc_lo E a ∧ 0 ≤ kc_lo E b ∧ kc_hi E a * kc_hi E b ≤ 2147483647 then kc_mk E 1 (kc_lo E a * kc_lo E b) (kc_hi E a * kc_hi E b) else kc_any E
def kc_idiv (E : kc_E) (a b : kc_V) : kc_E × kc_V :=
  if 0 ≤ kc_lo E a ∧ 0 < kc_lo E b then (if kc_lo E b = kc_hi E b then kc_mk E 1 (kc_lo E a / kc_lo E b) (kc_hi E a / kc_lo E b) else kc_mk E 1 0 (kc_hi E a)) else kc_any E
def kc_irem (E : kc_E) (a b : kc_V) : kc_E × kc_V :=
  if 0 ≤ kc_lo E a ∧ 0 < kc_lo E b then kc_mk E 1 0 (if kc_hi E a ≤ kc_hi E b - 1 then kc_hi E a else kc_hi E b - 1) else kc_any E
def kc_iand (E : kc_E) (a b : kc_V) : kc_E × kc_V :=
  if 0 ≤ kc_lo E b then kc_mk E 1 0 (kc_hi E b) else if 0 ≤ kc_lo E a then kc_mk E 1 0 (kc_hi E a) else kc_any E
/-- constants are worked out, all else may be anything -/
def kc_con (f : Int32 → Int32 → Int32) (E : kc_E) (a b : kc_V) : kc_E × kc_V :=
  if kc_lo E a = kc_hi E a ∧ kc_lo E b = kc_hi E b then (E, (1, 0, (f (Int32.ofInt (kc_lo E a)) (Int32.ofInt (kc_lo E b))).toInt)) else kc_any E
/-- two ints on the stack, one comes -/
def kc_b32 (i : Instr) (E : kc_E) (a b : kc_V) : Option (kc_E × kc_V) := match i with
  | .iadd => some (kc_iadd E a b)
  | .isub => some (kc_isub E a b)
  | .imul => some (kc_imul E a b)
  | .idiv => if 0 < kc_lo E b ∨ kc_hi E b < 0 then some (kc_idiv E a b) else none
  | .irem => if 0 < kc_lo E b ∨ kc_hi E b < 0 then some (kc_irem E a b) else none
  | .iand => some (kc_iand E a b)
  | .ior => some (kc_con (· ||| ·) E a b)
  | .ixor => some (kc_con (· ^^^ ·) E a b)
  | .ishl => some (kc_con (fun x y => x <<< (y &&& 31)) E a b)
  | .ishr => some (kc_con (fun x y => x >>> (y &&& 31)) E a b)
  | .iushr => some (kc_con (fun x y => (x.toUInt32 >>> (y.toUInt32 &&& Int32.toUInt32 31)).toInt32) E a b)
  | _ => none
def kc_load (L : List kc_V) (t i : Nat) : Option kc_V := match L[i]? with
  | some a => if a.1 = t then some a else none
  | none => none
def kc_loadr (L : List kc_V) (i : Nat) : Option kc_V := match L[i]? with
  | some a => if a.1 = 3 ∨ a.1 = 5 then some a else none
  | none => none
/-- a local is written; a long that reached into it is gone -/
def kc_st1 (L : List kc_V) (i : Nat) (a : kc_V) : List kc_V := (match i with
  | 0 => L
  | j + 1 => match L[j]? with
    | some b => if b.1 = 2 then L.set j (0, 0, 0) else L
    | none => L).set i a
def kc_len : Instr → Nat
  | .iload _ => 2 | .lload _ => 2 | .aload _ => 2 | .istore _ => 2 | .lstore _ => 2 | .astore _ => 2
  | .bipush _ => 2 | .sipush _ => 3 | .iinc _ _ => 3
  | _ => 1
def kc_nz (E : kc_E) (b : kc_V) : Bool := decide (0 < kc_lo E b ∨ kc_hi E b < 0)
/-- two longs on the stack -/
def kc_isb64 (i : Instr) (E : kc_E) (b : kc_V) : Bool := match i with
  | .ladd => true | .lsub => true | .lmul => true | .land => true | .lor => true | .lxor => true
  | .ldiv => kc_nz E b | .lrem => kc_nz E b
  | _ => false
/-- an instruction that touches no cell -/
def kc_x1 (nL : Nat) (i : Instr) (E : kc_E) (L K : List kc_V) : Option (kc_E × List kc_V × List kc_V) := match i with
  | .iconst n => if -2147483648 ≤ n ∧ n ≤ 2147483647 then some (E, L, (1, 0, n) :: K) else none
  | .bipush n => if -128 ≤ n ∧ n ≤ 127 then some (E, L, (1, 0, n) :: K) else none
  | .sipush n => if -32768 ≤ n ∧ n ≤ 32767 then some (E, L, (1, 0, n) :: K) else none
  | .lconst n => some (E, L, (2, 0, ((n : Nat) : Int)) :: K)
  | .aconst_null => some (E, L, (3, 0, 0) :: K)
  | .iload j => (kc_load L 1 j).map fun a => (E, L, a :: K)
  | .iload_n j => (kc_load L 1 j).map fun a => (E, L, a :: K)
  | .lload j => (kc_load L 2 j).map fun a => (E, L, a :: K)
  | .lload_n j => (kc_load L 2 j).map fun a => (E, L, a :: K)
  | .aload j => (kc_loadr L j).map fun a => (E, L, a :: K)
  | .aload_n j => (kc_loadr L j).map fun a => (E, L, a :: K)
  | .istore j => match K with
    | (1, n, d) :: K' => if j < nL then some (E, kc_st1 L j (1, n, d), K') else none
    | _ => none
  | .istore_n j => match K with
    | (1, n, d) :: K' => if j < nL then some (E, kc_st1 L j (1, n, d), K') else none
    | _ => none
  | .astore j => match K with
    | (3, n, d) :: K' => if j < nL then some (E, kc_st1 L j (3, n, d), K') else none
    | _ => none
  | .astore_n j => match K with
    | (3, n, d) :: K' => if j < nL then some (E, kc_st1 L j (3, n, d), K') else none
    | _ => none
  | .lstore j => match K with
    | (2, n, d) :: K' => if j + 1 < nL then some (E, (kc_st1 L j (2, n, d)).set (j + 1) (0, 0, 0), K') else none
    | _ => none
  | .lstore_n j => match K with
    | (2, n, d) :: K' => if j + 1 < nL then some (E, (kc_st1 L j (2, n, d)).set (j + 1) (0, 0, 0), K') else none
    | _ => none
  | .iinc j n => if j < nL ∧ -2147483648 ≤ n ∧ n ≤ 2147483647 then (kc_load L 1 j).map fun a => ((kc_iadd E a (1, 0, n)).1, kc_st1 L j (kc_iadd E a (1, 0, n)).2, K) else none
  | .pop => match K with
    | a :: K' => if a.1 ≠ 2 then some (E, L, K') else none
    | _ => none
  | .dup => match K with
    | a :: K' => if a.1 ≠ 2 then some (E, L, a :: a :: K') else none
    | _ => none
  | .dup_x1 => match K with
    | a :: b :: K' => if a.1 ≠ 2 ∧ b.1 ≠ 2 then some (E, L, a :: b :: a :: K') else none
    | _ => none
  | .dup_x2 => match K with
    | a :: b :: d :: K' => if a.1 ≠ 2 ∧ b.1 ≠ 2 ∧ d.1 ≠ 2 then some (E, L, a :: b :: d :: a :: K') else none
    | _ => none
  | .dup2 => match K with
    | a :: b :: K' => if a.1 = 2 then some (E, L, a :: a :: b :: K') else if b.1 ≠ 2 then some (E, L, a :: b :: a :: b :: K') else none
    | _ => none
  | .ineg => match K with
    | (1, n, d) :: K' => some ((kc_isub E (1, 0, 0) (1, n, d)).1, L, (kc_isub E (1, 0, 0) (1, n, d)).2 :: K')
    | _ => none
  | .i2l => match K with
    | (1, n, d) :: K' => some (E, L, (2, n, d) :: K')
    | _ => none
  | .l2i => match K with
    | (2, n, d) :: K' => if -2147483648 ≤ kc_lo E (2, n, d) ∧ kc_hi E (2, n, d) ≤ 2147483647 then some (E, L, (1, n, d) :: K') else some ((kc_any E).1, L, (kc_any E).2 :: K')
    | _ => none
  | .i2b => match K with
    | (1, n, d) :: K' => some ((kc_mk E 1 (-128) 127).1, L, (kc_mk E 1 (-128) 127).2 :: K')
    | _ => none
  | .i2s => match K with
    | (1, n, d) :: K' => some ((kc_mk E 1 (-32768) 32767).1, L, (kc_mk E 1 (-32768) 32767).2 :: K')
    | _ => none
  | .lneg => match K with
    | (2, _, _) :: K' => some ((kc_anyl E).1, L, (kc_anyl E).2 :: K')
    | _ => none
  | .lshl => match K with
    | (1, _, _) :: (2, _, _) :: K' => some ((kc_anyl E).1, L, (kc_anyl E).2 :: K')
    | _ => none
  | .lshr => match K with
    | (1, _, _) :: (2, _, _) :: K' => some ((kc_anyl E).1, L, (kc_anyl E).2 :: K')
    | _ => none
  | .lushr => match K with
    | (1, _, _) :: (2, _, _) :: K' => some ((kc_anyl E).1, L, (kc_anyl E).2 :: K')
    | _ => none
  | i => match K with
    | (1, n2, d2) :: (1, n1, d1) :: K' => (kc_b32 i E (1, n1, d1) (1, n2, d2)).map fun r => (r.1, L, r.2 :: K')
    | (2, n2, d2) :: (2, _, _) :: K' => if kc_isb64 i E (2, n2, d2) = true then some ((kc_anyl E).1, L, (kc_anyl E).2 :: K') else none
    | _ => none
/-- a symbol's bounds, narrowed -/
def kc_ref (E : kc_E) (a : kc_V) (lo hi : Int) : kc_E := E.set a.2.1 (if (E.getD a.2.1 (0, 0)).1 ≤ lo - a.2.2 then lo - a.2.2 else (E.getD a.2.1 (0, 0)).1, if hi - a.2.2 ≤ (E.getD a.2.1 (0, 0)).2 then hi - a.2.2 else (E.getD a.2.1 (0, 0)).2)
def kc_emp (E : kc_E) (a : kc_V) : Bool := decide ((E.getD a.2.1 (0, 0)).2 < (E.getD a.2.1 (0, 0)).1)
def kc_dead (r : Nat) (a b : kc_V) : Bool := decide (a.2.1 = b.2.1) && match r with
  | 0 => decide (a.2.2 ≠ b.2.2) | 2 => decide (b.2.2 ≤ a.2.2) | 3 => decide (a.2.2 < b.2.2) | 4 => decide (a.2.2 ≤ b.2.2) | _ => decide (b.2.2 < a.2.2)
def kc_cn (r : Nat) (E : kc_E) (a b : kc_V) : kc_E := match r with
  | 0 => kc_ref (kc_ref E a (kc_lo E b) (kc_hi E b)) b (kc_lo E a) (kc_hi E a)
  | 2 => kc_ref (kc_ref E a (kc_lo E a) (kc_hi E b - 1)) b (kc_lo E a + 1) (kc_hi E b)
  | 3 => kc_ref (kc_ref E a (kc_lo E b) (kc_hi E a)) b (kc_lo E b) (kc_hi E a)
  | 4 => kc_ref (kc_ref E a (kc_lo E b + 1) (kc_hi E a)) b (kc_lo E b) (kc_hi E a - 1)
  | _ => kc_ref (kc_ref E a (kc_lo E a) (kc_hi E b)) b (kc_lo E a) (kc_hi E b)
abbrev kc_N : Type := Nat × kc_E × List kc_V
/-- where a comparison leads, if it can -/
def kc_s1 (r tgt : Nat) (E : kc_E) (a b : kc_V) (K : List kc_V) : List kc_N := if (kc_emp (kc_cn r E a b) a || kc_emp (kc_cn r E a b) b || kc_dead r a b) = true then [] else [(tgt, kc_cn r E a b, K)]
def kc_sc (r tgt : Nat) (E : kc_E) (a b : kc_V) (K : List kc_V) : List kc_N := if r = 1 then kc_s1 2 tgt E a b K ++ kc_s1 4 tgt E a b K else kc_s1 r tgt E a b K
def kc_neg (r : Nat) : Nat := match r with
  | 0 => 1 | 1 => 0 | 2 => 3 | 3 => 2 | 4 => 5 | _ => 4
def kc_code (q : Jvm.ClassFile.Cond) : Nat := match q with
  | .eq => 0 | .ne => 1 | .lt => 2 | .ge => 3 | .gt => 4 | .le => 5
/-- a switch's cases from k on -/
def kc_tab (pc : Nat) (E : kc_E) (a : kc_V) (K : List kc_V) : Int → List Int → List kc_N
  | _, [] => []
  | k, o :: os => kc_s1 0 ((pc : Int) + o).toNat E a (1, 0, k) K ++ kc_tab pc E a K (k + 1) os
def kc_lks (pc : Nat) (E : kc_E) (a : kc_V) (K : List kc_V) : List (Int × Int) → List kc_N
  | [] => []
  | o :: os => kc_s1 0 ((pc : Int) + o.2).toNat E a (1, 0, o.1) K ++ kc_lks pc E a K os
def kc_up (pc : Nat) (o : Int) : Bool := decide (0 ≤ (pc : Int) + o)
/-- .. and none of them -/
def kc_lkn (tgt : Nat) (E : kc_E) (a : kc_V) (K : List kc_V) : List (Int × Int) → List kc_N
  | [] => [(tgt, E, K)]
  | o :: os => (kc_sc 1 tgt E a (1, 0, o.1) K).flatMap (fun q => kc_lkn tgt q.2.1 a K os)
/-- an instruction that goes elsewhere -/
def kc_x2 (i : Instr) (pc : Nat) (E : kc_E) (K : List kc_V) : Option (List kc_N) := match i with
  | .goto o => if kc_up pc o = true then some [(((pc : Int) + o).toNat, E, K)] else none
  | .ifCond q o => match K with
    | (1, n, d) :: K' => if kc_up pc o = true then some (kc_sc (kc_code q) ((pc : Int) + o).toNat E (1, n, d) (1, 0, 0) K' ++ kc_sc (kc_neg (kc_code q)) (pc + 3) E (1, n, d) (1, 0, 0) K') else none
    | _ => none
  | .if_icmp q o => match K with
    | (1, n2, d2) :: (1, n1, d1) :: K' => if kc_up pc o = true then some (kc_sc (kc_code q) ((pc : Int) + o).toNat E (1, n1, d1) (1, n2, d2) K' ++ kc_sc (kc_neg (kc_code q)) (pc + 3) E (1, n1, d1) (1, n2, d2) K') else none
    | _ => none
  | .ifnull o => match K with
    | (3, n, d) :: K' => if kc_up pc o = true then some (kc_s1 0 ((pc : Int) + o).toNat E (3, n, d) (3, 0, 0) K' ++ kc_s1 4 (pc + 3) E (3, n, d) (3, 0, 0) K') else none
    | _ => none
  | .ifnonnull o => match K with
    | (3, n, d) :: K' => if kc_up pc o = true then some (kc_s1 4 ((pc : Int) + o).toNat E (3, n, d) (3, 0, 0) K' ++ kc_s1 0 (pc + 3) E (3, n, d) (3, 0, 0) K') else none
    | _ => none
  | .tableswitch o lo hi os => match K with
    | (1, n, d) :: K' => if (kc_up pc o && os.toList.all (kc_up pc) && decide ((os.size : Int) = hi - lo + 1)) = true then some (kc_tab pc E (1, n, d) K' lo os.toList ++ (kc_s1 2 ((pc : Int) + o).toNat E (1, n, d) (1, 0, lo) K' ++ kc_s1 4 ((pc : Int) + o).toNat E (1, n, d) (1, 0, hi) K')) else none
    | _ => none
  | .lookupswitch o ps => match K with
    | (1, n, d) :: K' => if (kc_up pc o && ps.toList.all (fun q => kc_up pc q.2) && (ps.toList.zip (ps.toList.drop 1)).all (fun (a, next) => a.1 < next.1)) = true then some (kc_lks pc E (1, n, d) K' ps.toList ++ kc_lkn ((pc : Int) + o).toNat E (1, n, d) K' ps.toList) else none
    | _ => none
  | _ => none
/-- two longs compared, and a jump by it -/
def kc_x3 (j : Instr) (pc : Nat) (E : kc_E) (K : List kc_V) : Option (List kc_N) := match j with
  | .ifCond q o => match K with
    | (2, n2, d2) :: (2, n1, d1) :: K' => if kc_up (pc + 1) o = true then some (kc_sc (kc_code q) (((pc + 1 : Nat) : Int) + o).toNat E (2, n1, d1) (2, n2, d2) K' ++ kc_sc (kc_neg (kc_code q)) (pc + 4) E (2, n1, d1) (2, n2, d2) K') else none
    | _ => none
  | _ => none
/-- the number of a cell that a value names, if it is known (from 0 on), and the cell -/
def kc_cell (Hs : List kc_G) (E : kc_E) (a : kc_V) : Option (Nat × kc_G) := if kc_lo E a = kc_hi E a ∧ 1 ≤ kc_lo E a then (Hs[(kc_lo E a - 1).toNat]?).map fun g => ((kc_lo E a - 1).toNat, g) else none
/-- what is read of f -/
def kc_rd (E : kc_E) (f : kc_F) : kc_E × kc_V := kc_mk E f.1 f.2.1 f.2.2
def kc_fit (ty : FieldType) (f : kc_F) : Bool := match ty with
  | .int => decide (f.1 = 1)
  | .boolean => decide (f.1 = 1 ∧ 0 ≤ f.2.1 ∧ f.2.2 ≤ 1)
  | .long => decide (f.1 = 2)
  | .object _ => decide (f.1 = 3)
  | .array _ => decide (f.1 = 3)
  | _ => false
def kc_fv (E : kc_E) (a : kc_V) : kc_F := (a.1, kc_lo E a, kc_hi E a)
def kc_join (f g : kc_F) : kc_F := (f.1, if f.2.1 ≤ g.2.1 then f.2.1 else g.2.1, if g.2.2 ≤ f.2.2 then f.2.2 else g.2.2)
def kc_joins (f : kc_F) (fs : List kc_F) : kc_F := fs.foldl kc_join f
/-- is f within g? -/
def kc_sub (f g : kc_F) : Bool := decide (f.1 = g.1 ∧ g.2.1 ≤ f.2.1 ∧ f.2.2 ≤ g.2.2)
def kc_dft (ty : FieldType) : kc_V := match ty with
  | .long => (2, 0, 0)
  | .object _ => (3, 0, 0) | .array _ => (3, 0, 0)
  | _ => (1, 0, 0)
def kc_get (fl : Nat → Option (Nat × Nat)) (ix : Nat) (E : kc_E) (K : List kc_V) (Hs : List kc_G) : Option (List kc_V) := match K with
  | (3, n, d) :: K' => match kc_cell Hs E (3, n, d), fl ix with
    | some (_, (0, ci, _, _, _, _, vs)), some (ci', k) => match vs[k]? with
      | some a => if ci = ci' then some (a :: K') else none
      | none => none
    | _, _ => none
  | _ => none
def kc_put (fl : Nat → Option (Nat × Nat)) (fd : Nat → List (FieldType × Bool)) (ini : Bool) (oci ix : Nat) (E : kc_E) (K : List kc_V) (Hs : List kc_G) : Option (List kc_V × List kc_G) := match K with
  | a :: (3, n, d) :: K' => match kc_cell Hs E (3, n, d), fl ix with
    | some (r, (0, ci, ty, len, f0, fs, vs)), some (ci', k) => match (fd ci)[k]? with
      | some z => if (decide (ci = ci') && kc_fit z.1 (kc_fv E a) && decide (k < vs.length) && (!z.2 || (ini && decide (ci = oci)))) = true then some (K', Hs.set r (0, ci, ty, len, f0, fs, vs.set k a)) else none
      | none => none
    | _, _ => none
  | _ => none
def kc_ix (E : kc_E) (i : kc_V) (n : Nat) : Bool := decide (0 ≤ kc_lo E i ∧ kc_hi E i < (n : Int))
def kc_alk (ins : Instr) (kd : Nat) (ty : FieldType) : Bool := match ins with
  | .iaload => decide (kd = 1 ∧ ty = .int)
  | .baload => decide (kd = 1 ∧ (ty = .byte ∨ ty = .boolean))
  | .saload => decide (kd = 1 ∧ ty = .short)
  | .laload => decide (kd = 2)
  | .aaload => decide (kd = 3 ∧ ty.isReference = true)
  | _ => false
/-- what is read at i -/
def kc_at (E : kc_E) (i : kc_V) (d : kc_F) (fs : List kc_F) : kc_F := if kc_lo E i = kc_hi E i then fs.getD (kc_lo E i).toNat d else kc_joins d fs
def kc_ald (ins : Instr) (E : kc_E) (K : List kc_V) (Hs : List kc_G) : Option (kc_E × List kc_V) := match K with
  | (1, ni, di) :: (3, n, d) :: K' => match kc_cell Hs E (3, n, d) with
    | some (_, (kd, _, ty, len, f0, fs, _)) => if (kc_alk ins kd ty && kc_ix E (1, ni, di) len && decide (f0.1 = kd)) = true then some ((kc_rd E (kc_at E (1, ni, di) f0 fs)).1, (kc_rd E (kc_at E (1, ni, di) f0 fs)).2 :: K') else none
    | none => none
  | _ => none
def kc_aln (E : kc_E) (K : List kc_V) (Hs : List kc_G) : Option (kc_E × List kc_V) := match K with
  | (3, n, d) :: K' => match kc_cell Hs E (3, n, d) with
    | some (_, (kd, _, _, len, _)) => if kd ≠ 0 ∧ len ≤ 2147483647 then some (E, (1, 0, (len : Int)) :: K') else none
    | none => none
  | _ => none
def kc_ask (ins : Instr) (kd : Nat) (ty : FieldType) (f : kc_F) : Bool := match ins with
  | .iastore => decide (kd = 1 ∧ ty = .int ∧ f.1 = 1)
  | .bastore => decide (kd = 1 ∧ ((ty = .byte ∧ f.1 = 1 ∧ -128 ≤ f.2.1 ∧ f.2.2 ≤ 127) ∨ (ty = .boolean ∧ f.1 = 1 ∧ 0 ≤ f.2.1 ∧ f.2.2 ≤ 1)))
  | .sastore => decide (kd = 1 ∧ ty = .short ∧ f.1 = 1 ∧ -32768 ≤ f.2.1 ∧ f.2.2 ≤ 32767)
  | .lastore => decide (kd = 2 ∧ f.1 = 2)
  | _ => false
/-- what is there behind a write at i -/
def kc_wr (E : kc_E) (i : kc_V) (d : kc_F) (fs : List kc_F) (f : kc_F) : kc_F × List kc_F :=
  if kc_lo E i = kc_hi E i then
    (if (kc_lo E i).toNat < fs.length then (d, fs.set (kc_lo E i).toNat f) else if kc_sub f d = true then (d, fs) else if (kc_lo E i).toNat ≤ 40 then (d, fs ++ List.replicate ((kc_lo E i).toNat - fs.length) d ++ [f]) else (kc_join d f, fs))
  else (if kc_sub f d = true ∧ fs = [] then (d, fs) else (kc_join (kc_joins d fs) f, []))
def kc_ast (ins : Instr) (E : kc_E) (K : List kc_V) (Hs : List kc_G) : Option (List kc_V × List kc_G) := match K with
  | a :: (1, ni, di) :: (3, n, d) :: K' => match kc_cell Hs E (3, n, d) with
    | some (r, (kd, ci, ty, len, f0, fs, vs)) => if (kc_ask ins kd ty (kc_fv E a) && kc_ix E (1, ni, di) len && decide (f0.1 = kd)) = true then some (K', Hs.set r (kd, ci, ty, len, (kc_wr E (1, ni, di) f0 fs (kc_fv E a)).1, (kc_wr E (1, ni, di) f0 fs (kc_fv E a)).2, vs)) else none
    | none => none
  | _ => none
/-- a reference put into an array: its cell's class is the component's -/
def kc_aas (cn : Nat → FieldType) (E : kc_E) (K : List kc_V) (Hs : List kc_G) : Option (List kc_V × List kc_G) := match K with
  | (3, na, da) :: (1, ni, di) :: (3, n, d) :: K' => match kc_cell Hs E (3, n, d), kc_cell Hs E (3, na, da) with
    | some (r, (3, ci, ty, len, f0, fs, vs)), some (_, (0, ca, _)) => if (decide (ty = cn ca) && kc_ix E (1, ni, di) len && decide (f0.1 = 3)) = true then some (K', Hs.set r (3, ci, ty, len, (kc_wr E (1, ni, di) f0 fs (kc_fv E (3, na, da))).1, (kc_wr E (1, ni, di) f0 fs (kc_fv E (3, na, da))).2, vs)) else none
    | _, _ => none
  | _ => none
def kc_new (nw : Nat → Option Nat) (fd : Nat → List (FieldType × Bool)) (RC RS ix : Nat) (E : kc_E) (K : List kc_V) (Hs : List kc_G) (cs ss : Nat) : Option (List kc_V × List kc_G × Nat × Nat) := match nw ix with
  | some ci => if cs + 1 ≤ RC ∧ ss + (fd ci).length ≤ RS then some ((3, 0, ((Hs.length + 1 : Nat) : Int)) :: K, Hs ++ [(0, ci, .int, 0, (0, 0, 0), [], (fd ci).map (fun z => kc_dft z.1))], cs + 1, ss + (fd ci).length) else none
  | none => none
def kc_nar (RC RS : Nat) (at0 : ArrayType) (E : kc_E) (K : List kc_V) (Hs : List kc_G) (cs ss : Nat) : Option (List kc_V × List kc_G × Nat × Nat) := match K with
  | (1, n, d) :: K' => if kc_lo E (1, n, d) = kc_hi E (1, n, d) ∧ 0 ≤ kc_lo E (1, n, d) ∧ kc_lo E (1, n, d) ≤ 60000000 ∧ cs + 1 ≤ RC ∧ ss + (kc_lo E (1, n, d)).toNat ≤ RS then
      (match at0 with
      | .int => some ((3, 0, ((Hs.length + 1 : Nat) : Int)) :: K', Hs ++ [(1, 0, .int, (kc_lo E (1, n, d)).toNat, (1, 0, 0), [], [])], cs + 1, ss + (kc_lo E (1, n, d)).toNat)
      | .byte => some ((3, 0, ((Hs.length + 1 : Nat) : Int)) :: K', Hs ++ [(1, 0, .byte, (kc_lo E (1, n, d)).toNat, (1, 0, 0), [], [])], cs + 1, ss + (kc_lo E (1, n, d)).toNat)
      | .short => some ((3, 0, ((Hs.length + 1 : Nat) : Int)) :: K', Hs ++ [(1, 0, .short, (kc_lo E (1, n, d)).toNat, (1, 0, 0), [], [])], cs + 1, ss + (kc_lo E (1, n, d)).toNat)
      | .boolean => some ((3, 0, ((Hs.length + 1 : Nat) : Int)) :: K', Hs ++ [(1, 0, .boolean, (kc_lo E (1, n, d)).toNat, (1, 0, 0), [], [])], cs + 1, ss + (kc_lo E (1, n, d)).toNat)
      | .long => some ((3, 0, ((Hs.length + 1 : Nat) : Int)) :: K', Hs ++ [(2, 0, .long, (kc_lo E (1, n, d)).toNat, (2, 0, 0), [], [])], cs + 1, ss + (kc_lo E (1, n, d)).toNat)
      | _ => none)
      else none
  | _ => none
def kc_ana (aw : Nat → Option FieldType) (RC RS ix : Nat) (E : kc_E) (K : List kc_V) (Hs : List kc_G) (cs ss : Nat) : Option (List kc_V × List kc_G × Nat × Nat) := match K, aw ix with
  | (1, n, d) :: K', some ty => if kc_lo E (1, n, d) = kc_hi E (1, n, d) ∧ 0 ≤ kc_lo E (1, n, d) ∧ kc_lo E (1, n, d) ≤ 60000000 ∧ cs + 1 ≤ RC ∧ ss + (kc_lo E (1, n, d)).toNat ≤ RS then
      some ((3, 0, ((Hs.length + 1 : Nat) : Int)) :: K', Hs ++ [(3, 0, ty, (kc_lo E (1, n, d)).toNat, (3, 0, 0), [], [])], cs + 1, ss + (kc_lo E (1, n, d)).toNat) else none
  | _, _ => none
/-- an array of arrays of ints -/
def kc_mna (mw : Nat → Bool) (RC RS ix : Nat) (E : kc_E) (K : List kc_V) (Hs : List kc_G) (cs ss : Nat) : Option (List kc_V × List kc_G × Nat × Nat) := match K with
  | (1, n2, d2) :: (1, n1, d1) :: K' => if mw ix = true ∧ kc_lo E (1, n1, d1) = kc_hi E (1, n1, d1) ∧ 0 ≤ kc_lo E (1, n1, d1) ∧ kc_lo E (1, n1, d1) ≤ 60000 ∧ kc_lo E (1, n2, d2) = kc_hi E (1, n2, d2) ∧ 0 ≤ kc_lo E (1, n2, d2) ∧ kc_lo E (1, n2, d2) ≤ 60000 ∧ cs + 1 + (kc_lo E (1, n1, d1)).toNat ≤ RC ∧ ss + (kc_lo E (1, n1, d1)).toNat + (kc_lo E (1, n1, d1)).toNat * (kc_lo E (1, n2, d2)).toNat ≤ RS then
      some ((3, 0, ((Hs.length + 1 : Nat) : Int)) :: K', Hs ++ [(3, 0, .array .int, (kc_lo E (1, n1, d1)).toNat, (3, 0, 0), (List.range (kc_lo E (1, n1, d1)).toNat).map (fun j => (3, ((Hs.length + 2 + j : Nat) : Int), ((Hs.length + 2 + j : Nat) : Int))), [])] ++ List.replicate (kc_lo E (1, n1, d1)).toNat (1, 0, .int, (kc_lo E (1, n2, d2)).toNat, (1, 0, 0), [], []), cs + 1 + (kc_lo E (1, n1, d1)).toNat, ss + (kc_lo E (1, n1, d1)).toNat + (kc_lo E (1, n1, d1)).toNat * (kc_lo E (1, n2, d2)).toNat) else none
  | _ => none
def kc_cat (K : List kc_V) : Nat := (K.map fun a => if a.1 = 2 then 2 else 1).sum
/-- one state for each number that an index may be -/
def kc_spl (pc : Nat) (E : kc_E) (i : kc_V) (K : List kc_V) : List kc_N := (List.range (kc_hi E i - kc_lo E i + 1).toNat).flatMap (fun (j : Nat) => kc_s1 0 pc E i (1, 0, kc_lo E i + (j : Int)) K)
/-- where an array of references is read or written at a place that isn't known -/
def kc_x4 (ins : Instr) (pc : Nat) (E : kc_E) (K : List kc_V) : Option (List kc_N) := match ins, K with
  | .aaload, (1, n, d) :: K' => if kc_lo E (1, n, d) = kc_hi E (1, n, d) ∨ 63 < kc_hi E (1, n, d) - kc_lo E (1, n, d) then none else some (kc_spl pc E (1, n, d) ((1, n, d) :: K'))
  | .aastore, a :: (1, n, d) :: K' => if kc_lo E (1, n, d) = kc_hi E (1, n, d) ∨ 63 < kc_hi E (1, n, d) - kc_lo E (1, n, d) then none else some (kc_spl pc E (1, n, d) (a :: (1, n, d) :: K'))
  | _, _ => none
/-- ints copied from one array to another -/
def kc_acp (E : kc_E) (K : List kc_V) (Hs : List kc_G) : Option (List kc_V × List kc_G) := match K with
  | (1, nl, dl) :: (1, nq, dq) :: (3, nd, dd) :: (1, np, dp) :: (3, ns, ds) :: K' => match kc_cell Hs E (3, ns, ds), kc_cell Hs E (3, nd, dd) with
    | some (_, (1, _, .int, len, f0, fs, _)), some (r, (1, ci, .int, len', f0', fs', vs')) =>
      if f0.1 = 1 ∧ f0'.1 = 1 ∧ kc_cat K' ≤ 8 ∧ 0 ≤ kc_lo E (1, np, dp) ∧ 0 ≤ kc_lo E (1, nq, dq) ∧ 0 ≤ kc_lo E (1, nl, dl) ∧ kc_hi E (1, np, dp) + kc_hi E (1, nl, dl) ≤ (len : Int) ∧ kc_hi E (1, nq, dq) + kc_hi E (1, nl, dl) ≤ (len' : Int) then
        some (K', Hs.set r (if kc_sub (kc_joins f0 fs) f0' = true ∧ fs' = [] then (1, ci, .int, len', f0', fs', vs') else (1, ci, .int, len', kc_join (kc_joins f0' fs') (kc_joins f0 fs), [], vs'))) else none
    | _, _ => none
  | _ => none
/-- the greater, or the lesser, of two ints -/
def kc_mm (mx : Bool) (E : kc_E) (a b : kc_V) : kc_E × kc_V := match mx with
  | true => if kc_hi E b ≤ kc_lo E a then (E, a) else if kc_hi E a ≤ kc_lo E b then (E, b) else kc_mk E 1 (if kc_lo E a ≤ kc_lo E b then kc_lo E b else kc_lo E a) (if kc_hi E a ≤ kc_hi E b then kc_hi E b else kc_hi E a)
  | false => if kc_hi E a ≤ kc_lo E b then (E, a) else if kc_hi E b ≤ kc_lo E a then (E, b) else kc_mk E 1 (if kc_lo E a ≤ kc_lo E b then kc_lo E a else kc_lo E b) (if kc_hi E a ≤ kc_hi E b then kc_hi E a else kc_hi E b)
