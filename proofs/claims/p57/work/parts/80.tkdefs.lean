/-! ===== an executor over a typed heap: every cell has a kind, a state holds symbols, locals, stack, and facts about places ===== -/
/-- a number: a symbol and an offset -/
abbrev tk_P : Type := Nat × Int
/-- a value: 0 nothing, 1 an int, 2 a long, 5 the script, 6 a text, 10 + k a reference to a cell of kind k (its number from 1 on, 0 null); its number -/
abbrev tk_V : Type := Nat × tk_P
/-- what a place may hold: 1, 2, 10 + k as above; from; to -/
abbrev tk_F : Type := Nat × Int × Int
/-- a symbol: from, to, and what it is: 1 the sum of two and a number, 2 their difference and a number -/
abbrev tk_N : Type := Int × Int × Nat × Nat × Nat × Int
abbrev tk_E : Type := List tk_N
/-- facts: a cell's number, a place, what stands there -/
abbrev tk_M : Type := List (tk_V × tk_V × tk_V)
/-- symbols, locals, stack, facts, cells made, slots made -/
abbrev tk_S : Type := tk_E × List tk_V × List tk_V × tk_M × Nat × Nat
/-- a kind: 0 an object, 1 an array of small numbers, 2 of longs, 3 of references; its class; components' type, length, what they are, the first ones told one by one; an object's fields, each by what it may be; are its reads kept as facts -/
abbrev tk_G : Type := Nat × Nat × FieldType × Nat × tk_F × List tk_F × List (List tk_F) × Bool
def tk_at (E : tk_E) (k : Nat) : tk_N := E.getD k (0, 0, 0, 0, 0, 0)
def tk_lo (E : tk_E) (a : tk_P) : Int := (tk_at E a.1).1 + a.2
def tk_hi (E : tk_E) (a : tk_P) : Int := (tk_at E a.1).2.1 + a.2
def tk_con (E : tk_E) (a : tk_P) : Bool := decide (tk_lo E a = tk_hi E a)
def tk_mk (E : tk_E) (lo hi : Int) : tk_E × tk_P := if lo = hi then (E, (0, lo)) else (E ++ [(lo, hi, 0, 0, 0, 0)], (E.length, 0))
def tk_mt (p : Int × Int) (lo hi : Int) : Int × Int := (if p.1 ≤ lo then lo else p.1, if hi ≤ p.2 then hi else p.2)
/-- from w to b, behind a step within lo, hi -/
def tk_B3 (E : tk_E) (w b : Nat) (lo hi : Int) (p : Int × Int) : Int × Int := E.foldl (fun p f => if (Nat.beq f.2.2.1 2 && Nat.beq f.2.2.2.1 w && Nat.beq f.2.2.2.2.1 b) = true then tk_mt p (lo + (f.1 - f.2.2.2.2.2)) (hi + (f.2.1 - f.2.2.2.2.2)) else p) p
/-- bounds of a difference -/
def tk_B2 (E : tk_E) (a b : Nat) : Int × Int := if Nat.beq a b = true then (0, 0) else E.foldl (fun p e => if Nat.beq e.2.2.1 2 = true then
    (let q := if (Nat.beq e.2.2.2.1 a && Nat.beq e.2.2.2.2.1 b) = true then tk_mt p (e.1 - e.2.2.2.2.2) (e.2.1 - e.2.2.2.2.2) else if (Nat.beq e.2.2.2.1 b && Nat.beq e.2.2.2.2.1 a) = true then tk_mt p (e.2.2.2.2.2 - e.2.1) (e.2.2.2.2.2 - e.1) else p
     if Nat.beq e.2.2.2.1 a = true then tk_B3 E e.2.2.2.2.1 b (e.1 - e.2.2.2.2.2) (e.2.1 - e.2.2.2.2.2) q else q) else p) ((tk_at E a).1 - (tk_at E b).2.1, (tk_at E a).2.1 - (tk_at E b).1)
/-- a sum p + q by one that is known, p + w, and q - w -/
def tk_B4 (E : tk_E) (e : tk_N) (p q : Nat) (z : Int × Int) : Int × Int :=
  if Nat.beq e.2.2.2.1 p = true then (let d := tk_B2 E q e.2.2.2.2.1; tk_mt z (e.1 - e.2.2.2.2.2 + d.1) (e.2.1 - e.2.2.2.2.2 + d.2))
  else if Nat.beq e.2.2.2.2.1 p = true then (let d := tk_B2 E q e.2.2.2.1; tk_mt z (e.1 - e.2.2.2.2.2 + d.1) (e.2.1 - e.2.2.2.2.2 + d.2)) else z
/-- bounds of a sum -/
def tk_B1 (E : tk_E) (a b : Nat) : Int × Int := E.foldl (fun p e => if Nat.beq e.2.2.1 1 = true then
    (let q := if ((Nat.beq e.2.2.2.1 a && Nat.beq e.2.2.2.2.1 b) || (Nat.beq e.2.2.2.1 b && Nat.beq e.2.2.2.2.1 a)) = true then tk_mt p (e.1 - e.2.2.2.2.2) (e.2.1 - e.2.2.2.2.2) else p
     tk_B4 E e b a (tk_B4 E e a b q)) else p) ((tk_at E a).1 + (tk_at E b).1, (tk_at E a).2.1 + (tk_at E b).2.1)
/-- a sum or a difference that a symbol is already -/
def tk_fd (op a b : Nat) : Nat → tk_E → Option (Nat × Int)
  | _, [] => none
  | k, e :: es => if (Nat.beq e.2.2.1 op && ((Nat.beq e.2.2.2.1 a && Nat.beq e.2.2.2.2.1 b) || (Nat.beq op 1 && (Nat.beq e.2.2.2.1 b && Nat.beq e.2.2.2.2.1 a)))) = true then some (k, e.2.2.2.2.2) else tk_fd op a b (k + 1) es
/-- .. or that is plainer -/
def tk_sm (E : tk_E) (op a b : Nat) : Option tk_P :=
  if Nat.beq op 1 = true then
    (if (Nat.beq (tk_at E b).2.2.1 2 && Nat.beq (tk_at E b).2.2.2.2.1 a) = true then some ((tk_at E b).2.2.2.1, (tk_at E b).2.2.2.2.2)
     else if (Nat.beq (tk_at E a).2.2.1 2 && Nat.beq (tk_at E a).2.2.2.2.1 b) = true then some ((tk_at E a).2.2.2.1, (tk_at E a).2.2.2.2.2) else none)
  else
    (if (Nat.beq (tk_at E a).2.2.1 1 && Nat.beq (tk_at E a).2.2.2.1 b) = true then some ((tk_at E a).2.2.2.2.1, (tk_at E a).2.2.2.2.2)
     else if (Nat.beq (tk_at E a).2.2.1 1 && Nat.beq (tk_at E a).2.2.2.2.1 b) = true then some ((tk_at E a).2.2.2.1, (tk_at E a).2.2.2.2.2)
     else if (Nat.beq (tk_at E b).2.2.1 2 && Nat.beq (tk_at E b).2.2.2.1 a) = true then some ((tk_at E b).2.2.2.2.1, -(tk_at E b).2.2.2.2.2) else none)
def tk_lin (E : tk_E) (op a b : Nat) (c : Int) : tk_E × tk_P := match tk_sm E op a b with
  | some p => (E, (p.1, p.2 + c))
  | none => match tk_fd op a b 0 E with
    | some q => (E, (q.1, c - q.2))
    | none => (E ++ [(if Nat.beq op 1 = true then ((tk_B1 E a b).1, (tk_B1 E a b).2, 1, a, b, 0) else ((tk_B2 E a b).1, (tk_B2 E a b).2, 2, a, b, 0))], (E.length, c))
/-- bounds narrowed, from below, from above -/
def tk_rl (E : tk_E) (s : Nat) (l : Int) : tk_E := E.set s (if (tk_at E s).1 ≤ l then l else (tk_at E s).1, (tk_at E s).2)
def tk_rh (E : tk_E) (s : Nat) (h : Int) : tk_E := E.set s ((tk_at E s).1, if h ≤ (tk_at E s).2.1 then h else (tk_at E s).2.1, (tk_at E s).2.2)
def tk_rf (E : tk_E) (s : Nat) (l h : Int) : tk_E := tk_rh (tk_rl E s l) s h
/-- through what a symbol is -/
def tk_tg (E : tk_E) (k : Nat) : tk_E :=
  let e := tk_at E k
  let A := tk_at E e.2.2.2.1
  let B := tk_at E e.2.2.2.2.1
  let c := e.2.2.2.2.2
  if Nat.beq e.2.2.1 1 = true then
    (let E1 := tk_rf E k (A.1 + B.1 + c) (A.2.1 + B.2.1 + c)
     let l := (tk_at E1 k).1 - c
     let h := (tk_at E1 k).2.1 - c
     tk_rf (tk_rf E1 e.2.2.2.1 (l - B.2.1) (h - B.1)) e.2.2.2.2.1 (l - A.2.1) (h - A.1))
  else if Nat.beq e.2.2.1 2 = true then
    (let E1 := tk_rf E k (A.1 - B.2.1 + c) (A.2.1 - B.1 + c)
     let l := (tk_at E1 k).1 - c
     let h := (tk_at E1 k).2.1 - c
     tk_rf (tk_rf E1 e.2.2.2.1 (l + B.1) (h + B.2.1)) e.2.2.2.2.1 (A.1 - h) (A.2.1 - l))
  else E
def tk_ds : Nat → tk_E → List Nat
  | _, [] => []
  | k, e :: es => if Nat.beq e.2.2.1 0 = true then tk_ds (k + 1) es else k :: tk_ds (k + 1) es
/-- the sums and differences that have to do with some symbols -/
def tk_dl (l : List Nat) : Nat → tk_E → List Nat
  | _, [] => []
  | k, e :: es => if Nat.beq e.2.2.1 0 = true then tk_dl l (k + 1) es else if (l.any (fun j => Nat.beq j k || Nat.beq j e.2.2.2.1 || Nat.beq j e.2.2.2.2.1)) = true then k :: tk_dl l (k + 1) es else tk_dl l (k + 1) es
def tk_tt (l : List Nat) (E : tk_E) : tk_E := (tk_dl l 0 E).foldl tk_tg E
def tk_bad (E : tk_E) (k : Nat) : Bool := decide ((tk_at E k).2.1 < (tk_at E k).1)
def tk_em (l : List Nat) (E : tk_E) : Bool := l.any (tk_bad E) || (tk_dl l 0 E).any (fun k => tk_bad E k || tk_bad E (tk_at E k).2.2.2.1 || tk_bad E (tk_at E k).2.2.2.2.1)
/-- comparisons: 0 =, 2 <, 3 >=, 4 >, 5 <= -/
def tk_dd (r : Nat) (a b : tk_P) : Bool := match r with
  | 0 => decide (a.2 = b.2) | 2 => decide (a.2 < b.2) | 3 => decide (b.2 ≤ a.2) | 4 => decide (b.2 < a.2) | _ => decide (a.2 ≤ b.2)
/-- a number's own bounds by a comparison with k -/
def tk_nr (r : Nat) (E : tk_E) (s : Nat) (k : Int) : tk_E := match r with
  | 0 => tk_rf E s k k | 2 => tk_rh E s (k - 1) | 3 => tk_rl E s k | 4 => tk_rl E s (k + 1) | _ => tk_rh E s k
def tk_cn (r : Nat) (E E0 : tk_E) (a b : tk_P) : tk_E := match r with
  | 0 => tk_rf (tk_rf E a.1 (tk_lo E0 b - a.2) (tk_hi E0 b - a.2)) b.1 (tk_lo E0 a - b.2) (tk_hi E0 a - b.2)
  | 2 => tk_rl (tk_rh E a.1 (tk_hi E0 b - 1 - a.2)) b.1 (tk_lo E0 a + 1 - b.2)
  | 3 => tk_rh (tk_rl E a.1 (tk_lo E0 b - a.2)) b.1 (tk_hi E0 a - b.2)
  | 4 => tk_rh (tk_rl E a.1 (tk_lo E0 b + 1 - a.2)) b.1 (tk_hi E0 a - 1 - b.2)
  | _ => tk_rl (tk_rh E a.1 (tk_hi E0 b - a.2)) b.1 (tk_lo E0 a - b.2)
def tk_c1 (r : Nat) (E : tk_E) (a b : tk_P) : Option tk_E :=
  if Nat.beq a.1 b.1 = true then (if tk_dd r a b = true then some E else none)
  else
    (let E1 : tk_E × Nat := if (tk_con E a || tk_con E b) = true then (E, a.1) else (let q := tk_lin E 2 a.1 b.1 0; (tk_nr r q.1 q.2.1 (b.2 - a.2 - q.2.2), q.2.1))
     let E3 := tk_tt [a.1, b.1, E1.2] (tk_cn r E1.1 E a b)
     if tk_em [a.1, b.1, E1.2] E3 = true then none else some E3)
abbrev tk_O : Type := Nat × tk_E × List tk_V
def tk_s1 (r tgt : Nat) (E : tk_E) (a b : tk_P) (K : List tk_V) : List tk_O := match tk_c1 r E a b with
  | some E' => [(tgt, E', K)]
  | none => []
/-- unequal -/
def tk_ne (tgt : Nat) (E : tk_E) (a b : tk_P) (K : List tk_V) : List tk_O :=
  if Nat.beq a.1 b.1 = true then (if a.2 = b.2 then [] else [(tgt, E, K)])
  else if (tk_con E a || tk_con E b) = true then tk_s1 2 tgt E a b K ++ tk_s1 4 tgt E a b K
  else if (tk_B2 E a.1 b.1).1 = b.2 - a.2 then tk_s1 4 tgt E a b K
  else if (tk_B2 E a.1 b.1).2 = b.2 - a.2 then tk_s1 2 tgt E a b K
  else [(tgt, E, K)]
def tk_sc (r tgt : Nat) (E : tk_E) (a b : tk_P) (K : List tk_V) : List tk_O := if Nat.beq r 1 = true then tk_ne tgt E a b K else tk_s1 r tgt E a b K
-- numbers: t 1 ints, 2 longs
def tk_Rl (t : Nat) : Int := if Nat.beq t 1 = true then -2147483648 else -9223372036854775808
def tk_Rh (t : Nat) : Int := if Nat.beq t 1 = true then 2147483647 else 9223372036854775807
def tk_any (t : Nat) (E : tk_E) : tk_E × tk_P := tk_mk E (tk_Rl t) (tk_Rh t)
def tk_add (t : Nat) (E : tk_E) (a b : tk_P) : tk_E × tk_P :=
  if tk_Rl t ≤ tk_lo E a + tk_lo E b ∧ tk_hi E a + tk_hi E b ≤ tk_Rh t then
    (if tk_con E b = true then (E, (a.1, a.2 + tk_lo E b)) else if tk_con E a = true then (E, (b.1, b.2 + tk_lo E a)) else tk_lin E 1 a.1 b.1 (a.2 + b.2))
  else tk_any t E
def tk_sub (t : Nat) (E : tk_E) (a b : tk_P) : tk_E × tk_P :=
  if tk_Rl t ≤ tk_lo E a - tk_hi E b ∧ tk_hi E a - tk_lo E b ≤ tk_Rh t then
    (if tk_con E b = true then (E, (a.1, a.2 - tk_lo E b)) else if Nat.beq a.1 b.1 = true then (E, (0, a.2 - b.2)) else if tk_con E a = true then tk_mk E (tk_lo E a - tk_hi E b) (tk_lo E a - tk_lo E b) else tk_lin E 2 a.1 b.1 (a.2 - b.2))
  else tk_any t E
/-- r is at most b + c -/
def tk_bw (q : tk_E × tk_P) (b : tk_P) (c : Int) : tk_E × tk_P :=
  if (Nat.beq q.2.1 0 || Nat.beq b.1 0 || tk_con q.1 b) = true then q
  else (let z := tk_lin q.1 2 q.2.1 b.1 0; (tk_tt [z.2.1, q.2.1, b.1] (tk_rh z.1 z.2.1 (b.2 + c - q.2.2 - z.2.2)), q.2))
def tk_mul (t : Nat) (E : tk_E) (a b : tk_P) : tk_E × tk_P :=
  if 0 ≤ tk_lo E a ∧ 0 ≤ tk_lo E b ∧ tk_hi E a * tk_hi E b ≤ tk_Rh t then tk_mk E (tk_lo E a * tk_lo E b) (tk_hi E a * tk_hi E b) else tk_any t E
def tk_div (t : Nat) (E : tk_E) (a b : tk_P) : tk_E × tk_P :=
  if 0 ≤ tk_lo E a ∧ 0 < tk_lo E b then tk_mk E (tk_lo E a / tk_hi E b) (tk_hi E a / tk_lo E b) else tk_any t E
def tk_rem (t : Nat) (E : tk_E) (a b : tk_P) : tk_E × tk_P :=
  if 0 ≤ tk_lo E a ∧ 0 < tk_lo E b then tk_bw (tk_mk E 0 (if tk_hi E a ≤ tk_hi E b - 1 then tk_hi E a else tk_hi E b - 1)) b (-1) else tk_any t E
def tk_and (t : Nat) (E : tk_E) (a b : tk_P) : tk_E × tk_P :=
  if (Nat.beq t 1 && tk_con E a && tk_con E b) = true then (E, (0, (Int32.ofInt (tk_lo E a) &&& Int32.ofInt (tk_lo E b)).toInt))
  else if 0 ≤ tk_lo E b then tk_bw (tk_mk E 0 (if 0 ≤ tk_lo E a then (if tk_hi E a ≤ tk_hi E b then tk_hi E a else tk_hi E b) else tk_hi E b)) b 0
  else if 0 ≤ tk_lo E a then tk_mk E 0 (tk_hi E a) else tk_any t E
/-- as many ones as a number has digits -/
def tk_ones (n : Int) : Int := ((2 : Int) ^ (if n = 0 then 0 else n.toNat.log2 + 1)) - 1
def tk_bit (o : Nat) (x y : Int32) : Int32 := match o with
  | 6 => x ||| y | 7 => x ^^^ y | 8 => x <<< (y &&& 31) | 9 => x >>> (y &&& 31) | _ => (x.toUInt32 >>> (y.toUInt32 &&& Int32.toUInt32 31)).toInt32
def tk_shi (o : Nat) (E : tk_E) (a b : tk_P) : tk_E × tk_P :=
  if (tk_con E a && tk_con E b) = true then (E, (0, (tk_bit o (Int32.ofInt (tk_lo E a)) (Int32.ofInt (tk_lo E b))).toInt))
  else match o with
    | 6 => if 0 ≤ tk_lo E a ∧ 0 ≤ tk_lo E b then tk_mk E 0 (if tk_ones (tk_hi E a) ≤ tk_ones (tk_hi E b) then tk_ones (tk_hi E b) else tk_ones (tk_hi E a)) else tk_any 1 E
    | 7 => tk_any 1 E
    | 8 => if (tk_con E a && decide (tk_lo E a = 1)) = true ∧ 0 ≤ tk_lo E b ∧ tk_hi E b ≤ 30 then tk_mk E (2 ^ (tk_lo E b).toNat) (2 ^ (tk_hi E b).toNat) else tk_any 1 E
    | 9 => if 0 ≤ tk_lo E a then (if tk_con E b = true ∧ 0 ≤ tk_lo E b ∧ tk_lo E b ≤ 31 then tk_mk E (tk_lo E a / 2 ^ (tk_lo E b).toNat) (tk_hi E a / 2 ^ (tk_lo E b).toNat) else tk_mk E 0 (tk_hi E a)) else tk_any 1 E
    | _ => tk_any 1 E
def tk_nz (E : tk_E) (b : tk_P) : Bool := decide (0 < tk_lo E b ∨ tk_hi E b < 0)
def tk_b32 (i : Instr) (E : tk_E) (a b : tk_P) : Option (tk_E × tk_P) := match i with
  | .iadd => some (tk_add 1 E a b)
  | .isub => some (tk_sub 1 E a b)
  | .imul => some (tk_mul 1 E a b)
  | .idiv => if tk_nz E b = true then some (tk_div 1 E a b) else none
  | .irem => if tk_nz E b = true then some (tk_rem 1 E a b) else none
  | .iand => some (tk_and 1 E a b)
  | .ior => some (tk_shi 6 E a b)
  | .ixor => some (tk_shi 7 E a b)
  | .ishl => some (tk_shi 8 E a b)
  | .ishr => some (tk_shi 9 E a b)
  | .iushr => some (tk_shi 10 E a b)
  | _ => none
def tk_b64 (i : Instr) (E : tk_E) (a b : tk_P) : Option (tk_E × tk_P) := match i with
  | .ladd => some (tk_add 2 E a b)
  | .lsub => some (tk_sub 2 E a b)
  | .lmul => some (tk_mul 2 E a b)
  | .ldiv => if tk_nz E b = true then some (tk_div 2 E a b) else none
  | .lrem => if tk_nz E b = true then some (tk_rem 2 E a b) else none
  | .land => some (tk_any 2 E)
  | .lor => some (tk_any 2 E)
  | .lxor => some (tk_any 2 E)
  | _ => none
def tk_load (L : List tk_V) (t i : Nat) : Option tk_V := match L[i]? with
  | some a => if Nat.beq a.1 t = true then some a else none
  | none => none
/-- a reference, the script or a text -/
def tk_isr (t : Nat) : Bool := Nat.ble 10 t || Nat.beq t 5 || Nat.beq t 6
def tk_loadr (L : List tk_V) (i : Nat) : Option tk_V := match L[i]? with
  | some a => if tk_isr a.1 = true then some a else none
  | none => none
def tk_st1 (L : List tk_V) (i : Nat) (a : tk_V) : List tk_V := (match i with
  | 0 => L
  | j + 1 => match L[j]? with
    | some b => if Nat.beq b.1 2 = true then L.set j (0, 0, 0) else L
    | none => L).set i a
def tk_nrw (lo hi : Int) (E : tk_E) (a : tk_P) : tk_E × tk_P := if lo ≤ tk_lo E a ∧ tk_hi E a ≤ hi then (E, a) else tk_mk E lo hi
/-- an instruction that touches no cell -/
def tk_x1 (nL : Nat) (i : Instr) (E : tk_E) (L K : List tk_V) : Option (tk_E × List tk_V × List tk_V) := match i with
  | .iconst n => if -2147483648 ≤ n ∧ n ≤ 2147483647 then some (E, L, (1, 0, n) :: K) else none
  | .bipush n => if -128 ≤ n ∧ n ≤ 127 then some (E, L, (1, 0, n) :: K) else none
  | .sipush n => if -32768 ≤ n ∧ n ≤ 32767 then some (E, L, (1, 0, n) :: K) else none
  | .lconst n => some (E, L, (2, 0, ((n : Nat) : Int)) :: K)
  | .iload j => (tk_load L 1 j).map fun a => (E, L, a :: K)
  | .iload_n j => (tk_load L 1 j).map fun a => (E, L, a :: K)
  | .lload j => (tk_load L 2 j).map fun a => (E, L, a :: K)
  | .lload_n j => (tk_load L 2 j).map fun a => (E, L, a :: K)
  | .aload j => (tk_loadr L j).map fun a => (E, L, a :: K)
  | .aload_n j => (tk_loadr L j).map fun a => (E, L, a :: K)
  | .istore j => match K with
    | (1, a) :: K' => if j < nL then some (E, tk_st1 L j (1, a), K') else none
    | _ => none
  | .istore_n j => match K with
    | (1, a) :: K' => if j < nL then some (E, tk_st1 L j (1, a), K') else none
    | _ => none
  | .astore j => match K with
    | (t, a) :: K' => if j < nL ∧ 10 ≤ t then some (E, tk_st1 L j (t, a), K') else none
    | _ => none
  | .astore_n j => match K with
    | (t, a) :: K' => if j < nL ∧ 10 ≤ t then some (E, tk_st1 L j (t, a), K') else none
    | _ => none
  | .lstore j => match K with
    | (2, a) :: K' => if j + 1 < nL then some (E, (tk_st1 L j (2, a)).set (j + 1) (0, 0, 0), K') else none
    | _ => none
  | .lstore_n j => match K with
    | (2, a) :: K' => if j + 1 < nL then some (E, (tk_st1 L j (2, a)).set (j + 1) (0, 0, 0), K') else none
    | _ => none
  | .iinc j n => if j < nL ∧ -2147483648 ≤ n ∧ n ≤ 2147483647 then (tk_load L 1 j).map fun a => ((tk_add 1 E a.2 (0, n)).1, tk_st1 L j (1, (tk_add 1 E a.2 (0, n)).2), K) else none
  | .pop => match K with
    | a :: K' => if Nat.beq a.1 2 = true then none else some (E, L, K')
    | _ => none
  | .dup => match K with
    | a :: K' => if Nat.beq a.1 2 = true then none else some (E, L, a :: a :: K')
    | _ => none
  | .dup_x1 => match K with
    | a :: b :: K' => if (Nat.beq a.1 2 || Nat.beq b.1 2) = true then none else some (E, L, a :: b :: a :: K')
    | _ => none
  | .dup_x2 => match K with
    | a :: b :: d :: K' => if (Nat.beq a.1 2 || Nat.beq b.1 2 || Nat.beq d.1 2) = true then none else some (E, L, a :: b :: d :: a :: K')
    | _ => none
  | .dup2 => match K with
    | a :: b :: K' => if Nat.beq a.1 2 = true then some (E, L, a :: a :: b :: K') else if Nat.beq b.1 2 = true then none else some (E, L, a :: b :: a :: b :: K')
    | [a] => if Nat.beq a.1 2 = true then some (E, L, [a, a]) else none
    | _ => none
  | .ineg => match K with
    | (1, a) :: K' => some ((tk_sub 1 E (0, 0) a).1, L, (1, (tk_sub 1 E (0, 0) a).2) :: K')
    | _ => none
  | .i2l => match K with
    | (1, a) :: K' => some (E, L, (2, a) :: K')
    | _ => none
  | .l2i => match K with
    | (2, a) :: K' => some ((tk_nrw (-2147483648) 2147483647 E a).1, L, (1, (tk_nrw (-2147483648) 2147483647 E a).2) :: K')
    | _ => none
  | .i2b => match K with
    | (1, a) :: K' => some ((tk_nrw (-128) 127 E a).1, L, (1, (tk_nrw (-128) 127 E a).2) :: K')
    | _ => none
  | .i2s => match K with
    | (1, a) :: K' => some ((tk_nrw (-32768) 32767 E a).1, L, (1, (tk_nrw (-32768) 32767 E a).2) :: K')
    | _ => none
  | .lneg => match K with
    | (2, _) :: K' => some ((tk_any 2 E).1, L, (2, (tk_any 2 E).2) :: K')
    | _ => none
  | .lshl => match K with
    | (1, _) :: (2, _) :: K' => some ((tk_any 2 E).1, L, (2, (tk_any 2 E).2) :: K')
    | _ => none
  | .lshr => match K with
    | (1, _) :: (2, _) :: K' => some ((tk_any 2 E).1, L, (2, (tk_any 2 E).2) :: K')
    | _ => none
  | .lushr => match K with
    | (1, _) :: (2, _) :: K' => some ((tk_any 2 E).1, L, (2, (tk_any 2 E).2) :: K')
    | _ => none
  | i => match K with
    | (1, b) :: (1, a) :: K' => (tk_b32 i E a b).map fun r => (r.1, L, (1, r.2) :: K')
    | (2, b) :: (2, a) :: K' => (tk_b64 i E a b).map fun r => (r.1, L, (2, r.2) :: K')
    | _ => none
