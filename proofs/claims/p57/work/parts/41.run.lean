/-- a method: how many locals, the types of its arguments, cells and slots that it may make, frames and locals of those that it calls, its class, is it a constructor -/
abbrev kc_M : Type := Nat × List Nat × Nat × Nat × Nat × Nat × Nat × Bool
/-- what is widened at a loop's head: locals (the first counts up), locals forgotten, fields, arrays -/
abbrev kc_A : Type := List (Nat × Int × Int) × List Nat × List (Nat × Nat × Int × Int) × List (Nat × kc_F)
/-- the tables: instructions, methods, links to methods, fields, classes made, arrays of references, arrays of arrays, constants, a class' fields, a class as a component, loops, what a method answers (0 nothing, 1 an int, 2 a long, 3 a reference, 4 a boolean) -/
abbrev kc_T : Type := (Nat → Nat → Option (Instr × Nat)) × (Nat → kc_M) × (Nat → Nat → Option (Nat × Nat)) × (Nat → Nat → Option (Nat × Nat)) × (Nat → Nat → Option Nat) × (Nat → Nat → Option FieldType) × (Nat → Nat → Bool) × (Nat → Nat → Option (Nat × Int)) × (Nat → List (FieldType × Bool)) × (Nat → FieldType) × (Nat → Nat → Option kc_A) × (Nat → Nat)
def kc_Tcd (T : kc_T) : Nat → Nat → Option (Instr × Nat) := T.1
def kc_Tmi (T : kc_T) : Nat → kc_M := T.2.1
def kc_Tlk (T : kc_T) : Nat → Nat → Option (Nat × Nat) := T.2.2.1
def kc_Tfl (T : kc_T) : Nat → Nat → Option (Nat × Nat) := T.2.2.2.1
def kc_Tnw (T : kc_T) : Nat → Nat → Option Nat := T.2.2.2.2.1
def kc_Taw (T : kc_T) : Nat → Nat → Option FieldType := T.2.2.2.2.2.1
def kc_Tmw (T : kc_T) : Nat → Nat → Bool := T.2.2.2.2.2.2.1
def kc_Tkw (T : kc_T) : Nat → Nat → Option (Nat × Int) := T.2.2.2.2.2.2.2.1
def kc_Tfd (T : kc_T) : Nat → List (FieldType × Bool) := T.2.2.2.2.2.2.2.2.1
def kc_Tcn (T : kc_T) : Nat → FieldType := T.2.2.2.2.2.2.2.2.2.1
def kc_Thd (T : kc_T) : Nat → Nat → Option kc_A := T.2.2.2.2.2.2.2.2.2.2.1
def kc_Trk (T : kc_T) : Nat → Nat := T.2.2.2.2.2.2.2.2.2.2.2
def kc_ldc (kw : Nat → Option (Nat × Int)) (t ix : Nat) (K : List kc_V) : Option (List kc_V) := match kw ix with
  | some (t', v) => if t' = t then some ((t, 0, v) :: K) else none
  | none => none
/-- an instruction that is no call and no return, and no lcmp -/
def kc_s0 (T : kc_T) (M : kc_M) (i : Instr) (n pc : Nat) (E : kc_E) (L K : List kc_V) (Hs : List kc_G) (cs ss : Nat) : Option (List (Nat × kc_S)) := match i with
  | .getfield ix => (kc_get (kc_Tfl T M.2.2.2.2.2.2.1) ix E K Hs).map fun r => [(pc + 3, E, L, r, Hs, cs, ss)]
  | .putfield ix => (kc_put (kc_Tfl T M.2.2.2.2.2.2.1) (kc_Tfd T) M.2.2.2.2.2.2.2 M.2.2.2.2.2.2.1 ix E K Hs).map fun r => [(pc + 3, E, L, r.1, r.2, cs, ss)]
  | .iaload => (kc_ald .iaload E K Hs).map fun r => [(pc + 1, r.1, L, r.2, Hs, cs, ss)]
  | .baload => (kc_ald .baload E K Hs).map fun r => [(pc + 1, r.1, L, r.2, Hs, cs, ss)]
  | .saload => (kc_ald .saload E K Hs).map fun r => [(pc + 1, r.1, L, r.2, Hs, cs, ss)]
  | .laload => (kc_ald .laload E K Hs).map fun r => [(pc + 1, r.1, L, r.2, Hs, cs, ss)]
  | .aaload => match kc_x4 .aaload pc E K with
    | some r => some (r.map fun q => (q.1, q.2.1, L, q.2.2, Hs, cs, ss))
    | none => (kc_ald .aaload E K Hs).map fun r => [(pc + 1, r.1, L, r.2, Hs, cs, ss)]
  | .arraylength => (kc_aln E K Hs).map fun r => [(pc + 1, r.1, L, r.2, Hs, cs, ss)]
  | .iastore => (kc_ast .iastore E K Hs).map fun r => [(pc + 1, E, L, r.1, r.2, cs, ss)]
  | .bastore => (kc_ast .bastore E K Hs).map fun r => [(pc + 1, E, L, r.1, r.2, cs, ss)]
  | .sastore => (kc_ast .sastore E K Hs).map fun r => [(pc + 1, E, L, r.1, r.2, cs, ss)]
  | .lastore => (kc_ast .lastore E K Hs).map fun r => [(pc + 1, E, L, r.1, r.2, cs, ss)]
  | .aastore => match kc_x4 .aastore pc E K with
    | some r => some (r.map fun q => (q.1, q.2.1, L, q.2.2, Hs, cs, ss))
    | none => (kc_aas (kc_Tcn T) E K Hs).map fun r => [(pc + 1, E, L, r.1, r.2, cs, ss)]
  | .new ix => (kc_new (kc_Tnw T M.2.2.2.2.2.2.1) (kc_Tfd T) M.2.2.1 M.2.2.2.1 ix E K Hs cs ss).map fun r => [(pc + 3, E, L, r.1, r.2.1, r.2.2.1, r.2.2.2)]
  | .newarray t => (kc_nar M.2.2.1 M.2.2.2.1 t E K Hs cs ss).map fun r => [(pc + 2, E, L, r.1, r.2.1, r.2.2.1, r.2.2.2)]
  | .anewarray ix => (kc_ana (kc_Taw T M.2.2.2.2.2.2.1) M.2.2.1 M.2.2.2.1 ix E K Hs cs ss).map fun r => [(pc + 3, E, L, r.1, r.2.1, r.2.2.1, r.2.2.2)]
  | .multianewarray ix _ => (kc_mna (kc_Tmw T M.2.2.2.2.2.2.1) M.2.2.1 M.2.2.2.1 ix E K Hs cs ss).map fun r => [(pc + 4, E, L, r.1, r.2.1, r.2.2.1, r.2.2.2)]
  | .ldc ix => (kc_ldc (kc_Tkw T M.2.2.2.2.2.2.1) 1 ix K).map fun r => [(pc + 2, E, L, r, Hs, cs, ss)]
  | .ldc_w ix => (kc_ldc (kc_Tkw T M.2.2.2.2.2.2.1) 1 ix K).map fun r => [(pc + 3, E, L, r, Hs, cs, ss)]
  | .ldc2_w ix => (kc_ldc (kc_Tkw T M.2.2.2.2.2.2.1) 2 ix K).map fun r => [(pc + 3, E, L, r, Hs, cs, ss)]
  | .goto o => (kc_x2 (.goto o) pc E K).map fun r => r.map fun q => (q.1, q.2.1, L, q.2.2, Hs, cs, ss)
  | .ifCond c o => (kc_x2 (.ifCond c o) pc E K).map fun r => r.map fun q => (q.1, q.2.1, L, q.2.2, Hs, cs, ss)
  | .if_icmp c o => (kc_x2 (.if_icmp c o) pc E K).map fun r => r.map fun q => (q.1, q.2.1, L, q.2.2, Hs, cs, ss)
  | .ifnull o => (kc_x2 (.ifnull o) pc E K).map fun r => r.map fun q => (q.1, q.2.1, L, q.2.2, Hs, cs, ss)
  | .ifnonnull o => (kc_x2 (.ifnonnull o) pc E K).map fun r => r.map fun q => (q.1, q.2.1, L, q.2.2, Hs, cs, ss)
  | .tableswitch d lo hi os => (kc_x2 (.tableswitch d lo hi os) pc E K).map fun r => r.map fun q => (q.1, q.2.1, L, q.2.2, Hs, cs, ss)
  | .lookupswitch d ps => (kc_x2 (.lookupswitch d ps) pc E K).map fun r => r.map fun q => (q.1, q.2.1, L, q.2.2, Hs, cs, ss)
  | i => if n = kc_len i then (kc_x1 M.1 i E L K).map fun r => [(pc + n, r.1, r.2.1, r.2.2, Hs, cs, ss)] else (match i with
    | .iinc j d => if n = 6 then (kc_x1 M.1 (.iinc j d) E L K).map fun r => [(pc + 6, r.1, r.2.1, r.2.2, Hs, cs, ss)] else none
    | _ => none)
def kc_lenok (i : Instr) (n : Nat) : Bool := match i with
  | .getfield _ => Nat.beq n 3 | .putfield _ => Nat.beq n 3
  | .iaload => Nat.beq n 1 | .baload => Nat.beq n 1 | .saload => Nat.beq n 1 | .laload => Nat.beq n 1 | .aaload => Nat.beq n 1 | .arraylength => Nat.beq n 1
  | .iastore => Nat.beq n 1 | .bastore => Nat.beq n 1 | .sastore => Nat.beq n 1 | .lastore => Nat.beq n 1 | .aastore => Nat.beq n 1
  | .new _ => Nat.beq n 3 | .newarray _ => Nat.beq n 2 | .anewarray _ => Nat.beq n 3 | .multianewarray _ d => Nat.beq n 4 && Nat.beq d 2
  | .ldc _ => Nat.beq n 2 | .ldc_w _ => Nat.beq n 3 | .ldc2_w _ => Nat.beq n 3
  | .goto _ => Nat.beq n 3 | .ifCond _ _ => Nat.beq n 3 | .if_icmp _ _ => Nat.beq n 3 | .ifnull _ => Nat.beq n 3 | .ifnonnull _ => Nat.beq n 3
  | _ => true
def kc_step (T : kc_T) (y pc : Nat) (i : Instr) (n : Nat) (S : kc_S) : Option (List (Nat × kc_S)) := match i with
  | .lcmp => match kc_Tcd T y (pc + 1) with
    | some (j, m) => if n = 1 ∧ m = 3 then (kc_x3 j pc S.1 S.2.2.1).map fun r => r.map fun q => (q.1, q.2.1, S.2.1, q.2.2, S.2.2.2) else none
    | none => none
  | i => if kc_lenok i n = true then kc_s0 T (kc_Tmi T y) i n pc S.1 S.2.1 S.2.2.1 S.2.2.2.1 S.2.2.2.2.1 S.2.2.2.2.2 else none
/-- arguments off the stack (the last one on top), by their types from the last on -/
def kc_args : List Nat → List kc_V → List kc_V → Option (List kc_V × List kc_V)
  | [], K, as => some (as, K)
  | t :: ts, a :: K, as => if a.1 = t then kc_args ts K (a :: as) else none
  | _ :: _, [], _ => none
/-- locals at a method's start -/
def kc_loc0 : List kc_V → List kc_V
  | [] => []
  | a :: as => if a.1 = 2 then a :: (0, 0, 0) :: kc_loc0 as else a :: kc_loc0 as
/-- a method's end, as its caller sees it -/
def kc_back (pc : Nat) (L K : List kc_V) (cs ss : Nat) (q : Nat × kc_S) : Nat × kc_S := (pc + 3, q.2.1, L, q.2.2.2.1 ++ K, q.2.2.2.2.1, cs, ss)
def kc_widL (E : kc_E) (L : List kc_V) : List (Nat × Int × Int) → kc_E × List kc_V
  | [] => (E, L)
  | q :: qs => kc_widL (E ++ [(q.2.1, q.2.2)]) (L.set q.1 (1, E.length, 0)) qs
def kc_setv (Hs : List kc_G) (k j : Nat) (a : kc_V) : List kc_G := match Hs[k]? with
  | some g => Hs.set k (g.1, g.2.1, g.2.2.1, g.2.2.2.1, g.2.2.2.2.1, g.2.2.2.2.2.1, g.2.2.2.2.2.2.set j a)
  | none => Hs
def kc_widF (E : kc_E) (Hs : List kc_G) : List (Nat × Nat × Int × Int) → kc_E × List kc_G
  | [] => (E, Hs)
  | q :: qs => kc_widF (E ++ [(q.2.2.1, q.2.2.2)]) (kc_setv Hs q.1 q.2.1 (1, E.length, 0)) qs
def kc_widA (Hs : List kc_G) : List (Nat × kc_F) → List kc_G
  | [] => Hs
  | q :: qs => kc_widA (match Hs[q.1]? with
    | some g => Hs.set q.1 (g.1, g.2.1, g.2.2.1, g.2.2.2.1, q.2, [], g.2.2.2.2.2.2)
    | none => Hs) qs
/-- a loop's head, widened -/
def kc_wid (an : kc_A) (S : kc_S) : kc_S :=
  let EL := kc_widL S.1 (an.2.1.foldl (fun L j => L.set j (0, 0, 0)) S.2.1) an.1
  let EH := kc_widF EL.1 S.2.2.2.1 an.2.2.1
  (EH.1, EL.2, S.2.2.1, kc_widA EH.2 an.2.2.2, S.2.2.2.2.1, S.2.2.2.2.2)
/-- what stands in S where it was widened -/
def kc_wit (an : kc_A) (S : kc_S) : List kc_V := an.1.map (fun q => S.2.1.getD q.1 (0, 0, 0)) ++ an.2.2.1.map (fun q => match S.2.2.2.1[q.1]? with
  | some g => g.2.2.2.2.2.2.getD q.2.1 (0, 0, 0)
  | none => (0, 0, 0))
/-- is a value as it is asked for: the same, or the one that stands where it was widened -/
def kc_subF (n0 : Nat) (ws : List kc_V) (a b : kc_V) : Bool := decide (a = b ∧ b.2.1 < n0) || decide (n0 ≤ b.2.1 ∧ b.2.2 = 0 ∧ b.1 = 1 ∧ a.1 = 1 ∧ ws[b.2.1 - n0]? = some a)
/-- .. or nothing is asked -/
def kc_subV (n0 : Nat) (ws : List kc_V) (a b : kc_V) : Bool := decide (b.1 = 0) || kc_subF n0 ws a b
def kc_subL (f : kc_V → kc_V → Bool) : List kc_V → List kc_V → Bool
  | [], [] => true
  | a :: as, b :: bs => f a b && kc_subL f as bs
  | _, _ => false
def kc_subG (n0 : Nat) (ws : List kc_V) (g h : kc_G) : Bool := decide (g.1 = h.1 ∧ g.2.1 = h.2.1 ∧ g.2.2.1 = h.2.2.1 ∧ g.2.2.2.1 = h.2.2.2.1) && (decide (g.2.2.2.2.1 = h.2.2.2.2.1 ∧ g.2.2.2.2.2.1 = h.2.2.2.2.2.1) || (kc_sub g.2.2.2.2.1 h.2.2.2.2.1 && g.2.2.2.2.2.1.all (fun f => kc_sub f h.2.2.2.2.1) && h.2.2.2.2.2.1.isEmpty)) && kc_subL (kc_subF n0 ws) g.2.2.2.2.2.2 h.2.2.2.2.2.2
def kc_subH (n0 : Nat) (ws : List kc_V) : List kc_G → List kc_G → Bool
  | [], [] => true
  | g :: gs, h :: hs => kc_subG n0 ws g h && kc_subH n0 ws gs hs
  | _, _ => false
/-- the values stand within the bounds asked for -/
def kc_subB (E : kc_E) : List kc_V → kc_E → Bool
  | [], [] => true
  | a :: as, b :: bs => decide (a.1 = 1 ∧ a.2.1 < E.length ∧ b.1 ≤ kc_lo E a ∧ kc_hi E a ≤ b.2) && kc_subB E as bs
  | _, _ => false
/-- is the state S within the widened W (of a state with n0 symbols)? the counter is in S above what it was in W by one at least (up = true) -/
def kc_within (n0 : Nat) (an : kc_A) (W S : kc_S) (up : Bool) : Bool :=
  kc_subB S.1 (kc_wit an S) (W.1.drop n0) && kc_subL (kc_subV n0 (kc_wit an S)) S.2.1 W.2.1 && decide (S.2.2.1 = [] ∧ W.2.2.1 = []) && kc_subH n0 (kc_wit an S) S.2.2.2.1 W.2.2.2.1 && decide (S.2.2.2.2.1 ≤ W.2.2.2.2.1 ∧ S.2.2.2.2.2 ≤ W.2.2.2.2.2) &&
  (!up || (match kc_wit an S with
    | a :: _ => decide (a.2.1 = n0 ∧ 1 ≤ a.2.2)
    | [] => false))
def kc_retok (rk mc ms : Nat) (i : Instr) (n : Nat) (S : kc_S) : Bool := Nat.beq n 1 && decide (S.2.2.2.2.1 ≤ mc ∧ S.2.2.2.2.2 ≤ ms) && (match i, S.2.2.1 with
  | .ireturn, [(1, k, d)] => Nat.beq rk 1 || (Nat.beq rk 4 && decide (0 ≤ kc_lo S.1 (1, k, d) ∧ kc_hi S.1 (1, k, d) ≤ 1))
  | .lreturn, [(2, _, _)] => Nat.beq rk 2
  | .areturn, [(3, _, _)] => Nat.beq rk 3
  | .return_, [] => Nat.beq rk 0
  | _, _ => false)
/-- the object of which a method is called is known, and of its class -/
def kc_recv (kd : Nat) (Hs : List kc_G) (E : kc_E) (as : List kc_V) (ci : Nat) : Bool := Nat.beq kd 1 || Nat.beq kd 11 || (match as with
  | (3, n, d) :: _ => (match kc_cell Hs E (3, n, d) with
    | some (_, (0, ci', _)) => Nat.beq ci ci'
    | _ => false)
  | _ => false)
/-- 0 nothing of these, 1 a return, 2 a call -/
def kc_kind : Instr → Nat
  | .ireturn => 1 | .lreturn => 1 | .areturn => 1 | .return_ => 1
  | .invokevirtual _ => 2 | .invokespecial _ => 2 | .invokestatic _ => 2
  | _ => 0
/-- a call's index, and the kinds of link that it may go by -/
def kc_lnk : Instr → Nat × List Nat
  | .invokevirtual ix => (ix, [0, 10]) | .invokespecial ix => (ix, [2, 12, 3]) | .invokestatic ix => (ix, [1, 11, 4, 5, 6])
  | _ => (0, [])
/-- a call: the state behind it, or the method, its arguments, and what is left on the stack -/
def kc_invk (T : kc_T) (y : Nat) (i : Instr) (n : Nat) (S : kc_S) : Option (kc_S ⊕ (Nat × List kc_V × List kc_V)) := match kc_Tlk T (kc_Tmi T y).2.2.2.2.2.2.1 (kc_lnk i).1 with
  | some (kd, y') => if (Nat.beq n 3 && (kc_lnk i).2.contains kd) = true then
      (if kd = 3 then (match S.2.2.1 with
        | (3, s, d) :: K' => if kc_lo S.1 (3, s, d) = kc_hi S.1 (3, s, d) ∧ 1 ≤ kc_lo S.1 (3, s, d) ∧ kc_cat K' ≤ 8 ∧ 1 ≤ (kc_Tmi T y).2.2.2.2.1 ∧ 20 ≤ (kc_Tmi T y).2.2.2.2.2.1 then some (.inl (S.1, S.2.1, K', S.2.2.2)) else none
        | _ => none)
      else if kd = 4 then (if 1 ≤ (kc_Tmi T y).2.2.2.2.1 ∧ 26 ≤ (kc_Tmi T y).2.2.2.2.2.1 then (kc_acp S.1 S.2.2.1 S.2.2.2.1).map (fun r => .inl (S.1, S.2.1, r.1, r.2, S.2.2.2.2)) else none)
      else if kd = 5 ∨ kd = 6 then (match S.2.2.1 with
        | (1, n2, d2) :: (1, n1, d1) :: K' => if kc_cat K' ≤ 8 ∧ 1 ≤ (kc_Tmi T y).2.2.2.2.1 ∧ 21 ≤ (kc_Tmi T y).2.2.2.2.2.1 ∧ S.2.2.2.2.1 ≤ (kc_Tmi T y).2.2.1 ∧ S.2.2.2.2.2 ≤ (kc_Tmi T y).2.2.2.1 then some (.inl ((kc_mm (Nat.beq kd 6) S.1 (1, n1, d1) (1, n2, d2)).1, S.2.1, (kc_mm (Nat.beq kd 6) S.1 (1, n1, d1) (1, n2, d2)).2 :: K', S.2.2.2)) else none
        | _ => none)
      else match kc_args (kc_Tmi T y').2.1.reverse S.2.2.1 [] with
        | some (as, K') => if (decide (kc_cat K' ≤ 8 ∧ S.2.2.2.2.1 + (kc_Tmi T y').2.2.1 ≤ (kc_Tmi T y).2.2.1 ∧ S.2.2.2.2.2 + (kc_Tmi T y').2.2.2.1 ≤ (kc_Tmi T y).2.2.2.1 ∧ (kc_Tmi T y').2.2.2.2.1 + 1 ≤ (kc_Tmi T y).2.2.2.2.1 ∧ 19 + (kc_Tmi T y').1 + (kc_Tmi T y').2.2.2.2.2.1 ≤ (kc_Tmi T y).2.2.2.2.2.1 ∧ (kc_loc0 as).length ≤ (kc_Tmi T y').1) && kc_recv kd S.2.2.2.1 S.1 as (kc_Tmi T y').2.2.2.2.2.2.1) = true then some (.inr (y', as, K')) else none
        | none => none)
      else none
  | none => none
/-- a method's start -/
def kc_ent (T : kc_T) (y : Nat) (as : List kc_V) (S : kc_S) : Nat × kc_S := (0, S.1, kc_loc0 as ++ List.replicate ((kc_Tmi T y).1 - (kc_loc0 as).length) (0, 0, 0), [], S.2.2.2.1, 0, 0)
def kc_run (T : kc_T) : Nat → Nat → List Nat → List (Nat × kc_S) → List (Nat × kc_S) → Option (List (Nat × kc_S))
  | 0, _, _, _, _ => none
  | _ + 1, _, _, [], outs => some outs
  | f + 1, y, op, q :: rest, outs =>
    if op.contains q.1 = true then kc_run T f y op rest (q :: outs) else
    match kc_Thd T y q.1, kc_Tcd T y q.1 with
    | some an, some (i, n) =>
      if (decide ((kc_wid an q.2).1.take q.2.1.length = q.2.1) && kc_within q.2.1.length an (kc_wid an q.2) q.2 false) = true then
        match kc_step T y q.1 i n (kc_wid an q.2) with
        | some ns => match kc_run T f y (q.1 :: op) ns [] with
          | some os => if os.all (fun o => decide (o.1 ≠ q.1) || kc_within q.2.1.length an (kc_wid an q.2) o.2 true) = true then kc_run T f y op rest (os.filter (fun o => decide (o.1 ≠ q.1)) ++ outs) else none
          | none => none
        | none => none
      else none
    | none, some (i, n) =>
      match kc_kind i with
      | 1 => if kc_retok (kc_Trk T y) (kc_Tmi T y).2.2.1 (kc_Tmi T y).2.2.2.1 i n q.2 = true then kc_run T f y op rest (q :: outs) else none
      | 2 => match kc_invk T y i n q.2 with
        | some (.inl S') => kc_run T f y op ((q.1 + 3, S') :: rest) outs
        | some (.inr r) => match kc_run T f r.1 [] [kc_ent T r.1 r.2.1 q.2] [] with
          | some os => kc_run T f y op (os.map (kc_back q.1 q.2.2.1 r.2.2 (q.2.2.2.2.2.1 + (kc_Tmi T r.1).2.2.1) (q.2.2.2.2.2.2 + (kc_Tmi T r.1).2.2.2.1)) ++ rest) outs
          | none => none
        | none => none
      | _ => match kc_step T y q.1 i n q.2 with
        | some ns => kc_run T f y op (ns ++ rest) outs
        | none => none
    | _, none => none
def kc_f1 {α : Type} (k : Nat) : List (Nat × α) → Option α
  | [] => none
  | q :: l => match Nat.beq q.1 k with
    | true => some q.2
    | false => kc_f1 k l
def kc_f2 {α : Type} (k : Nat) : List (Nat × List (Nat × α)) → Option α
  | [] => none
  | b :: l => match Nat.ble k b.1 with
    | true => kc_f1 k b.2
    | false => kc_f2 k l
