/-- a symbol's bounds, narrowed -/
def ka_ref (E : ka_E) (a : ka_V) (lo hi : Int) : ka_E := E.set a.2.1 (if (E.getD a.2.1 (0, 0)).1 ≤ lo - a.2.2 then lo - a.2.2 else (E.getD a.2.1 (0, 0)).1, if hi - a.2.2 ≤ (E.getD a.2.1 (0, 0)).2 then hi - a.2.2 else (E.getD a.2.1 (0, 0)).2)
def ka_emp (E : ka_E) (a : ka_V) : Bool := decide ((E.getD a.2.1 (0, 0)).2 < (E.getD a.2.1 (0, 0)).1)
theorem ka_ref.len (E : ka_E) (a : ka_V) (lo hi : Int) : (ka_ref E a lo hi).length = E.length := by simp [ka_ref]
theorem ka_ref.ok {ρ : Nat → Int} {E : ka_E} {a : ka_V} {lo hi : Int} (h : ka_env ρ E) (h1 : lo ≤ ρ a.2.1 + a.2.2) (h2 : ρ a.2.1 + a.2.2 ≤ hi) : ka_env ρ (ka_ref E a lo hi) := by
  intro n
  have hn := h n
  unfold ka_ref
  by_cases e : n = a.2.1
  · subst e
    by_cases l : a.2.1 < E.length
    · rw [List.getD_eq_getElem?_getD, List.getElem?_set_self l]
      simp only [Option.getD_some]
      constructor
      · split <;> omega
      · split <;> omega
    · rw [List.set_eq_of_length_le (by omega)]
      exact hn
  · rw [List.getD_eq_getElem?_getD, List.getElem?_set_ne (Ne.symm e), ← List.getD_eq_getElem?_getD]
    exact hn
theorem ka_emp.no {ρ : Nat → Int} {E : ka_E} {a : ka_V} (h : ka_env ρ E) : ka_emp E a = false := by
  have := h a.2.1
  unfold ka_emp
  exact decide_eq_false (by omega)
def ka_rel (r : Nat) (u v : Int) : Prop := match r with
  | 0 => u = v | 1 => u ≠ v | 2 => u < v | 3 => v ≤ u | 4 => v < u | _ => u ≤ v
def ka_dead (r : Nat) (a b : ka_V) : Bool := decide (a.2.1 = b.2.1) && match r with
  | 0 => decide (a.2.2 ≠ b.2.2) | 1 => decide (a.2.2 = b.2.2) | 2 => decide (b.2.2 ≤ a.2.2) | 3 => decide (a.2.2 < b.2.2) | 4 => decide (a.2.2 ≤ b.2.2) | _ => decide (b.2.2 < a.2.2)
def ka_cn (r : Nat) (E : ka_E) (a b : ka_V) : ka_E := match r with
  | 0 => ka_ref (ka_ref E a (ka_lo E b) (ka_hi E b)) b (ka_lo E a) (ka_hi E a)
  | 1 => if ka_lo E b = ka_hi E b then (if ka_lo E a = ka_lo E b then ka_ref E a (ka_lo E a + 1) (ka_hi E a) else if ka_hi E a = ka_lo E b then ka_ref E a (ka_lo E a) (ka_hi E a - 1) else E)
    else if ka_lo E a = ka_hi E a then (if ka_lo E b = ka_lo E a then ka_ref E b (ka_lo E b + 1) (ka_hi E b) else if ka_hi E b = ka_lo E a then ka_ref E b (ka_lo E b) (ka_hi E b - 1) else E) else E
  | 2 => ka_ref (ka_ref E a (ka_lo E a) (ka_hi E b - 1)) b (ka_lo E a + 1) (ka_hi E b)
  | 3 => ka_ref (ka_ref E a (ka_lo E b) (ka_hi E a)) b (ka_lo E b) (ka_hi E a)
  | 4 => ka_ref (ka_ref E a (ka_lo E b + 1) (ka_hi E a)) b (ka_lo E b) (ka_hi E a - 1)
  | _ => ka_ref (ka_ref E a (ka_lo E a) (ka_hi E b)) b (ka_lo E a) (ka_hi E b)
theorem ka_cn.len (r : Nat) (E : ka_E) (a b : ka_V) : (ka_cn r E a b).length = E.length := by
  unfold ka_cn
  split
  · rw [ka_ref.len, ka_ref.len]
  · split
    · split
      · rw [ka_ref.len]
      · split
        · rw [ka_ref.len]
        · rfl
    · split
      · split
        · rw [ka_ref.len]
        · split
          · rw [ka_ref.len]
          · rfl
      · rfl
  all_goals rw [ka_ref.len, ka_ref.len]
theorem ka_cn.ok {r : Nat} {ρ : Nat → Int} {E : ka_E} {a b : ka_V} (h : ka_env ρ E) (hr : ka_rel r (ρ a.2.1 + a.2.2) (ρ b.2.1 + b.2.2)) : ka_env ρ (ka_cn r E a b) := by
  have h1 := h.at a
  have h2 := h.at b
  unfold ka_cn
  unfold ka_rel at hr
  split at hr
  · exact ka_ref.ok (ka_ref.ok h (by omega) (by omega)) (by omega) (by omega)
  · split
    · split
      · exact ka_ref.ok h (by omega) (by omega)
      · split
        · exact ka_ref.ok h (by omega) (by omega)
        · exact h
    · split
      · split
        · exact ka_ref.ok h (by omega) (by omega)
        · split
          · exact ka_ref.ok h (by omega) (by omega)
          · exact h
      · exact h
  · exact ka_ref.ok (ka_ref.ok h (by omega) (by omega)) (by omega) (by omega)
  · exact ka_ref.ok (ka_ref.ok h (by omega) (by omega)) (by omega) (by omega)
  · exact ka_ref.ok (ka_ref.ok h (by omega) (by omega)) (by omega) (by omega)
  · exact ka_ref.ok (ka_ref.ok h (by omega) (by omega)) (by omega) (by omega)
theorem ka_dead.no {r : Nat} {ρ : Nat → Int} {a b : ka_V} (hr : ka_rel r (ρ a.2.1 + a.2.2) (ρ b.2.1 + b.2.2)) : ka_dead r a b = false := by
  unfold ka_dead
  by_cases e : a.2.1 = b.2.1
  · rw [e] at hr
    unfold ka_rel at hr
    simp only [e, decide_true, Bool.true_and]
    split at hr
    · exact decide_eq_false (by omega)
    · exact decide_eq_false (by omega)
    · exact decide_eq_false (by omega)
    · exact decide_eq_false (by omega)
    · exact decide_eq_false (by omega)
    · exact decide_eq_false (by omega)
  · simp [e]
abbrev ka_N : Type := Nat × ka_E × List ka_V
/-- where a comparison leads, if it can -/
def ka_sc (r tgt : Nat) (E : ka_E) (a b : ka_V) (K : List ka_V) : List ka_N := if (ka_emp (ka_cn r E a b) a || ka_emp (ka_cn r E a b) b || ka_dead r a b) = true then [] else [(tgt, ka_cn r E a b, K)]
def ka_neg (r : Nat) : Nat := match r with
  | 0 => 1 | 1 => 0 | 2 => 3 | 3 => 2 | 4 => 5 | _ => 4
def ka_code (q : Jvm.ClassFile.Cond) : Nat := match q with
  | .eq => 0 | .ne => 1 | .lt => 2 | .ge => 3 | .gt => 4 | .le => 5
/-- a switch's cases from k on -/
def ka_tab (pc : Nat) (E : ka_E) (a : ka_V) (K : List ka_V) : Int → List Int → List ka_N
  | _, [] => []
  | k, o :: os => ka_sc 0 ((pc : Int) + o).toNat E a (1, 0, k) K ++ ka_tab pc E a K (k + 1) os
def ka_lks (pc : Nat) (E : ka_E) (a : ka_V) (K : List ka_V) : List (Int × Int) → List ka_N
  | [] => []
  | o :: os => ka_sc 0 ((pc : Int) + o.2).toNat E a (1, 0, o.1) K ++ ka_lks pc E a K os
def ka_up (pc : Nat) (o : Int) : Bool := decide (0 ≤ (pc : Int) + o)
/-- .. and none of them -/
def ka_lkn (E : ka_E) (a : ka_V) : List (Int × Int) → ka_E
  | [] => E
  | o :: os => ka_lkn (ka_cn 1 E a (1, 0, o.1)) a os
/-- an instruction that goes elsewhere -/
def ka_x2 (i : Instr) (pc : Nat) (E : ka_E) (K : List ka_V) : Option (List ka_N) := match i with
  | .goto o => if ka_up pc o = true then some [(((pc : Int) + o).toNat, E, K)] else none
  | .ifCond q o => match K with
    | (1, n, d) :: K' => if ka_up pc o = true then some (ka_sc (ka_code q) ((pc : Int) + o).toNat E (1, n, d) (1, 0, 0) K' ++ ka_sc (ka_neg (ka_code q)) (pc + 3) E (1, n, d) (1, 0, 0) K') else none
    | _ => none
  | .if_icmp q o => match K with
    | (1, n2, d2) :: (1, n1, d1) :: K' => if ka_up pc o = true then some (ka_sc (ka_code q) ((pc : Int) + o).toNat E (1, n1, d1) (1, n2, d2) K' ++ ka_sc (ka_neg (ka_code q)) (pc + 3) E (1, n1, d1) (1, n2, d2) K') else none
    | _ => none
  | .ifnull o => match K with
    | (3, n, d) :: K' => if ka_up pc o = true then some (ka_sc 0 ((pc : Int) + o).toNat E (3, n, d) (3, 0, 0) K' ++ ka_sc 4 (pc + 3) E (3, n, d) (3, 0, 0) K') else none
    | _ => none
  | .ifnonnull o => match K with
    | (3, n, d) :: K' => if ka_up pc o = true then some (ka_sc 4 ((pc : Int) + o).toNat E (3, n, d) (3, 0, 0) K' ++ ka_sc 0 (pc + 3) E (3, n, d) (3, 0, 0) K') else none
    | _ => none
  | .tableswitch o lo hi os => match K with
    | (1, n, d) :: K' => if (ka_up pc o && os.toList.all (ka_up pc) && decide ((os.size : Int) = hi - lo + 1)) = true then some (ka_tab pc E (1, n, d) K' lo os.toList ++ (ka_sc 2 ((pc : Int) + o).toNat E (1, n, d) (1, 0, lo) K' ++ ka_sc 4 ((pc : Int) + o).toNat E (1, n, d) (1, 0, hi) K')) else none
    | _ => none
  | .lookupswitch o ps => match K with
    | (1, n, d) :: K' => if (ka_up pc o && ps.toList.all (fun q => ka_up pc q.2) && (ps.toList.zip (ps.toList.drop 1)).all (fun (a, next) => a.1 < next.1)) = true then some (ka_lks pc E (1, n, d) K' ps.toList ++ (if ka_emp (ka_lkn E (1, n, d) ps.toList) (1, n, d) = true then [] else [(((pc : Int) + o).toNat, ka_lkn E (1, n, d) ps.toList, K')])) else none
    | _ => none
  | _ => none
