def ka_load (L : List ka_V) (t i : Nat) : Option ka_V := match L[i]? with
  | some a => if a.1 = t then some a else none
  | none => none
theorem ka_load.of {L : List ka_V} {t i : Nat} {a : ka_V} (h : ka_load L t i = some a) : L[i]? = some a ∧ a.1 = t := by
  unfold ka_load at h
  split at h
  · split at h
    · cases h; exact ⟨by assumption, by assumption⟩
    · cases h
  · cases h
/-- a local is written; a long that reached into it is gone -/
def ka_st1 (L : List ka_V) (i : Nat) (a : ka_V) : List ka_V := (match i with
  | 0 => L
  | j + 1 => match L[j]? with
    | some b => if b.1 = 2 then L.set j (0, 0, 0) else L
    | none => L).set i a
theorem ka_st1.at {L : List ka_V} {i j : Nat} {a b : ka_V} (h : (ka_st1 L i a)[j]? = some b) (hb : b.1 ≠ 0) : (j = i ∧ b = a) ∨ (j ≠ i ∧ L[j]? = some b ∧ (j + 1 = i → b.1 ≠ 2)) := by
  unfold ka_st1 at h
  by_cases e : j = i
  · subst e
    rw [List.getElem?_set_self'] at h
    left
    refine ⟨rfl, ?_⟩
    cases hq : (match j with
      | 0 => L
      | j + 1 => match L[j]? with
        | some b => if b.1 = 2 then L.set j (0, 0, 0) else L
        | none => L)[j]? with
    | none => rw [hq] at h; cases h
    | some z => rw [hq] at h; cases h; rfl
  · rw [List.getElem?_set_ne (Ne.symm e)] at h
    right
    refine ⟨e, ?_⟩
    split at h
    · exact ⟨h, fun q => by omega⟩
    · rename_i i2
      split at h
      · rename_i b2 hb2
        split at h
        · rename_i h2
          by_cases e2 : j = i2
          · subst e2
            rw [List.getElem?_set_self'] at h
            rw [hb2] at h
            cases h
            exact absurd rfl hb
          · rw [List.getElem?_set_ne (Ne.symm e2)] at h
            exact ⟨h, fun q => by omega⟩
        · rename_i h2
          refine ⟨h, fun q => ?_⟩
          have : j = i2 := by omega
          subst this
          rw [hb2] at h
          cases h
          exact h2
      · rename_i hb2
        refine ⟨h, fun q => ?_⟩
        have : j = i2 := by omega
        subst this
        rw [hb2] at h
        cases h
theorem ka_loc.st1 {ρ : Nat → Int} {α : Nat → Nat} {Γ : Nat → Option Nat} {n i : Nat} {L : List ka_V} {lv : List (Nat × Value)} {a : ka_V} {v : Value} (h : ka_loc ρ α Γ n L lv) (ha : a.2.1 < n) (hv : ka_v ρ α Γ a v) : ka_loc ρ α Γ n (ka_st1 L i a) ((i, v) :: lv.filter (fun q => !(q.1 == i) && !(q.1 + 1 == i && q.2.category == 2))) := by
  intro j b hj hb
  rcases ka_st1.at hj hb with ⟨e1, e2⟩ | ⟨e1, e2, e3⟩
  · subst e1; subst e2
    exact ⟨ha, v, List.mem_cons_self, hv⟩
  · obtain ⟨g1, w, g2, g3⟩ := h j b e2 hb
    refine ⟨g1, w, List.mem_cons_of_mem _ (List.mem_filter.mpr ⟨g2, ?_⟩), g3⟩
    by_cases q : j + 1 = i
    · have := ka_cat1 g3 (e3 q)
      simp [e1, this]
    · simp [e1, q]
theorem ka_loc.st2 {ρ : Nat → Int} {α : Nat → Nat} {Γ : Nat → Option Nat} {n i : Nat} {L : List ka_V} {lv : List (Nat × Value)} {a : ka_V} {v : Value} (h : ka_loc ρ α Γ n L lv) (ha : a.2.1 < n) (hv : ka_v ρ α Γ a v) : ka_loc ρ α Γ n ((ka_st1 L i a).set (i + 1) (0, 0, 0)) ((i, v) :: lv.filter (fun q => !(q.1 == i) && (!(q.1 == i + 1) && !(q.1 + 1 == i && q.2.category == 2)))) := by
  intro j b hj hb
  have hji : j ≠ i + 1 := by
    intro q
    subst q
    rw [List.getElem?_set_self'] at hj
    cases hq : (ka_st1 L i a)[i + 1]? with
    | none => rw [hq] at hj; cases hj
    | some z => rw [hq] at hj; cases hj; exact hb rfl
  rw [List.getElem?_set_ne (Ne.symm hji)] at hj
  rcases ka_st1.at hj hb with ⟨e1, e2⟩ | ⟨e1, e2, e3⟩
  · subst e1; subst e2
    exact ⟨ha, v, List.mem_cons_self, hv⟩
  · obtain ⟨g1, w, g2, g3⟩ := h j b e2 hb
    refine ⟨g1, w, List.mem_cons_of_mem _ (List.mem_filter.mpr ⟨g2, ?_⟩), g3⟩
    by_cases q : j + 1 = i
    · have := ka_cat1 g3 (e3 q)
      simp [e1, hji, this]
    · simp [e1, hji, q]
def ka_len : Instr → Nat
  | .iload _ => 2 | .lload _ => 2 | .aload _ => 2 | .istore _ => 2 | .lstore _ => 2 | .astore _ => 2
  | .bipush _ => 2 | .sipush _ => 3 | .iinc _ _ => 3
  | _ => 1
def ka_nz (E : ka_E) (b : ka_V) : Bool := decide (0 < ka_lo E b ∨ ka_hi E b < 0)
/-- two longs on the stack -/
def ka_isb64 (i : Instr) (E : ka_E) (b : ka_V) : Bool := match i with
  | .ladd => true | .lsub => true | .lmul => true | .land => true | .lor => true | .lxor => true
  | .ldiv => ka_nz E b | .lrem => ka_nz E b
  | _ => false
/-- an instruction that touches no cell -/
def ka_x1 (nL : Nat) (i : Instr) (E : ka_E) (L K : List ka_V) : Option (ka_E × List ka_V × List ka_V) := match i with
  | .iconst n => if -2147483648 ≤ n ∧ n ≤ 2147483647 then some (E, L, (1, 0, n) :: K) else none
  | .bipush n => if -128 ≤ n ∧ n ≤ 127 then some (E, L, (1, 0, n) :: K) else none
  | .sipush n => if -32768 ≤ n ∧ n ≤ 32767 then some (E, L, (1, 0, n) :: K) else none
  | .lconst n => some (E, L, (2, 0, ((n : Nat) : Int)) :: K)
  | .aconst_null => some (E, L, (3, 0, 0) :: K)
  | .iload j => (ka_load L 1 j).map fun a => (E, L, a :: K)
  | .iload_n j => (ka_load L 1 j).map fun a => (E, L, a :: K)
  | .lload j => (ka_load L 2 j).map fun a => (E, L, a :: K)
  | .lload_n j => (ka_load L 2 j).map fun a => (E, L, a :: K)
  | .aload j => (ka_load L 3 j).map fun a => (E, L, a :: K)
  | .aload_n j => (ka_load L 3 j).map fun a => (E, L, a :: K)
  | .istore j => match K with
    | (1, n, d) :: K' => if j < nL then some (E, ka_st1 L j (1, n, d), K') else none
    | _ => none
  | .istore_n j => match K with
    | (1, n, d) :: K' => if j < nL then some (E, ka_st1 L j (1, n, d), K') else none
    | _ => none
  | .astore j => match K with
    | (3, n, d) :: K' => if j < nL then some (E, ka_st1 L j (3, n, d), K') else none
    | _ => none
  | .astore_n j => match K with
    | (3, n, d) :: K' => if j < nL then some (E, ka_st1 L j (3, n, d), K') else none
    | _ => none
  | .lstore j => match K with
    | (2, n, d) :: K' => if j + 1 < nL then some (E, (ka_st1 L j (2, n, d)).set (j + 1) (0, 0, 0), K') else none
    | _ => none
  | .lstore_n j => match K with
    | (2, n, d) :: K' => if j + 1 < nL then some (E, (ka_st1 L j (2, n, d)).set (j + 1) (0, 0, 0), K') else none
    | _ => none
  | .iinc j n => if j < nL ∧ -2147483648 ≤ n ∧ n ≤ 2147483647 then (ka_load L 1 j).map fun a => ((ka_iadd E a (1, 0, n)).1, ka_st1 L j (ka_iadd E a (1, 0, n)).2, K) else none
  | .pop => match K with
    | a :: K' => if a.1 ≠ 2 then some (E, L, K') else none
    | _ => none
  | .dup => match K with
    | a :: K' => if a.1 ≠ 2 then some (E, L, a :: a :: K') else none
    | _ => none
  | .dup_x1 => match K with
    | a :: b :: K' => if a.1 ≠ 2 ∧ b.1 ≠ 2 then some (E, L, a :: b :: a :: K') else none
    | _ => none
  | .dup_x2 => match K with
    | a :: b :: d :: K' => if a.1 ≠ 2 ∧ b.1 ≠ 2 ∧ d.1 ≠ 2 then some (E, L, a :: b :: d :: a :: K') else none
    | _ => none
  | .dup2 => match K with
    | a :: b :: K' => if a.1 = 2 then some (E, L, a :: a :: b :: K') else if b.1 ≠ 2 then some (E, L, a :: b :: a :: b :: K') else none
    | _ => none
  | .ineg => match K with
    | (1, n, d) :: K' => some ((ka_isub E (1, 0, 0) (1, n, d)).1, L, (ka_isub E (1, 0, 0) (1, n, d)).2 :: K')
    | _ => none
  | .i2l => match K with
    | (1, n, d) :: K' => some (E, L, (2, n, d) :: K')
    | _ => none
  | .l2i => match K with
    | (2, n, d) :: K' => if -2147483648 ≤ ka_lo E (2, n, d) ∧ ka_hi E (2, n, d) ≤ 2147483647 then some (E, L, (1, n, d) :: K') else some ((ka_any E).1, L, (ka_any E).2 :: K')
    | _ => none
  | .i2b => match K with
    | (1, n, d) :: K' => some ((ka_mk E 1 (-128) 127).1, L, (ka_mk E 1 (-128) 127).2 :: K')
    | _ => none
  | .i2s => match K with
    | (1, n, d) :: K' => some ((ka_mk E 1 (-32768) 32767).1, L, (ka_mk E 1 (-32768) 32767).2 :: K')
    | _ => none
  | .lcmp => match K with
    | (2, _, _) :: (2, _, _) :: K' => some ((ka_any E).1, L, (ka_any E).2 :: K')
    | _ => none
  | .lneg => match K with
    | (2, _, _) :: K' => some ((ka_anyl E).1, L, (ka_anyl E).2 :: K')
    | _ => none
  | .lshl => match K with
    | (1, _, _) :: (2, _, _) :: K' => some ((ka_anyl E).1, L, (ka_anyl E).2 :: K')
    | _ => none
  | .lshr => match K with
    | (1, _, _) :: (2, _, _) :: K' => some ((ka_anyl E).1, L, (ka_anyl E).2 :: K')
    | _ => none
  | .lushr => match K with
    | (1, _, _) :: (2, _, _) :: K' => some ((ka_anyl E).1, L, (ka_anyl E).2 :: K')
    | _ => none
  | i => match K with
    | (1, n2, d2) :: (1, n1, d1) :: K' => (ka_b32 i E (1, n1, d1) (1, n2, d2)).map fun r => (r.1, L, r.2 :: K')
    | (2, n2, d2) :: (2, _, _) :: K' => if ka_isb64 i E (2, n2, d2) = true then some ((ka_anyl E).1, L, (ka_anyl E).2 :: K') else none
    | _ => none
