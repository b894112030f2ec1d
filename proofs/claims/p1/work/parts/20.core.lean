/-! ===== a checker over bytecode: a value is a symbol and an offset, symbols lie within bounds, cells are of kinds ===== -/
/-- a value: 1 an int, 2 a long, 3 a reference (0 for null, else its kind and 1); the symbol; the offset -/
abbrev ka_V : Type := Nat × Nat × Int
/-- what a field or a component may hold: 1, 2, 3 as above; from; to -/
abbrev ka_F : Type := Nat × Int × Int
/-- a kind of cell: 0 an object, 1 an array of small numbers, 2 of longs, 3 of references; its class; its components; its fields (or one component); its length from, to -/
abbrev ka_R : Type := Nat × Nat × FieldType × List ka_F × Nat × Nat
abbrev ka_E : Type := List (Int × Int)
/-- bounds, locals, stack, what is not yet laid of new cells (symbol, places), cells made, slots made -/
abbrev ka_S : Type := ka_E × List ka_V × List ka_V × List (Nat × List Nat) × Nat × Nat
def ka_lo (E : ka_E) (a : ka_V) : Int := (E.getD a.2.1 (0, 0)).1 + a.2.2
def ka_hi (E : ka_E) (a : ka_V) : Int := (E.getD a.2.1 (0, 0)).2 + a.2.2
def ka_env (ρ : Nat → Int) (E : ka_E) : Prop := ∀ n : Nat, (E.getD n (0, 0)).1 ≤ ρ n ∧ ρ n ≤ (E.getD n (0, 0)).2
def ka_v (ρ : Nat → Int) (α : Nat → Nat) (Γ : Nat → Option Nat) (a : ka_V) (v : Value) : Prop := match a.1 with
  | 1 => ∃ x : Int32, v = .int x ∧ x.toInt = ρ a.2.1 + a.2.2
  | 2 => ∃ x : Int64, v = .long x ∧ x.toInt = ρ a.2.1 + a.2.2
  | 3 => (v = .null ∧ ρ a.2.1 + a.2.2 = 0) ∨ ∃ r : Nat, v = .ref (α a.2.1) ∧ Γ (α a.2.1) = some r ∧ ρ a.2.1 + a.2.2 = (r : Int) + 1
  | _ => False
def ka_t (Γ : Nat → Option Nat) (f : ka_F) (v : Value) : Prop := match f.1 with
  | 1 => ∃ x : Int32, v = .int x ∧ f.2.1 ≤ x.toInt ∧ x.toInt ≤ f.2.2
  | 2 => ∃ x : Int64, v = .long x ∧ f.2.1 ≤ x.toInt ∧ x.toInt ≤ f.2.2
  | 3 => (v = .null ∧ f.2.1 ≤ 0 ∧ 0 ≤ f.2.2) ∨ ∃ (a r : Nat), v = .ref a ∧ Γ a = some r ∧ f.2.1 ≤ (r : Int) + 1 ∧ (r : Int) + 1 ≤ f.2.2
  | _ => False
theorem ka_env.at {ρ : Nat → Int} {E : ka_E} (h : ka_env ρ E) (a : ka_V) : ka_lo E a ≤ ρ a.2.1 + a.2.2 ∧ ρ a.2.1 + a.2.2 ≤ ka_hi E a := by
  have := h a.2.1
  unfold ka_lo ka_hi
  omega
theorem ka_env.push {ρ : Nat → Int} {E : ka_E} (h : ka_env ρ E) {lo hi z : Int} (h1 : lo ≤ z) (h2 : z ≤ hi) : ka_env (va_up ρ E.length z) (E ++ [(lo, hi)]) := by
  intro n
  by_cases e : n = E.length
  · subst e
    simp [va_up, h1, h2]
  · by_cases l : n < E.length
    · have := h n
      simp only [va_up, if_neg e, List.getD_eq_getElem?_getD, List.getElem?_append_left l] at this ⊢
      exact this
    · have hn : E.length + 1 ≤ n := by omega
      have := h n
      rw [List.getD_eq_getElem?_getD, List.getElem?_eq_none (by omega)] at this
      rw [List.getD_eq_getElem?_getD, List.getElem?_eq_none (by simp; omega)]
      simp only [va_up, if_neg e]
      exact this
theorem ka_v.ext {ρ ρ' : Nat → Int} {α α' : Nat → Nat} {Γ Γ' : Nat → Option Nat} {a : ka_V} {v : Value} {n : Nat} (h : ka_v ρ α Γ a v) (ha : a.2.1 < n) (h1 : ∀ k, k < n → ρ' k = ρ k) (h2 : ∀ k, k < n → α' k = α k) (h3 : ∀ b r, Γ b = some r → Γ' b = some r) : ka_v ρ' α' Γ' a v := by
  obtain ⟨t, k, d⟩ := a
  unfold ka_v at h ⊢
  dsimp only at h ha ⊢
  rw [h1 k ha, h2 k ha]
  split at h
  · exact h
  · exact h
  · rcases h with h | ⟨r, e1, e2, e3⟩
    · exact Or.inl h
    · exact Or.inr ⟨r, e1, h3 _ _ e2, e3⟩
  · exact h
theorem ka_t.ext {Γ Γ' : Nat → Option Nat} {f : ka_F} {v : Value} (h : ka_t Γ f v) (h3 : ∀ b r, Γ b = some r → Γ' b = some r) : ka_t Γ' f v := by
  obtain ⟨t, lo, hi⟩ := f
  unfold ka_t at h ⊢
  dsimp only at h ⊢
  split at h
  · exact h
  · exact h
  · rcases h with h | ⟨a, r, e1, e2, e3⟩
    · exact Or.inl h
    · exact Or.inr ⟨a, r, e1, h3 _ _ e2, e3⟩
  · exact h
/-- what is read gets a symbol of its own -/
theorem ka_t.read {Γ : Nat → Option Nat} {f : ka_F} {v : Value} (h : ka_t Γ f v) : ∃ (z : Int) (b : Nat), f.2.1 ≤ z ∧ z ≤ f.2.2 ∧ ∀ (ρ : Nat → Int) (α : Nat → Nat) (n : Nat), ρ n = z → α n = b → ka_v ρ α Γ (f.1, n, 0) v := by
  obtain ⟨t, lo, hi⟩ := f
  unfold ka_t at h
  dsimp only at h ⊢
  split at h
  · obtain ⟨x, rfl, h1, h2⟩ := h
    exact ⟨x.toInt, 0, h1, h2, fun ρ α n e _ => ⟨x, rfl, by dsimp only; omega⟩⟩
  · obtain ⟨x, rfl, h1, h2⟩ := h
    exact ⟨x.toInt, 0, h1, h2, fun ρ α n e _ => ⟨x, rfl, by dsimp only; omega⟩⟩
  · rcases h with ⟨rfl, h1, h2⟩ | ⟨a, r, rfl, e2, h1, h2⟩
    · exact ⟨0, 0, h1, h2, fun ρ α n e _ => Or.inl ⟨rfl, by dsimp only; omega⟩⟩
    · exact ⟨(r : Int) + 1, a, h1, h2, fun ρ α n e eb => Or.inr ⟨r, by dsimp only; rw [eb], by dsimp only; rw [eb]; exact e2, by dsimp only; omega⟩⟩
  · exact absurd h id
/-- what is written lies within its field's bounds -/
theorem ka_v.write {ρ : Nat → Int} {α : Nat → Nat} {Γ : Nat → Option Nat} {a : ka_V} {v : Value} (h : ka_v ρ α Γ a v) {f : ka_F} (ht : f.1 = a.1) (h1 : f.2.1 ≤ ρ a.2.1 + a.2.2) (h2 : ρ a.2.1 + a.2.2 ≤ f.2.2) : ka_t Γ f v := by
  obtain ⟨t, lo, hi⟩ := f
  obtain ⟨t', n, d⟩ := a
  dsimp only at ht h1 h2
  subst ht
  unfold ka_v at h
  unfold ka_t
  dsimp only at h ⊢
  split at h
  · obtain ⟨x, rfl, e⟩ := h
    exact ⟨x, rfl, by omega, by omega⟩
  · obtain ⟨x, rfl, e⟩ := h
    exact ⟨x, rfl, by omega, by omega⟩
  · rcases h with ⟨rfl, e⟩ | ⟨r, rfl, e2, e⟩
    · exact Or.inl ⟨rfl, by omega, by omega⟩
    · exact Or.inr ⟨_, r, rfl, e2, by omega, by omega⟩
  · exact absurd h id
def ka_loc (ρ : Nat → Int) (α : Nat → Nat) (Γ : Nat → Option Nat) (n : Nat) (L : List ka_V) (lv : List (Nat × Value)) : Prop := ∀ (i : Nat) (a : ka_V), L[i]? = some a → a.1 ≠ 0 → a.2.1 < n ∧ ∃ v : Value, (i, v) ∈ lv ∧ ka_v ρ α Γ a v
def ka_stk (ρ : Nat → Int) (α : Nat → Nat) (Γ : Nat → Option Nat) (n : Nat) : List ka_V → List Value → Prop
  | [], [] => True
  | a :: L, v :: st => a.2.1 < n ∧ ka_v ρ α Γ a v ∧ ka_stk ρ α Γ n L st
  | _, _ => False
theorem ka_loc.ext {ρ ρ' : Nat → Int} {α α' : Nat → Nat} {Γ Γ' : Nat → Option Nat} {n n' : Nat} {L : List ka_V} {lv : List (Nat × Value)} (h : ka_loc ρ α Γ n L lv) (h1 : ∀ k, k < n → ρ' k = ρ k) (h2 : ∀ k, k < n → α' k = α k) (h3 : ∀ b r, Γ b = some r → Γ' b = some r) (hn : n ≤ n') : ka_loc ρ' α' Γ' n' L lv := fun i a ha ht => by
  obtain ⟨g1, v, g2, g3⟩ := h i a ha ht
  exact ⟨Nat.lt_of_lt_of_le g1 hn, v, g2, g3.ext g1 h1 h2 h3⟩
theorem ka_stk.ext {ρ ρ' : Nat → Int} {α α' : Nat → Nat} {Γ Γ' : Nat → Option Nat} {n n' : Nat} (h1 : ∀ k, k < n → ρ' k = ρ k) (h2 : ∀ k, k < n → α' k = α k) (h3 : ∀ b r, Γ b = some r → Γ' b = some r) (hn : n ≤ n') : ∀ {L : List ka_V} {st : List Value}, ka_stk ρ α Γ n L st → ka_stk ρ' α' Γ' n' L st
  | [], [], _ => trivial
  | _ :: _, _ :: _, h => ⟨Nat.lt_of_lt_of_le h.1 hn, h.2.1.ext h.1 h1 h2 h3, ka_stk.ext h1 h2 h3 hn h.2.2⟩
  | [], _ :: _, h => absurd h id
  | _ :: _, [], h => absurd h id
theorem ka_cat1 {ρ : Nat → Int} {α : Nat → Nat} {Γ : Nat → Option Nat} {a : ka_V} {v : Value} (h : ka_v ρ α Γ a v) (ha : a.1 ≠ 2) : v.category = 1 := by
  obtain ⟨t, n, d⟩ := a
  unfold ka_v at h
  dsimp only at h ha
  split at h
  · obtain ⟨x, rfl, -⟩ := h; rfl
  · exact absurd rfl ha
  · rcases h with ⟨rfl, -⟩ | ⟨r, rfl, -⟩ <;> rfl
  · exact absurd h id
theorem ka_cat2 {ρ : Nat → Int} {α : Nat → Nat} {Γ : Nat → Option Nat} {n : Nat} {d : Int} {v : Value} (h : ka_v ρ α Γ (2, n, d) v) : v.category = 2 := by
  obtain ⟨x, rfl, -⟩ := h; rfl
-- numbers
theorem ka_i32 (x : Int32) : -2147483648 ≤ x.toInt ∧ x.toInt ≤ 2147483647 := by
  have h1 := x.le_toInt
  have h2 := x.toInt_lt
  omega
theorem ka_i64 (x : Int64) : -9223372036854775808 ≤ x.toInt ∧ x.toInt ≤ 9223372036854775807 := by
  have h1 := x.le_toInt
  have h2 := x.toInt_lt
  omega
theorem ka_add32 {x y : Int32} (h1 : -2147483648 ≤ x.toInt + y.toInt) (h2 : x.toInt + y.toInt ≤ 2147483647) : (x + y).toInt = x.toInt + y.toInt := by
  rw [Int32.toInt_add]
  exact Int.bmod_eq_of_le (by omega) (by omega)
theorem ka_sub32 {x y : Int32} (h1 : -2147483648 ≤ x.toInt - y.toInt) (h2 : x.toInt - y.toInt ≤ 2147483647) : (x - y).toInt = x.toInt - y.toInt := by
  rw [Int32.toInt_sub]
  exact Int.bmod_eq_of_le (by omega) (by omega)
theorem ka_mul32 {x y : Int32} (h1 : -2147483648 ≤ x.toInt * y.toInt) (h2 : x.toInt * y.toInt ≤ 2147483647) : (x * y).toInt = x.toInt * y.toInt := by
  rw [Int32.toInt_mul]
  exact Int.bmod_eq_of_le (by omega) (by omega)
