section
/-! ===== a checker over bytecode: a value is a symbol and an offset, symbols lie within bounds, cells are of kinds ===== -/
/-- a value: 1 an int, 2 a long, 3 a reference (0 for null, else its kind and 1); the symbol; the offset -/
abbrev ka_V : Type := Nat × Nat × Int
/-- what a field or a component may hold: 1, 2, 3 as above; from; to -/
abbrev ka_F : Type := Nat × Int × Int
/-- a kind of cell: 0 an object, 1 an array of small numbers, 2 of longs, 3 of references; its class; its components; its fields (or one component); its length from, to -/
abbrev ka_R : Type := Nat × Nat × FieldType × List ka_F × Nat × Nat
abbrev ka_E : Type := List (Int × Int)
/-- bounds, locals, stack, what is not yet laid of new cells (symbol, places), cells made, slots made -/
abbrev ka_S : Type := ka_E × List ka_V × List ka_V × List (Nat × List Nat) × Nat × Nat
def ka_lo (E : ka_E) (a : ka_V) : Int := (E.getD a.2.1 (0, 0)).1 + a.2.2
def ka_hi (E : ka_E) (a : ka_V) : Int := (E.getD a.2.1 (0, 0)).2 + a.2.2
def ka_env (ρ : Nat → Int) (E : ka_E) : Prop := ∀ n : Nat, (E.getD n (0, 0)).1 ≤ ρ n ∧ ρ n ≤ (E.getD n (0, 0)).2
def ka_v (ρ : Nat → Int) (α : Nat → Nat) (Γ : Nat → Option Nat) (a : ka_V) (v : Value) : Prop := match a.1 with
  | 1 => ∃ x : Int32, v = .int x ∧ x.toInt = ρ a.2.1 + a.2.2
  | 2 => ∃ x : Int64, v = .long x ∧ x.toInt = ρ a.2.1 + a.2.2
  | 3 => (v = .null ∧ ρ a.2.1 + a.2.2 = 0) ∨ ∃ r : Nat, v = .ref (α a.2.1) ∧ Γ (α a.2.1) = some r ∧ ρ a.2.1 + a.2.2 = (r : Int) + 1
  | _ => False
def ka_t (Γ : Nat → Option Nat) (f : ka_F) (v : Value) : Prop := match f.1 with
  | 1 => ∃ x : Int32, v = .int x ∧ f.2.1 ≤ x.toInt ∧ x.toInt ≤ f.2.2
  | 2 => ∃ x : Int64, v = .long x ∧ f.2.1 ≤ x.toInt ∧ x.toInt ≤ f.2.2
  | 3 => (v = .null ∧ f.2.1 ≤ 0 ∧ 0 ≤ f.2.2) ∨ ∃ (a r : Nat), v = .ref a ∧ Γ a = some r ∧ f.2.1 ≤ (r : Int) + 1 ∧ (r : Int) + 1 ≤ f.2.2
  | _ => False
theorem ka_env.at {ρ : Nat → Int} {E : ka_E} (h : ka_env ρ E) (a : ka_V) : ka_lo E a ≤ ρ a.2.1 + a.2.2 ∧ ρ a.2.1 + a.2.2 ≤ ka_hi E a := by
  have := h a.2.1
  unfold ka_lo ka_hi
  omega
theorem ka_env.push {ρ : Nat → Int} {E : ka_E} (h : ka_env ρ E) {lo hi z : Int} (h1 : lo ≤ z) (h2 : z ≤ hi) : ka_env (va_up ρ E.length z) (E ++ [(lo, hi)]) := by
  intro n
  by_cases e : n = E.length
  · subst e
    simp [va_up, h1, h2]
  · by_cases l : n < E.length
    · have := h n
      simp only [va_up, if_neg e, List.getD_eq_getElem?_getD, List.getElem?_append_left l] at this ⊢
      exact this
    · have hn : E.length + 1 ≤ n := by omega
      have := h n
      rw [List.getD_eq_getElem?_getD, List.getElem?_eq_none (by omega)] at this
      rw [List.getD_eq_getElem?_getD, List.getElem?_eq_none (by simp; omega)]
      simp only [va_up, if_neg e]
      exact this
theorem ka_v.ext {ρ ρ' : Nat → Int} {α α' : Nat → Nat} {Γ Γ' : Nat → Option Nat} {a : ka_V} {v : Value} {n : Nat} (h : ka_v ρ α Γ a v) (ha : a.2.1 < n) (h1 : ∀ k, k < n → ρ' k = ρ k) (h2 : ∀ k, k < n → α' k = α k) (h3 : ∀ b r, Γ b = some r → Γ' b = some r) : ka_v ρ' α' Γ' a v := by
  obtain ⟨t, k, d⟩ := a
  unfold ka_v at h ⊢
  dsimp only at h ha ⊢
  rw [h1 k ha, h2 k ha]
  split at h
  · exact h
  · exact h
  · rcases h with h | ⟨r, e1, e2, e3⟩
    · exact Or.inl h
    · exact Or.inr ⟨r, e1, h3 _ _ e2, e3⟩
  · exact h
theorem ka_t.ext {Γ Γ' : Nat → Option Nat} {f : ka_F} {v : Value} (h : ka_t Γ f v) (h3 : ∀ b r, Γ b = some r → Γ' b = some r) : ka_t Γ' f v := by
  obtain ⟨t, lo, hi⟩ := f
  unfold ka_t at h ⊢
  dsimp only at h ⊢
  split at h
  · exact h
  · exact h
  · rcases h with h | ⟨a, r, e1, e2, e3⟩
    · exact Or.inl h
    · exact Or.inr ⟨a, r, e1, h3 _ _ e2, e3⟩
  · exact h
/-- what is read gets a symbol of its own -/
theorem ka_t.read {Γ : Nat → Option Nat} {f : ka_F} {v : Value} (h : ka_t Γ f v) : ∃ (z : Int) (b : Nat), f.2.1 ≤ z ∧ z ≤ f.2.2 ∧ ∀ (ρ : Nat → Int) (α : Nat → Nat) (n : Nat), ρ n = z → α n = b → ka_v ρ α Γ (f.1, n, 0) v := by
  obtain ⟨t, lo, hi⟩ := f
  unfold ka_t at h
  dsimp only at h ⊢
  split at h
  · obtain ⟨x, rfl, h1, h2⟩ := h
    exact ⟨x.toInt, 0, h1, h2, fun ρ α n e _ => ⟨x, rfl, by dsimp only; omega⟩⟩
  · obtain ⟨x, rfl, h1, h2⟩ := h
    exact ⟨x.toInt, 0, h1, h2, fun ρ α n e _ => ⟨x, rfl, by dsimp only; omega⟩⟩
  · rcases h with ⟨rfl, h1, h2⟩ | ⟨a, r, rfl, e2, h1, h2⟩
    · exact ⟨0, 0, h1, h2, fun ρ α n e _ => Or.inl ⟨rfl, by dsimp only; omega⟩⟩
    · exact ⟨(r : Int) + 1, a, h1, h2, fun ρ α n e eb => Or.inr ⟨r, by dsimp only; rw [eb], by dsimp only; rw [eb]; exact e2, by dsimp only; omega⟩⟩
  · exact absurd h id
/-- what is written lies within its field's bounds -/
theorem ka_v.write {ρ : Nat → Int} {α : Nat → Nat} {Γ : Nat → Option Nat} {a : ka_V} {v : Value} (h : ka_v ρ α Γ a v) {f : ka_F} (ht : f.1 = a.1) (h1 : f.2.1 ≤ ρ a.2.1 + a.2.2) (h2 : ρ a.2.1 + a.2.2 ≤ f.2.2) : ka_t Γ f v := by
  obtain ⟨t, lo, hi⟩ := f
  obtain ⟨t', n, d⟩ := a
  dsimp only at ht h1 h2
  subst ht
  unfold ka_v at h
  unfold ka_t
  dsimp only at h ⊢
  split at h
  · obtain ⟨x, rfl, e⟩ := h
    exact ⟨x, rfl, by omega, by omega⟩
  · obtain ⟨x, rfl, e⟩ := h
    exact ⟨x, rfl, by omega, by omega⟩
  · rcases h with ⟨rfl, e⟩ | ⟨r, rfl, e2, e⟩
    · exact Or.inl ⟨rfl, by omega, by omega⟩
    · exact Or.inr ⟨_, r, rfl, e2, by omega, by omega⟩
  · exact absurd h id
def ka_loc (ρ : Nat → Int) (α : Nat → Nat) (Γ : Nat → Option Nat) (n : Nat) (L : List ka_V) (lv : List (Nat × Value)) : Prop := ∀ (i : Nat) (a : ka_V), L[i]? = some a → a.1 ≠ 0 → a.2.1 < n ∧ ∃ v : Value, (i, v) ∈ lv ∧ ka_v ρ α Γ a v
def ka_stk (ρ : Nat → Int) (α : Nat → Nat) (Γ : Nat → Option Nat) (n : Nat) : List ka_V → List Value → Prop
  | [], [] => True
  | a :: L, v :: st => a.2.1 < n ∧ ka_v ρ α Γ a v ∧ ka_stk ρ α Γ n L st
  | _, _ => False
theorem ka_loc.ext {ρ ρ' : Nat → Int} {α α' : Nat → Nat} {Γ Γ' : Nat → Option Nat} {n n' : Nat} {L : List ka_V} {lv : List (Nat × Value)} (h : ka_loc ρ α Γ n L lv) (h1 : ∀ k, k < n → ρ' k = ρ k) (h2 : ∀ k, k < n → α' k = α k) (h3 : ∀ b r, Γ b = some r → Γ' b = some r) (hn : n ≤ n') : ka_loc ρ' α' Γ' n' L lv := fun i a ha ht => by
  obtain ⟨g1, v, g2, g3⟩ := h i a ha ht
  exact ⟨Nat.lt_of_lt_of_le g1 hn, v, g2, g3.ext g1 h1 h2 h3⟩
theorem ka_stk.ext {ρ ρ' : Nat → Int} {α α' : Nat → Nat} {Γ Γ' : Nat → Option Nat} {n n' : Nat} (h1 : ∀ k, k < n → ρ' k = ρ k) (h2 : ∀ k, k < n → α' k = α k) (h3 : ∀ b r, Γ b = some r → Γ' b = some r) (hn : n ≤ n') : ∀ {L : List ka_V} {st : List Value}, ka_stk ρ α Γ n L st → ka_stk ρ' α' Γ' n' L st
  | [], [], _ => trivial
  | _ :: _, _ :: _, h => ⟨Nat.lt_of_lt_of_le h.1 hn, h.2.1.ext h.1 h1 h2 h3, ka_stk.ext h1 h2 h3 hn h.2.2⟩
  | [], _ :: _, h => absurd h id
  | _ :: _, [], h => absurd h id
theorem ka_cat1 {ρ : Nat → Int} {α : Nat → Nat} {Γ : Nat → Option Nat} {a : ka_V} {v : Value} (h : ka_v ρ α Γ a v) (ha : a.1 ≠ 2) : v.category = 1 := by
  obtain ⟨t, n, d⟩ := a
  unfold ka_v at h
  dsimp only at h ha
  split at h
  · obtain ⟨x, rfl, -⟩ := h; rfl
  · exact absurd rfl ha
  · rcases h with ⟨rfl, -⟩ | ⟨r, rfl, -⟩ <;> rfl
  · exact absurd h id
theorem ka_cat2 {ρ : Nat → Int} {α : Nat → Nat} {Γ : Nat → Option Nat} {n : Nat} {d : Int} {v : Value} (h : ka_v ρ α Γ (2, n, d) v) : v.category = 2 := by
  obtain ⟨x, rfl, -⟩ := h; rfl
-- numbers
theorem ka_i32 (x : Int32) : -2147483648 ≤ x.toInt ∧ x.toInt ≤ 2147483647 := by
  have h1 := x.le_toInt
  have h2 := x.toInt_lt
  omega
theorem ka_i64 (x : Int64) : -9223372036854775808 ≤ x.toInt ∧ x.toInt ≤ 9223372036854775807 := by
  have h1 := x.le_toInt
  have h2 := x.toInt_lt
  omega
theorem ka_add32 {x y : Int32} (h1 : -2147483648 ≤ x.toInt + y.toInt) (h2 : x.toInt + y.toInt ≤ 2147483647) : (x + y).toInt = x.toInt + y.toInt := by
  rw [Int32.toInt_add]
  exact Int.bmod_eq_of_le (by omega) (by omega)
theorem ka_sub32 {x y : Int32} (h1 : -2147483648 ≤ x.toInt - y.toInt) (h2 : x.toInt - y.toInt ≤ 2147483647) : (x - y).toInt = x.toInt - y.toInt := by
  rw [Int32.toInt_sub]
  exact Int.bmod_eq_of_le (by omega) (by omega)
theorem ka_mul32 {x y : Int32} (h1 : -2147483648 ≤ x.toInt * y.toInt) (h2 : x.toInt * y.toInt ≤ 2147483647) : (x * y).toInt = x.toInt * y.toInt := by
  rw [Int32.toInt_mul]
  exact Int.bmod_eq_of_le (by omega) (by omega)
end
section
/-- a cell of a kind; P: what is not yet laid -/
def ka_e (RT : List ka_R) (Γ : Nat → Option Nat) (P : Nat → Nat → Prop) (tys : List (ClassId × FieldType)) (a r : Nat) (e : va_E) : Prop := ∃ g : ka_R, RT[r]? = some g ∧ match g.1 with
  | 0 => ∃ fs : List Value, e = .inr (g.2.1, fs) ∧ fs.length = g.2.2.2.1.length ∧ ∀ (j : Nat) (f : ka_F) (v : Value), g.2.2.2.1[j]? = some f → fs[j]? = some v → P a j ∨ ka_t Γ f v
  | 1 => ∃ (cA : ClassId) (n t0 : Nat) (h : Nat → Int32), e = .inl (cA, n, .inl h) ∧ tys[t0]? = some (cA, g.2.2.1) ∧ g.2.2.2.2.1 ≤ n ∧ n ≤ g.2.2.2.2.2 ∧ ∀ f : ka_F, g.2.2.2.1[0]? = some f → ∀ j : Nat, j < n → f.2.1 ≤ (h j).toInt ∧ (h j).toInt ≤ f.2.2
  | 2 => ∃ (cA : ClassId) (n t0 : Nat) (h : Nat → Int64), e = .inl (cA, n, .inr (.inl h)) ∧ tys[t0]? = some (cA, .long) ∧ g.2.2.2.2.1 ≤ n ∧ n ≤ g.2.2.2.2.2 ∧ ∀ f : ka_F, g.2.2.2.1[0]? = some f → ∀ j : Nat, j < n → f.2.1 ≤ (h j).toInt ∧ (h j).toInt ≤ f.2.2
  | 3 => ∃ (cA : ClassId) (n t0 : Nat) (h : Nat → Option Nat), e = .inl (cA, n, .inr (.inr (.inr (.inr h)))) ∧ tys[t0]? = some (cA, g.2.2.1) ∧ g.2.2.2.2.1 ≤ n ∧ n ≤ g.2.2.2.2.2 ∧ ∀ f : ka_F, g.2.2.2.1[0]? = some f → ∀ j : Nat, j < n → P a j ∨ ka_t Γ f (va_rf (h j))
  | _ => False
theorem ka_e.ext {RT : List ka_R} {Γ Γ' : Nat → Option Nat} {P P' : Nat → Nat → Prop} {tys tys' : List (ClassId × FieldType)} {a r : Nat} {e : va_E} (h : ka_e RT Γ P tys a r e) (h3 : ∀ b r, Γ b = some r → Γ' b = some r) (hp : ∀ j, P a j → P' a j) (ht : ∀ (k : Nat) (q : ClassId × FieldType), tys[k]? = some q → tys'[k]? = some q) : ka_e RT Γ' P' tys' a r e := by
  obtain ⟨g, h1, h2⟩ := h
  refine ⟨g, h1, ?_⟩
  split at h2
  · obtain ⟨fs, e1, e2, e4⟩ := h2
    exact ⟨fs, e1, e2, fun j f v hf hv => (e4 j f v hf hv).elim (fun q => Or.inl (hp j q)) (fun q => Or.inr (q.ext h3))⟩
  · obtain ⟨cA, n, t0, k, e1, e2, e4⟩ := h2
    exact ⟨cA, n, t0, k, e1, ht _ _ e2, e4⟩
  · obtain ⟨cA, n, t0, k, e1, e2, e4⟩ := h2
    exact ⟨cA, n, t0, k, e1, ht _ _ e2, e4⟩
  · obtain ⟨cA, n, t0, k, e1, e2, e4, e5, e6⟩ := h2
    exact ⟨cA, n, t0, k, e1, ht _ _ e2, e4, e5, fun f hf j hj => (e6 f hf j hj).elim (fun q => Or.inl (hp j q)) (fun q => Or.inr (q.ext h3))⟩
  · exact h2
/-- the world -/
def ka_W (D : va_G) (cl : List vw_C) (A : Nat → Prop) (RT : List ka_R) (s : State) (H0 : Heap) (Γ : Nat → Option Nat) (P : Nat → Nat → Prop) (ws : va_W) (tys : List (ClassId × FieldType)) (H : Heap) (locs : List Loc) : Prop :=
  va_K D cl tys s ∧ va_P D cl ws H ∧ va_D A ws ∧ va_S A H0 H locs ∧ ∀ a r : Nat, Γ a = some r → ∃ (k : Nat) (e : va_E), ws[k]? = some (a, e) ∧ ka_e RT Γ P tys a r e
/-- what is not yet laid: by the symbols of this method, or of those that called it (kinds in av) -/
def ka_P (α : Nat → Nat) (Γ : Nat → Option Nat) (av : List Nat) (pend : List (Nat × List Nat)) (P : Nat → Nat → Prop) : Prop := ∀ a j : Nat, P a j → (∃ q ∈ pend, α q.1 = a ∧ j ∈ q.2) ∨ ∃ r : Nat, Γ a = some r ∧ r ∈ av
/-- the symbols of what is not yet laid are cells -/
def ka_pd (ρ : Nat → Int) (α : Nat → Nat) (Γ : Nat → Option Nat) (n : Nat) (pd : List (Nat × List Nat)) : Prop := ∀ q ∈ pd, q.1 < n ∧ ∃ r : Nat, Γ (α q.1) = some r ∧ ρ q.1 = (r : Int) + 1
theorem ka_pd.ext {ρ ρ' : Nat → Int} {α α' : Nat → Nat} {Γ Γ' : Nat → Option Nat} {n n' : Nat} {pd : List (Nat × List Nat)} (h : ka_pd ρ α Γ n pd) (h1 : ∀ k, k < n → ρ' k = ρ k) (h2 : ∀ k, k < n → α' k = α k) (h3 : ∀ b r, Γ b = some r → Γ' b = some r) (hn : n ≤ n') : ka_pd ρ' α' Γ' n' pd := fun q hq => by
  obtain ⟨g1, r, g2, g3⟩ := h q hq
  exact ⟨Nat.lt_of_lt_of_le g1 hn, r, by rw [h2 _ g1]; exact h3 _ _ g2, by rw [h1 _ g1]; exact g3⟩
section KA
variable {p : Program} {l : Launch} {e : Env} {R : Room} {s : State} {m : MethodId} {args : Array Value} {below : List Frame} {meth : Method} {c : Code} {Q : State → Prop}
variable {cc : ByteArray} {nL : Nat} {D : va_G} {cl : List vw_C} {A : Nat → Prop} {RT : List ka_R} {av : List Nat} {H0 : Heap}
/-- a state of the checker, and the machine's -/
def ka_ok (D : va_G) (cl : List vw_C) (A : Nat → Prop) (RT : List ka_R) (s : State) (H0 : Heap) (av : List Nat) (nL : Nat) (E : ka_E) (L K : List ka_V) (pd : List (Nat × List Nat)) (ρ : Nat → Int) (α : Nat → Nat) (Γ : Nat → Option Nat) (P : Nat → Nat → Prop) (ws : va_W) (tys : List (ClassId × FieldType)) (H : Heap) (locs : List Loc) (ls : Array Slot) (lv : List (Nat × Value)) (st : List Value) : Prop :=
  ka_env ρ E ∧ (0 < E.length ∧ ρ 0 = 0) ∧ ka_loc ρ α Γ E.length L lv ∧ lv_has ls nL lv ∧ ka_stk ρ α Γ E.length K st ∧ ka_pd ρ α Γ E.length pd ∧ ka_P α Γ av pd P ∧ ka_W D cl A RT s H0 Γ P ws tys H locs
/-- from every such state the machine comes to Q; the first nA symbols are the method's own arguments -/
def ka_J (p : Program) (l : Launch) (e : Env) (R : Room) (s : State) (m : MethodId) (args : Array Value) (below : List Frame) (meth : Method) (c : Code) (Q : State → Prop) (D : va_G) (cl : List vw_C) (A : Nat → Prop) (RT : List ka_R) (H0 : Heap) (av : List Nat) (nL : Nat) (Γ0 : Nat → Option Nat) (nA : Nat) (ρ0 : Nat → Int) (α0 : Nat → Nat) (pc : Nat) (S : ka_S) : Prop :=
  ∀ (ρ : Nat → Int) (α : Nat → Nat) (Γ : Nat → Option Nat) (P : Nat → Nat → Prop) (ws : va_W) (tys : List (ClassId × FieldType)) (H : Heap) (locs : List Loc) (ls : Array Slot) (lv : List (Nat × Value)) (st : List Value),
    ka_ok D cl A RT s H0 av nL S.1 S.2.1 S.2.2.1 S.2.2.2.1 ρ α Γ P ws tys H locs ls lv st → nA ≤ S.1.length → (∀ b r, Γ0 b = some r → Γ b = some r) → (∀ k, k < nA → ρ k = ρ0 k ∧ α k = α0 k) → W p l e R s m args below meth c H locs S.2.2.2.2.1 S.2.2.2.2.2 Q (F0 m pc ls st)
/-- a value that comes, with the bounds as they then are -/
def ka_r (E : ka_E) (ρ : Nat → Int) (α : Nat → Nat) (Γ : Nat → Option Nat) (E' : ka_E) (a : ka_V) (v : Value) : Prop := ∃ (ρ' : Nat → Int) (α' : Nat → Nat), (∀ k, k < E.length → ρ' k = ρ k) ∧ (∀ k, k < E.length → α' k = α k) ∧ ka_env ρ' E' ∧ E.length ≤ E'.length ∧ a.2.1 < E'.length ∧ ka_v ρ' α' Γ a v
theorem ka_P.ext {ρ : Nat → Int} {α α' : Nat → Nat} {Γ : Nat → Option Nat} {av : List Nat} {pd : List (Nat × List Nat)} {P : Nat → Nat → Prop} {n : Nat} (h : ka_P α Γ av pd P) (hq : ka_pd ρ α Γ n pd) (h2 : ∀ k, k < n → α' k = α k) : ka_P α' Γ av pd P := fun a j hp => by
  rcases h a j hp with ⟨q, g1, g2, g3⟩ | g
  · exact Or.inl ⟨q, g1, by rw [h2 _ (hq q g1).1]; exact g2, g3⟩
  · exact Or.inr g
variable {Γ0 : Nat → Option Nat} {nA : Nat} {ρ0 : Nat → Int} {α0 : Nat → Nat}
theorem ka_J.res {E E' : ka_E} {L K K' : List ka_V} {pd : List (Nat × List Nat)} {cs ss pc : Nat} {a : ka_V} {v : Value} {ρ : Nat → Int} {α : Nat → Nat} {Γ : Nat → Option Nat} {P : Nat → Nat → Prop} {ws : va_W} {tys : List (ClassId × FieldType)} {H : Heap} {locs : List Loc} {ls : Array Slot} {lv : List (Nat × Value)} {st st' : List Value}
    (k : ka_J p l e R s m args below meth c Q D cl A RT H0 av nL Γ0 nA ρ0 α0 pc (E', L, a :: K', pd, cs, ss)) (hk : ka_ok D cl A RT s H0 av nL E L K pd ρ α Γ P ws tys H locs ls lv st) (hn : nA ≤ E.length) (hΓ : ∀ b r, Γ0 b = some r → Γ b = some r) (hρ : ∀ k, k < nA → ρ k = ρ0 k ∧ α k = α0 k)
    (hK : ka_stk ρ α Γ E.length K' st') (hr : ka_r E ρ α Γ E' a v) : W p l e R s m args below meth c H locs cs ss Q (F0 m pc ls (v :: st')) := by
  obtain ⟨hE, h0, hL, hl, hst, hq, hP, hW⟩ := hk
  obtain ⟨ρ', α', g1, g2, g3, g4, g5, g6⟩ := hr
  exact k ρ' α' Γ P ws tys H locs ls lv (v :: st') ⟨g3, ⟨Nat.lt_of_lt_of_le h0.1 g4, by rw [g1 0 h0.1]; exact h0.2⟩, hL.ext g1 g2 (fun _ _ h => h) g4, hl, ⟨g5, g6, ka_stk.ext g1 g2 (fun _ _ h => h) g4 hK⟩, hq.ext g1 g2 (fun _ _ h => h) g4, hP.ext hq g2, hW⟩ (Nat.le_trans hn g4) hΓ (fun k h => ⟨(g1 k (Nat.lt_of_lt_of_le h hn)).trans (hρ k h).1, (g2 k (Nat.lt_of_lt_of_le h hn)).trans (hρ k h).2⟩)
theorem ka_r.old {E : ka_E} {ρ : Nat → Int} {α : Nat → Nat} {Γ : Nat → Option Nat} {a : ka_V} {v : Value} (hE : ka_env ρ E) (ha : a.2.1 < E.length) (hv : ka_v ρ α Γ a v) : ka_r E ρ α Γ E a v := ⟨ρ, α, fun _ _ => rfl, fun _ _ => rfl, hE, Nat.le_refl _, ha, hv⟩
theorem ka_r.new {E : ka_E} {ρ : Nat → Int} {α : Nat → Nat} {Γ : Nat → Option Nat} {t : Nat} {v : Value} {lo hi z : Int} (b : Nat) (hE : ka_env ρ E) (h1 : lo ≤ z) (h2 : z ≤ hi) (hv : ∀ (ρ : Nat → Int) (α : Nat → Nat) (n : Nat), ρ n = z → α n = b → ka_v ρ α Γ (t, n, 0) v) : ka_r E ρ α Γ (E ++ [(lo, hi)]) (t, E.length, 0) v :=
  ⟨va_up ρ E.length z, va_up α E.length b, fun k h => va_up_ne _ _ (Nat.ne_of_lt h), fun k h => va_up_ne _ _ (Nat.ne_of_lt h), hE.push h1 h2, by simp, by simp, hv _ _ _ (va_up_self _ _ _) (va_up_self _ _ _)⟩
/-- a number within bounds: as a constant, if they are one -/
def ka_mk (E : ka_E) (t : Nat) (lo hi : Int) : ka_E × ka_V := if lo = hi then (E, (t, 0, lo)) else (E ++ [(lo, hi)], (t, E.length, 0))
theorem ka_mk.i {E : ka_E} {ρ : Nat → Int} {α : Nat → Nat} {Γ : Nat → Option Nat} {lo hi : Int} {x : Int32} (hE : ka_env ρ E) (h0 : 0 < E.length ∧ ρ 0 = 0) (h1 : lo ≤ x.toInt) (h2 : x.toInt ≤ hi) : ka_r E ρ α Γ (ka_mk E 1 lo hi).1 (ka_mk E 1 lo hi).2 (.int x) := by
  unfold ka_mk
  by_cases e : lo = hi
  · rw [if_pos e]
    exact ka_r.old hE h0.1 ⟨x, rfl, by dsimp only; omega⟩
  · rw [if_neg e]
    exact ka_r.new 0 hE h1 h2 (fun ρ α n e1 _ => ⟨x, rfl, by dsimp only; omega⟩)
theorem ka_mk.lg {E : ka_E} {ρ : Nat → Int} {α : Nat → Nat} {Γ : Nat → Option Nat} {lo hi : Int} {x : Int64} (hE : ka_env ρ E) (h0 : 0 < E.length ∧ ρ 0 = 0) (h1 : lo ≤ x.toInt) (h2 : x.toInt ≤ hi) : ka_r E ρ α Γ (ka_mk E 2 lo hi).1 (ka_mk E 2 lo hi).2 (.long x) := by
  unfold ka_mk
  by_cases e : lo = hi
  · rw [if_pos e]
    exact ka_r.old hE h0.1 ⟨x, rfl, by dsimp only; omega⟩
  · rw [if_neg e]
    exact ka_r.new 0 hE h1 h2 (fun ρ α n e1 _ => ⟨x, rfl, by dsimp only; omega⟩)
end KA
def ka_any (E : ka_E) : ka_E × ka_V := ka_mk E 1 (-2147483648) 2147483647
def ka_anyl (E : ka_E) : ka_E × ka_V := ka_mk E 2 (-9223372036854775808) 9223372036854775807
def ka_iadd (E : ka_E) (a b : ka_V) : ka_E × ka_V :=
  if (-2147483648) ≤ ka_lo E a + ka_lo E b ∧ ka_hi E a + ka_hi E b ≤ 2147483647 then
    (if ka_lo E b = ka_hi E b then (E, (1, a.2.1, a.2.2 + ka_lo E b)) else if ka_lo E a = ka_hi E a then (E, (1, b.2.1, b.2.2 + ka_lo E a)) else ka_mk E 1 (ka_lo E a + ka_lo E b) (ka_hi E a + ka_hi E b))
  else ka_any E
def ka_isub (E : ka_E) (a b : ka_V) : ka_E × ka_V :=
  if (-2147483648) ≤ ka_lo E a - ka_hi E b ∧ ka_hi E a - ka_lo E b ≤ 2147483647 then
    (if ka_lo E b = ka_hi E b then (E, (1, a.2.1, a.2.2 - ka_lo E b)) else if a.2.1 = b.2.1 then (E, (1, 0, a.2.2 - b.2.2)) else ka_mk E 1 (ka_lo E a - ka_hi E b) (ka_hi E a - ka_lo E b))
  else ka_any E
section KB
variable {E : ka_E} {ρ : Nat → Int} {α : Nat → Nat} {Γ : Nat → Option Nat} {a b : ka_V} {x y : Int32}
theorem ka_iadd.ok (hE : ka_env ρ E) (h0 : 0 < E.length ∧ ρ 0 = 0) (ha : a.2.1 < E.length) (hb : b.2.1 < E.length) (ea : x.toInt = ρ a.2.1 + a.2.2) (eb : y.toInt = ρ b.2.1 + b.2.2) : ka_r E ρ α Γ (ka_iadd E a b).1 (ka_iadd E a b).2 (.int (x + y)) := by
  have h1 := hE.at a
  have h2 := hE.at b
  unfold ka_iadd
  by_cases c : (-2147483648) ≤ ka_lo E a + ka_lo E b ∧ ka_hi E a + ka_hi E b ≤ 2147483647
  · rw [if_pos c]
    have es : (x + y).toInt = x.toInt + y.toInt := ka_add32 (by omega) (by omega)
    by_cases c1 : ka_lo E b = ka_hi E b
    · rw [if_pos c1]
      exact ka_r.old hE ha ⟨x + y, rfl, by dsimp only; omega⟩
    · rw [if_neg c1]
      by_cases c2 : ka_lo E a = ka_hi E a
      · rw [if_pos c2]
        exact ka_r.old hE hb ⟨x + y, rfl, by dsimp only; omega⟩
      · rw [if_neg c2]
        exact ka_mk.i hE h0 (by omega) (by omega)
  · rw [if_neg c]
    exact ka_mk.i hE h0 (ka_i32 _).1 (ka_i32 _).2
theorem ka_isub.ok (hE : ka_env ρ E) (h0 : 0 < E.length ∧ ρ 0 = 0) (ha : a.2.1 < E.length) (ea : x.toInt = ρ a.2.1 + a.2.2) (eb : y.toInt = ρ b.2.1 + b.2.2) : ka_r E ρ α Γ (ka_isub E a b).1 (ka_isub E a b).2 (.int (x - y)) := by
  have h1 := hE.at a
  have h2 := hE.at b
  unfold ka_isub
  by_cases c : (-2147483648) ≤ ka_lo E a - ka_hi E b ∧ ka_hi E a - ka_lo E b ≤ 2147483647
  · rw [if_pos c]
    have es : (x - y).toInt = x.toInt - y.toInt := ka_sub32 (by omega) (by omega)
    by_cases c1 : ka_lo E b = ka_hi E b
    · rw [if_pos c1]
      exact ka_r.old hE ha ⟨x - y, rfl, by dsimp only; omega⟩
    · rw [if_neg c1]
      by_cases c2 : a.2.1 = b.2.1
      · rw [if_pos c2]
        rw [c2] at ea
        exact ka_r.old hE h0.1 ⟨x - y, rfl, by dsimp only; omega⟩
      · rw [if_neg c2]
        exact ka_mk.i hE h0 (by omega) (by omega)
  · rw [if_neg c]
    exact ka_mk.i hE h0 (ka_i32 _).1 (ka_i32 _).2
end KB
end
section
theorem ka_nn {x : Int32} (h : 0 ≤ x.toInt) : ∃ j : Nat, j < 2 ^ 31 ∧ x = nI j ∧ x.toInt = (j : Int) := by
  have h1 : ¬ x < 0 := by
    rw [Int32.lt_iff_toInt_lt]
    have : (0 : Int32).toInt = 0 := rfl
    omega
  obtain ⟨j, hj, e⟩ := nI_of h1
  exact ⟨j, hj, e, by rw [e, nI_toInt hj]⟩
theorem ka_cst {x : Int32} {z : Int} (h : x.toInt = z) : x = Int32.ofInt z := by
  rw [← h]
  exact (Int32.ofInt_toInt x).symm
theorem ka_and_le (x y : Int32) (h : 0 ≤ y.toInt) : 0 ≤ (x &&& y).toInt ∧ (x &&& y).toInt ≤ y.toInt := by
  obtain ⟨j, hj, e, ej⟩ := ka_nn h
  have h1 : (x &&& y).toBitVec.toNat ≤ y.toBitVec.toNat := by
    rw [Int32.toBitVec_and, BitVec.toNat_and]
    exact Nat.and_le_right
  have h2 : y.toBitVec.toNat = j := by rw [e]; exact pk_tn (by omega)
  have h3 : (x &&& y).toInt = ((x &&& y).toBitVec.toNat : Int) := by
    show (x &&& y).toBitVec.toInt = _
    rw [BitVec.toInt_eq_toNat_cond, if_pos (by omega)]
  rw [h3, ej]
  omega
def ka_imul (E : ka_E) (a b : ka_V) : ka_E × ka_V :=
  if 0 ≤ ka_lo E a ∧ 0 ≤ ka_lo E b ∧ ka_hi E a * ka_hi E b ≤ 2147483647 then ka_mk E 1 (ka_lo E a * ka_lo E b) (ka_hi E a * ka_hi E b) else ka_mk E 1 (-2147483648) 2147483647
def ka_idiv (E : ka_E) (a b : ka_V) : ka_E × ka_V :=
  if 0 ≤ ka_lo E a ∧ 0 < ka_lo E b then (if ka_lo E b = ka_hi E b then ka_mk E 1 (ka_lo E a / ka_lo E b) (ka_hi E a / ka_lo E b) else ka_mk E 1 0 (ka_hi E a)) else ka_mk E 1 (-2147483648) 2147483647
def ka_irem (E : ka_E) (a b : ka_V) : ka_E × ka_V :=
  if 0 ≤ ka_lo E a ∧ 0 < ka_lo E b then ka_mk E 1 0 (if ka_hi E a ≤ ka_hi E b - 1 then ka_hi E a else ka_hi E b - 1) else ka_mk E 1 (-2147483648) 2147483647
def ka_iand (E : ka_E) (a b : ka_V) : ka_E × ka_V :=
  if 0 ≤ ka_lo E b then ka_mk E 1 0 (ka_hi E b) else if 0 ≤ ka_lo E a then ka_mk E 1 0 (ka_hi E a) else ka_mk E 1 (-2147483648) 2147483647
/-- constants are worked out, all else may be anything -/
def ka_con (f : Int32 → Int32 → Int32) (E : ka_E) (a b : ka_V) : ka_E × ka_V :=
  if ka_lo E a = ka_hi E a ∧ ka_lo E b = ka_hi E b then (E, (1, 0, (f (Int32.ofInt (ka_lo E a)) (Int32.ofInt (ka_lo E b))).toInt)) else ka_mk E 1 (-2147483648) 2147483647
def ka_ishr (E : ka_E) (a b : ka_V) : ka_E × ka_V :=
  if ka_lo E a = ka_hi E a ∧ ka_lo E b = ka_hi E b then (E, (1, 0, (Int32.ofInt (ka_lo E a) >>> (Int32.ofInt (ka_lo E b) &&& 31)).toInt)) else ka_mk E 1 (-2147483648) 2147483647
section KC
variable {E : ka_E} {ρ : Nat → Int} {α : Nat → Nat} {Γ : Nat → Option Nat} {a b : ka_V} {x y : Int32}
theorem ka_imul.ok (hE : ka_env ρ E) (h0 : 0 < E.length ∧ ρ 0 = 0) (ea : x.toInt = ρ a.2.1 + a.2.2) (eb : y.toInt = ρ b.2.1 + b.2.2) : ka_r E ρ α Γ (ka_imul E a b).1 (ka_imul E a b).2 (.int (x * y)) := by
  have h1 := hE.at a
  have h2 := hE.at b
  unfold ka_imul
  by_cases c : 0 ≤ ka_lo E a ∧ 0 ≤ ka_lo E b ∧ ka_hi E a * ka_hi E b ≤ 2147483647
  · rw [if_pos c]
    have g1 : ka_lo E a * ka_lo E b ≤ x.toInt * y.toInt := Int.mul_le_mul (by omega) (by omega) (by omega) (by omega)
    have g2 : x.toInt * y.toInt ≤ ka_hi E a * ka_hi E b := Int.mul_le_mul (by omega) (by omega) (by omega) (by omega)
    have g3 : 0 ≤ ka_lo E a * ka_lo E b := Int.mul_nonneg (by omega) (by omega)
    have es : (x * y).toInt = x.toInt * y.toInt := ka_mul32 (by omega) (by omega)
    exact ka_mk.i hE h0 (by omega) (by omega)
  · rw [if_neg c]
    exact ka_mk.i hE h0 (ka_i32 _).1 (ka_i32 _).2
theorem ka_idiv.ok (hE : ka_env ρ E) (h0 : 0 < E.length ∧ ρ 0 = 0) (ea : x.toInt = ρ a.2.1 + a.2.2) (eb : y.toInt = ρ b.2.1 + b.2.2) : ka_r E ρ α Γ (ka_idiv E a b).1 (ka_idiv E a b).2 (.int (x / y)) := by
  have h1 := hE.at a
  have h2 := hE.at b
  unfold ka_idiv
  by_cases c : 0 ≤ ka_lo E a ∧ 0 < ka_lo E b
  · rw [if_pos c]
    obtain ⟨j, hj, ej, ej2⟩ := ka_nn (x := x) (by omega)
    obtain ⟨k, hk, ek, ek2⟩ := ka_nn (x := y) (by omega)
    have es : (x / y).toInt = x.toInt / y.toInt := by
      rw [ej, ek, pk_div hj (by omega) hk, nI_toInt (Nat.lt_of_le_of_lt (Nat.div_le_self _ _) hj), nI_toInt hj, nI_toInt hk]
      exact Int.natCast_ediv j k
    by_cases c1 : ka_lo E b = ka_hi E b
    · rw [if_pos c1]
      have ey : y.toInt = ka_lo E b := by omega
      rw [ey] at es
      exact ka_mk.i hE h0 (by rw [es]; exact Int.ediv_le_ediv c.2 (by omega)) (by rw [es]; exact Int.ediv_le_ediv c.2 (by omega))
    · rw [if_neg c1]
      have g1 : 0 ≤ x.toInt / y.toInt := Int.ediv_nonneg (by omega) (by omega)
      have g2 : x.toInt / y.toInt ≤ x.toInt := Int.ediv_le_self _ (by omega)
      exact ka_mk.i hE h0 (by omega) (by omega)
  · rw [if_neg c]
    exact ka_mk.i hE h0 (ka_i32 _).1 (ka_i32 _).2
theorem ka_irem.ok (hE : ka_env ρ E) (h0 : 0 < E.length ∧ ρ 0 = 0) (ea : x.toInt = ρ a.2.1 + a.2.2) (eb : y.toInt = ρ b.2.1 + b.2.2) : ka_r E ρ α Γ (ka_irem E a b).1 (ka_irem E a b).2 (.int (x - x / y * y)) := by
  have h1 := hE.at a
  have h2 := hE.at b
  unfold ka_irem
  by_cases c : 0 ≤ ka_lo E a ∧ 0 < ka_lo E b
  · rw [if_pos c]
    obtain ⟨j, hj, ej, ej2⟩ := ka_nn (x := x) (by omega)
    obtain ⟨k, hk, ek, ek2⟩ := ka_nn (x := y) (by omega)
    have h3 : j % k < k := Nat.mod_lt _ (by omega)
    have h4 : j % k ≤ j := Nat.mod_le _ _
    have es : (x - x / y * y).toInt = ((j % k : Nat) : Int) := by
      rw [ej, ek, pk_rem hj (by omega) hk, nI_toInt (by omega)]
    exact ka_mk.i hE h0 (by omega) (by split <;> omega)
  · rw [if_neg c]
    exact ka_mk.i hE h0 (ka_i32 _).1 (ka_i32 _).2
theorem ka_iand.ok (hE : ka_env ρ E) (h0 : 0 < E.length ∧ ρ 0 = 0) (ea : x.toInt = ρ a.2.1 + a.2.2) (eb : y.toInt = ρ b.2.1 + b.2.2) : ka_r E ρ α Γ (ka_iand E a b).1 (ka_iand E a b).2 (.int (x &&& y)) := by
  have h1 := hE.at a
  have h2 := hE.at b
  unfold ka_iand
  by_cases c : 0 ≤ ka_lo E b
  · rw [if_pos c]
    have g := ka_and_le x y (by omega)
    exact ka_mk.i hE h0 (by omega) (by omega)
  · rw [if_neg c]
    by_cases c1 : 0 ≤ ka_lo E a
    · rw [if_pos c1]
      have g := ka_and_le y x (by omega)
      rw [Int32.and_comm] at g
      exact ka_mk.i hE h0 (by omega) (by omega)
    · rw [if_neg c1]
      exact ka_mk.i hE h0 (ka_i32 _).1 (ka_i32 _).2
theorem ka_con.ok (f : Int32 → Int32 → Int32) (hE : ka_env ρ E) (h0 : 0 < E.length ∧ ρ 0 = 0) (ea : x.toInt = ρ a.2.1 + a.2.2) (eb : y.toInt = ρ b.2.1 + b.2.2) : ka_r E ρ α Γ (ka_con f E a b).1 (ka_con f E a b).2 (.int (f x y)) := by
  have h1 := hE.at a
  have h2 := hE.at b
  unfold ka_con
  by_cases c : ka_lo E a = ka_hi E a ∧ ka_lo E b = ka_hi E b
  · rw [if_pos c]
    have e1 : x = Int32.ofInt (ka_lo E a) := ka_cst (by omega)
    have e2 : y = Int32.ofInt (ka_lo E b) := ka_cst (by omega)
    refine ka_r.old hE h0.1 ⟨f x y, rfl, ?_⟩
    dsimp only
    rw [← e1, ← e2]
    omega
  · rw [if_neg c]
    exact ka_mk.i hE h0 (ka_i32 _).1 (ka_i32 _).2
end KC
/-- two ints on the stack, one comes -/
def ka_b32 (i : Instr) (E : ka_E) (a b : ka_V) : Option (ka_E × ka_V) := match i with
  | .iadd => some (ka_iadd E a b)
  | .isub => some (ka_isub E a b)
  | .imul => some (ka_imul E a b)
  | .idiv => if 0 < ka_lo E b ∨ ka_hi E b < 0 then some (ka_idiv E a b) else none
  | .irem => if 0 < ka_lo E b ∨ ka_hi E b < 0 then some (ka_irem E a b) else none
  | .iand => some (ka_iand E a b)
  | .ior => some (ka_con (· ||| ·) E a b)
  | .ixor => some (ka_con (· ^^^ ·) E a b)
  | .ishl => some (ka_con (fun x y => x <<< (y &&& 31)) E a b)
  | .ishr => some (ka_con (fun x y => x >>> (y &&& 31)) E a b)
  | .iushr => some (ka_con (fun x y => (x.toUInt32 >>> (y.toUInt32 &&& Int32.toUInt32 31)).toInt32) E a b)
  | _ => none
section KD
variable {p : Program} {l : Launch} {e : Env} {R : Room} {s : State} {m : MethodId} {args : Array Value} {below : List Frame} {meth : Method} {c : Code} {H : Heap} {locs : List Loc} {cells slots : Nat} {Q : State → Prop} {cc : ByteArray} {pc : Nat} {ls : Array Slot} {rest : List Value}
variable {E : ka_E} {ρ : Nat → Int} {α : Nat → Nat} {Γ : Nat → Option Nat} {a b : ka_V} {x y : Int32}
theorem ka_ne0 {y : Int32} (h : y.toInt ≠ 0) : ¬ y = 0 := fun q => h (by rw [q]; rfl)
theorem ka_b32.ok {i : Instr} {r : ka_E × ka_V} (h : ka_b32 i E a b = some r) (hx : p.tables.exec = Jvm.exec) (hb : c.code = cc) (hd : decode cc pc = .ok (i, 1)) (hE : ka_env ρ E) (h0 : 0 < E.length ∧ ρ 0 = 0) (ha : a.2.1 < E.length) (hbl : b.2.1 < E.length) (ea : x.toInt = ρ a.2.1 + a.2.2) (eb : y.toInt = ρ b.2.1 + b.2.2)
    (k : ∀ z : Int32, ka_r E ρ α Γ r.1 r.2 (.int z) → W p l e R s m args below meth c H locs cells slots Q (F0 m (pc + 1) ls (.int z :: rest))) : W p l e R s m args below meth c H locs cells slots Q (F0 m pc ls (.int y :: .int x :: rest)) := by
  have h1 := hE.at b
  unfold ka_b32 at h
  split at h
  · cases h; exact lv_iadd hx hb hd (k _ (ka_iadd.ok hE h0 ha hbl ea eb))
  · cases h; exact lv_isub hx hb hd (k _ (ka_isub.ok hE h0 ha ea eb))
  · cases h; exact lv_imul hx hb hd (k _ (ka_imul.ok hE h0 ea eb))
  · split at h
    · cases h; exact lv_idiv hx hb hd (ka_ne0 (by omega)) (k _ (ka_idiv.ok hE h0 ea eb))
    · cases h
  · split at h
    · cases h; exact lv_irem hx hb hd (ka_ne0 (by omega)) (k _ (ka_irem.ok hE h0 ea eb))
    · cases h
  · cases h; exact lv_iand hx hb hd (k _ (ka_iand.ok hE h0 ea eb))
  · cases h; exact lv_ior hx hb hd (k _ (ka_con.ok (· ||| ·) hE h0 ea eb))
  · cases h; exact lv_ixor hx hb hd (k _ (ka_con.ok (· ^^^ ·) hE h0 ea eb))
  · cases h; exact lv_ishl hx hb hd (k _ (ka_con.ok (fun x y => x <<< (y &&& 31)) hE h0 ea eb))
  · cases h; exact lv_ishr hx hb hd (k _ (ka_con.ok (fun x y => x >>> (y &&& 31)) hE h0 ea eb))
  · cases h; exact lv_iushr hx hb hd rfl (k _ (ka_con.ok (fun x y => (x.toUInt32 >>> (y.toUInt32 &&& Int32.toUInt32 31)).toInt32) hE h0 ea eb))
  · cases h
end KD
end
section
def ka_load (L : List ka_V) (t i : Nat) : Option ka_V := match L[i]? with
  | some a => if a.1 = t then some a else none
  | none => none
theorem ka_load.of {L : List ka_V} {t i : Nat} {a : ka_V} (h : ka_load L t i = some a) : L[i]? = some a ∧ a.1 = t := by
  unfold ka_load at h
  split at h
  · split at h
    · cases h; exact ⟨by assumption, by assumption⟩
    · cases h
  · cases h
/-- a local is written; a long that reached into it is gone -/
def ka_st1 (L : List ka_V) (i : Nat) (a : ka_V) : List ka_V := (match i with
  | 0 => L
  | j + 1 => match L[j]? with
    | some b => if b.1 = 2 then L.set j (0, 0, 0) else L
    | none => L).set i a
theorem ka_st1.at {L : List ka_V} {i j : Nat} {a b : ka_V} (h : (ka_st1 L i a)[j]? = some b) (hb : b.1 ≠ 0) : (j = i ∧ b = a) ∨ (j ≠ i ∧ L[j]? = some b ∧ (j + 1 = i → b.1 ≠ 2)) := by
  unfold ka_st1 at h
  by_cases e : j = i
  · subst e
    rw [List.getElem?_set_self'] at h
    left
    refine ⟨rfl, ?_⟩
    cases hq : (match j with
      | 0 => L
      | j + 1 => match L[j]? with
        | some b => if b.1 = 2 then L.set j (0, 0, 0) else L
        | none => L)[j]? with
    | none => rw [hq] at h; cases h
    | some z => rw [hq] at h; cases h; rfl
  · rw [List.getElem?_set_ne (Ne.symm e)] at h
    right
    refine ⟨e, ?_⟩
    split at h
    · exact ⟨h, fun q => by omega⟩
    · rename_i i2
      split at h
      · rename_i b2 hb2
        split at h
        · rename_i h2
          by_cases e2 : j = i2
          · subst e2
            rw [List.getElem?_set_self'] at h
            rw [hb2] at h
            cases h
            exact absurd rfl hb
          · rw [List.getElem?_set_ne (Ne.symm e2)] at h
            exact ⟨h, fun q => by omega⟩
        · rename_i h2
          refine ⟨h, fun q => ?_⟩
          have : j = i2 := by omega
          subst this
          rw [hb2] at h
          cases h
          exact h2
      · rename_i hb2
        refine ⟨h, fun q => ?_⟩
        have : j = i2 := by omega
        subst this
        rw [hb2] at h
        cases h
theorem ka_loc.st1 {ρ : Nat → Int} {α : Nat → Nat} {Γ : Nat → Option Nat} {n i : Nat} {L : List ka_V} {lv : List (Nat × Value)} {a : ka_V} {v : Value} (h : ka_loc ρ α Γ n L lv) (ha : a.2.1 < n) (hv : ka_v ρ α Γ a v) : ka_loc ρ α Γ n (ka_st1 L i a) ((i, v) :: lv.filter (fun q => !(q.1 == i) && !(q.1 + 1 == i && q.2.category == 2))) := by
  intro j b hj hb
  rcases ka_st1.at hj hb with ⟨e1, e2⟩ | ⟨e1, e2, e3⟩
  · subst e1; subst e2
    exact ⟨ha, v, List.mem_cons_self, hv⟩
  · obtain ⟨g1, w, g2, g3⟩ := h j b e2 hb
    refine ⟨g1, w, List.mem_cons_of_mem _ (List.mem_filter.mpr ⟨g2, ?_⟩), g3⟩
    by_cases q : j + 1 = i
    · have := ka_cat1 g3 (e3 q)
      simp [e1, this]
    · simp [e1, q]
theorem ka_loc.st2 {ρ : Nat → Int} {α : Nat → Nat} {Γ : Nat → Option Nat} {n i : Nat} {L : List ka_V} {lv : List (Nat × Value)} {a : ka_V} {v : Value} (h : ka_loc ρ α Γ n L lv) (ha : a.2.1 < n) (hv : ka_v ρ α Γ a v) : ka_loc ρ α Γ n ((ka_st1 L i a).set (i + 1) (0, 0, 0)) ((i, v) :: lv.filter (fun q => !(q.1 == i) && (!(q.1 == i + 1) && !(q.1 + 1 == i && q.2.category == 2)))) := by
  intro j b hj hb
  have hji : j ≠ i + 1 := by
    intro q
    subst q
    rw [List.getElem?_set_self'] at hj
    cases hq : (ka_st1 L i a)[i + 1]? with
    | none => rw [hq] at hj; cases hj
    | some z => rw [hq] at hj; cases hj; exact hb rfl
  rw [List.getElem?_set_ne (Ne.symm hji)] at hj
  rcases ka_st1.at hj hb with ⟨e1, e2⟩ | ⟨e1, e2, e3⟩
  · subst e1; subst e2
    exact ⟨ha, v, List.mem_cons_self, hv⟩
  · obtain ⟨g1, w, g2, g3⟩ := h j b e2 hb
    refine ⟨g1, w, List.mem_cons_of_mem _ (List.mem_filter.mpr ⟨g2, ?_⟩), g3⟩
    by_cases q : j + 1 = i
    · have := ka_cat1 g3 (e3 q)
      simp [e1, hji, this]
    · simp [e1, hji, q]
def ka_len : Instr → Nat
  | .iload _ => 2 | .lload _ => 2 | .aload _ => 2 | .istore _ => 2 | .lstore _ => 2 | .astore _ => 2
  | .bipush _ => 2 | .sipush _ => 3 | .iinc _ _ => 3
  | _ => 1
def ka_nz (E : ka_E) (b : ka_V) : Bool := decide (0 < ka_lo E b ∨ ka_hi E b < 0)
/-- two longs on the stack -/
def ka_isb64 (i : Instr) (E : ka_E) (b : ka_V) : Bool := match i with
  | .ladd => true | .lsub => true | .lmul => true | .land => true | .lor => true | .lxor => true
  | .ldiv => ka_nz E b | .lrem => ka_nz E b
  | _ => false
/-- an instruction that touches no cell -/
def ka_x1 (nL : Nat) (i : Instr) (E : ka_E) (L K : List ka_V) : Option (ka_E × List ka_V × List ka_V) := match i with
  | .iconst n => if -2147483648 ≤ n ∧ n ≤ 2147483647 then some (E, L, (1, 0, n) :: K) else none
  | .bipush n => if -128 ≤ n ∧ n ≤ 127 then some (E, L, (1, 0, n) :: K) else none
  | .sipush n => if -32768 ≤ n ∧ n ≤ 32767 then some (E, L, (1, 0, n) :: K) else none
  | .lconst n => some (E, L, (2, 0, ((n : Nat) : Int)) :: K)
  | .aconst_null => some (E, L, (3, 0, 0) :: K)
  | .iload j => (ka_load L 1 j).map fun a => (E, L, a :: K)
  | .iload_n j => (ka_load L 1 j).map fun a => (E, L, a :: K)
  | .lload j => (ka_load L 2 j).map fun a => (E, L, a :: K)
  | .lload_n j => (ka_load L 2 j).map fun a => (E, L, a :: K)
  | .aload j => (ka_load L 3 j).map fun a => (E, L, a :: K)
  | .aload_n j => (ka_load L 3 j).map fun a => (E, L, a :: K)
  | .istore j => match K with
    | (1, n, d) :: K' => if j < nL then some (E, ka_st1 L j (1, n, d), K') else none
    | _ => none
  | .istore_n j => match K with
    | (1, n, d) :: K' => if j < nL then some (E, ka_st1 L j (1, n, d), K') else none
    | _ => none
  | .astore j => match K with
    | (3, n, d) :: K' => if j < nL then some (E, ka_st1 L j (3, n, d), K') else none
    | _ => none
  | .astore_n j => match K with
    | (3, n, d) :: K' => if j < nL then some (E, ka_st1 L j (3, n, d), K') else none
    | _ => none
  | .lstore j => match K with
    | (2, n, d) :: K' => if j + 1 < nL then some (E, (ka_st1 L j (2, n, d)).set (j + 1) (0, 0, 0), K') else none
    | _ => none
  | .lstore_n j => match K with
    | (2, n, d) :: K' => if j + 1 < nL then some (E, (ka_st1 L j (2, n, d)).set (j + 1) (0, 0, 0), K') else none
    | _ => none
  | .iinc j n => if j < nL ∧ -2147483648 ≤ n ∧ n ≤ 2147483647 then (ka_load L 1 j).map fun a => ((ka_iadd E a (1, 0, n)).1, ka_st1 L j (ka_iadd E a (1, 0, n)).2, K) else none
  | .pop => match K with
    | a :: K' => if a.1 ≠ 2 then some (E, L, K') else none
    | _ => none
  | .dup => match K with
    | a :: K' => if a.1 ≠ 2 then some (E, L, a :: a :: K') else none
    | _ => none
  | .dup_x1 => match K with
    | a :: b :: K' => if a.1 ≠ 2 ∧ b.1 ≠ 2 then some (E, L, a :: b :: a :: K') else none
    | _ => none
  | .dup_x2 => match K with
    | a :: b :: d :: K' => if a.1 ≠ 2 ∧ b.1 ≠ 2 ∧ d.1 ≠ 2 then some (E, L, a :: b :: d :: a :: K') else none
    | _ => none
  | .dup2 => match K with
    | a :: b :: K' => if a.1 = 2 then some (E, L, a :: a :: b :: K') else if b.1 ≠ 2 then some (E, L, a :: b :: a :: b :: K') else none
    | _ => none
  | .ineg => match K with
    | (1, n, d) :: K' => some ((ka_isub E (1, 0, 0) (1, n, d)).1, L, (ka_isub E (1, 0, 0) (1, n, d)).2 :: K')
    | _ => none
  | .i2l => match K with
    | (1, n, d) :: K' => some (E, L, (2, n, d) :: K')
    | _ => none
  | .l2i => match K with
    | (2, n, d) :: K' => if -2147483648 ≤ ka_lo E (2, n, d) ∧ ka_hi E (2, n, d) ≤ 2147483647 then some (E, L, (1, n, d) :: K') else some ((ka_any E).1, L, (ka_any E).2 :: K')
    | _ => none
  | .i2b => match K with
    | (1, n, d) :: K' => some ((ka_mk E 1 (-128) 127).1, L, (ka_mk E 1 (-128) 127).2 :: K')
    | _ => none
  | .i2s => match K with
    | (1, n, d) :: K' => some ((ka_mk E 1 (-32768) 32767).1, L, (ka_mk E 1 (-32768) 32767).2 :: K')
    | _ => none
  | .lcmp => match K with
    | (2, _, _) :: (2, _, _) :: K' => some ((ka_any E).1, L, (ka_any E).2 :: K')
    | _ => none
  | .lneg => match K with
    | (2, _, _) :: K' => some ((ka_anyl E).1, L, (ka_anyl E).2 :: K')
    | _ => none
  | .lshl => match K with
    | (1, _, _) :: (2, _, _) :: K' => some ((ka_anyl E).1, L, (ka_anyl E).2 :: K')
    | _ => none
  | .lshr => match K with
    | (1, _, _) :: (2, _, _) :: K' => some ((ka_anyl E).1, L, (ka_anyl E).2 :: K')
    | _ => none
  | .lushr => match K with
    | (1, _, _) :: (2, _, _) :: K' => some ((ka_anyl E).1, L, (ka_anyl E).2 :: K')
    | _ => none
  | i => match K with
    | (1, n2, d2) :: (1, n1, d1) :: K' => (ka_b32 i E (1, n1, d1) (1, n2, d2)).map fun r => (r.1, L, r.2 :: K')
    | (2, n2, d2) :: (2, _, _) :: K' => if ka_isb64 i E (2, n2, d2) = true then some ((ka_anyl E).1, L, (ka_anyl E).2 :: K') else none
    | _ => none
end
section
section KE
variable {p : Program} {l : Launch} {e : Env} {R : Room} {s : State} {m : MethodId} {args : Array Value} {below : List Frame} {meth : Method} {c : Code} {Q : State → Prop}
variable {cc : ByteArray} {nL : Nat} {D : va_G} {cl : List vw_C} {A : Nat → Prop} {RT : List ka_R} {av : List Nat} {H0 : Heap}
variable {Γ0 : Nat → Option Nat} {nA : Nat} {ρ0 : Nat → Int} {α0 : Nat → Nat}
variable {E E' : ka_E} {L L' K K' : List ka_V} {pd : List (Nat × List Nat)} {cs ss pc : Nat} {ρ ρ' : Nat → Int} {α α' : Nat → Nat} {Γ : Nat → Option Nat} {P : Nat → Nat → Prop} {ws : va_W} {tys : List (ClassId × FieldType)} {H : Heap} {locs : List Loc} {ls ls' : Array Slot} {lv lv' : List (Nat × Value)} {st st' : List Value}
theorem ka_J.mv (k : ka_J p l e R s m args below meth c Q D cl A RT H0 av nL Γ0 nA ρ0 α0 pc (E', L', K', pd, cs, ss)) (hk : ka_ok D cl A RT s H0 av nL E L K pd ρ α Γ P ws tys H locs ls lv st) (hn : nA ≤ E.length) (hΓ : ∀ b r, Γ0 b = some r → Γ b = some r) (hρ : ∀ k, k < nA → ρ k = ρ0 k ∧ α k = α0 k)
    (g1 : ∀ k, k < E.length → ρ' k = ρ k) (g2 : ∀ k, k < E.length → α' k = α k) (g3 : ka_env ρ' E') (g4 : E.length ≤ E'.length) (hL : ka_loc ρ' α' Γ E'.length L' lv') (hl : lv_has ls' nL lv') (hK : ka_stk ρ' α' Γ E'.length K' st') : W p l e R s m args below meth c H locs cs ss Q (F0 m pc ls' st') := by
  obtain ⟨hE, h0, -, -, -, hq, hP, hW⟩ := hk
  exact k ρ' α' Γ P ws tys H locs ls' lv' st' ⟨g3, ⟨Nat.lt_of_lt_of_le h0.1 g4, by rw [g1 0 h0.1]; exact h0.2⟩, hL, hl, hK, hq.ext g1 g2 (fun _ _ h => h) g4, hP.ext hq g2, hW⟩ (Nat.le_trans hn g4) hΓ (fun k h => ⟨(g1 k (Nat.lt_of_lt_of_le h hn)).trans (hρ k h).1, (g2 k (Nat.lt_of_lt_of_le h hn)).trans (hρ k h).2⟩)
theorem ka_J.go (k : ka_J p l e R s m args below meth c Q D cl A RT H0 av nL Γ0 nA ρ0 α0 pc (E, L, K', pd, cs, ss)) (hk : ka_ok D cl A RT s H0 av nL E L K pd ρ α Γ P ws tys H locs ls lv st) (hn : nA ≤ E.length) (hΓ : ∀ b r, Γ0 b = some r → Γ b = some r) (hρ : ∀ k, k < nA → ρ k = ρ0 k ∧ α k = α0 k)
    (hK : ka_stk ρ α Γ E.length K' st') : W p l e R s m args below meth c H locs cs ss Q (F0 m pc ls st') :=
  ka_J.mv k hk hn hΓ hρ (fun _ _ => rfl) (fun _ _ => rfl) hk.1 (Nat.le_refl _) hk.2.2.1 hk.2.2.2.1 hK
theorem ka_cst32 {n : Int} (h1 : -2147483648 ≤ n) (h2 : n ≤ 2147483647) : (Int32.ofInt n).toInt = n := Int32.toInt_ofInt_of_le (by omega) (by omega)
theorem ka_stk.uncons {n : Nat} {a : ka_V} {K : List ka_V} {st : List Value} (h : ka_stk ρ α Γ n (a :: K) st) : ∃ (v : Value) (st' : List Value), st = v :: st' ∧ a.2.1 < n ∧ ka_v ρ α Γ a v ∧ ka_stk ρ α Γ n K st' := by
  cases st with
  | nil => exact absurd h id
  | cons v st' => exact ⟨v, st', rfl, h.1, h.2.1, h.2.2⟩
theorem ka_local {i : Nat} {a : ka_V} (hk : ka_ok D cl A RT s H0 av nL E L K pd ρ α Γ P ws tys H locs ls lv st) (h : L[i]? = some a) (ha : a.1 ≠ 0) : ∃ v : Value, (i, v) ∈ lv ∧ ls[i]? = some (.val v) ∧ a.2.1 < E.length ∧ ka_v ρ α Γ a v := by
  obtain ⟨g1, v, g2, g3⟩ := hk.2.2.1 i a h ha
  exact ⟨v, g2, hk.2.2.2.1.2.2 _ g2, g1, g3⟩
set_option maxHeartbeats 4000000 in
theorem ka_x1.ok {i : Instr} (h : ka_x1 nL i E L K = some (E', L', K')) (hx : p.tables.exec = Jvm.exec) (hb : c.code = cc) (hd : decode cc pc = .ok (i, ka_len i))
    (k : ka_J p l e R s m args below meth c Q D cl A RT H0 av nL Γ0 nA ρ0 α0 (pc + ka_len i) (E', L', K', pd, cs, ss)) : ka_J p l e R s m args below meth c Q D cl A RT H0 av nL Γ0 nA ρ0 α0 pc (E, L, K, pd, cs, ss) := by
  intro ρ α Γ P ws tys H locs ls lv st hk hn hΓ hρ
  have hE : ka_env ρ E := hk.1
  have h0 : 0 < E.length ∧ ρ 0 = 0 := hk.2.1
  have hst : ka_stk ρ α Γ E.length K st := hk.2.2.2.2.1
  unfold ka_x1 at h
  split at h
  · split at h
    · cases h
      exact lv_iconst hx hb hd rfl (ka_J.res k hk hn hΓ hρ hst (ka_r.old hE h0.1 ⟨_, rfl, by dsimp only; rw [ka_cst32 (by omega) (by omega)]; omega⟩))
    · cases h
  · split at h
    · cases h
      refine lv_bipush hx hb hd rfl (ka_J.res k hk hn hΓ hρ hst (ka_r.old hE h0.1 ⟨_, rfl, ?_⟩))
      dsimp only
      rw [Int8.toInt_toInt32, Int8.toInt_ofInt_of_le (by omega) (by omega)]
      omega
    · cases h
  · split at h
    · cases h
      refine lv_sipush hx hb hd rfl (ka_J.res k hk hn hΓ hρ hst (ka_r.old hE h0.1 ⟨_, rfl, ?_⟩))
      dsimp only
      rw [Int16.toInt_toInt32, Int16.toInt_ofInt_of_le (by omega) (by omega)]
      omega
    · cases h
  · rename_i n
    cases h
    refine lv_lconst hx hb hd rfl (ka_J.res k hk hn hΓ hρ hst (ka_r.old hE h0.1 ⟨_, rfl, ?_⟩))
    dsimp only
    have : ∀ n : Fin 2, (Int64.ofNat (n : Nat)).toInt = ((n : Nat) : Int) := by decide
    rw [this]
    omega
  · cases h
    exact lv_null hx hb hd (ka_J.res k hk hn hΓ hρ hst (ka_r.old hE h0.1 (Or.inl ⟨rfl, by dsimp only; omega⟩)))
  · rename_i j
    cases hq : ka_load L 1 j with
    | none => rw [hq] at h; cases h
    | some a =>
      rw [hq] at h; cases h
      obtain ⟨ha, ht⟩ := ka_load.of hq
      obtain ⟨v, -, hls, hlt, hv⟩ := ka_local hk ha (by rw [ht]; decide)
      obtain ⟨t, n, d⟩ := a
      cases ht
      obtain ⟨x, rfl, e⟩ := hv
      exact lv_iload hx hb hd hls (ka_J.res k hk hn hΓ hρ hst (ka_r.old hE hlt ⟨x, rfl, e⟩))
  · rename_i j
    cases hq : ka_load L 1 j with
    | none => rw [hq] at h; cases h
    | some a =>
      rw [hq] at h; cases h
      obtain ⟨ha, ht⟩ := ka_load.of hq
      obtain ⟨v, -, hls, hlt, hv⟩ := ka_local hk ha (by rw [ht]; decide)
      obtain ⟨t, n, d⟩ := a
      cases ht
      obtain ⟨x, rfl, e⟩ := hv
      exact lv_iload_n hx hb hd rfl hls (ka_J.res k hk hn hΓ hρ hst (ka_r.old hE hlt ⟨x, rfl, e⟩))
  · rename_i j
    cases hq : ka_load L 2 j with
    | none => rw [hq] at h; cases h
    | some a =>
      rw [hq] at h; cases h
      obtain ⟨ha, ht⟩ := ka_load.of hq
      obtain ⟨v, -, hls, hlt, hv⟩ := ka_local hk ha (by rw [ht]; decide)
      obtain ⟨t, n, d⟩ := a
      cases ht
      obtain ⟨x, rfl, e⟩ := hv
      exact lv_lload hx hb hd hls (ka_J.res k hk hn hΓ hρ hst (ka_r.old hE hlt ⟨x, rfl, e⟩))
  · rename_i j
    cases hq : ka_load L 2 j with
    | none => rw [hq] at h; cases h
    | some a =>
      rw [hq] at h; cases h
      obtain ⟨ha, ht⟩ := ka_load.of hq
      obtain ⟨v, -, hls, hlt, hv⟩ := ka_local hk ha (by rw [ht]; decide)
      obtain ⟨t, n, d⟩ := a
      cases ht
      obtain ⟨x, rfl, e⟩ := hv
      exact lv_lload_n hx hb hd rfl hls (ka_J.res k hk hn hΓ hρ hst (ka_r.old hE hlt ⟨x, rfl, e⟩))
  · rename_i j
    cases hq : ka_load L 3 j with
    | none => rw [hq] at h; cases h
    | some a =>
      rw [hq] at h; cases h
      obtain ⟨ha, ht⟩ := ka_load.of hq
      obtain ⟨v, -, hls, hlt, hv⟩ := ka_local hk ha (by rw [ht]; decide)
      obtain ⟨t, n, d⟩ := a
      cases ht
      rcases hv with ⟨rfl, e⟩ | ⟨r, rfl, e⟩
      · exact lv_aloadN hx hb hd hls (ka_J.res k hk hn hΓ hρ hst (ka_r.old hE hlt (Or.inl ⟨rfl, e⟩)))
      · exact lv_aload hx hb hd hls (ka_J.res k hk hn hΓ hρ hst (ka_r.old hE hlt (Or.inr ⟨r, rfl, e⟩)))
  · rename_i j
    cases hq : ka_load L 3 j with
    | none => rw [hq] at h; cases h
    | some a =>
      rw [hq] at h; cases h
      obtain ⟨ha, ht⟩ := ka_load.of hq
      obtain ⟨v, -, hls, hlt, hv⟩ := ka_local hk ha (by rw [ht]; decide)
      obtain ⟨t, n, d⟩ := a
      cases ht
      rcases hv with ⟨rfl, e⟩ | ⟨r, rfl, e⟩
      · exact lv_aload_nN hx hb hd rfl hls (ka_J.res k hk hn hΓ hρ hst (ka_r.old hE hlt (Or.inl ⟨rfl, e⟩)))
      · exact lv_aload_n hx hb hd rfl hls (ka_J.res k hk hn hΓ hρ hst (ka_r.old hE hlt (Or.inr ⟨r, rfl, e⟩)))
  · rename_i j
    split at h
    · rename_i n d K2
      split at h
      · rename_i hj
        cases h
        obtain ⟨v, st', rfl, hlt, ⟨x, rfl, ex⟩, hst'⟩ := ka_stk.uncons hst
        exact lv_istore hx hb hd hk.2.2.2.1 hj rfl (fun ls' hl' => ka_J.mv k hk hn hΓ hρ (fun _ _ => rfl) (fun _ _ => rfl) hE (Nat.le_refl _) (hk.2.2.1.st1 (a := (1, n, d)) hlt ⟨x, rfl, ex⟩) hl' hst')
      · cases h
    · cases h
  · rename_i j
    split at h
    · rename_i n d K2
      split at h
      · rename_i hj
        cases h
        obtain ⟨v, st', rfl, hlt, ⟨x, rfl, ex⟩, hst'⟩ := ka_stk.uncons hst
        exact lv_istore_n hx hb hd rfl hk.2.2.2.1 hj rfl (fun ls' hl' => ka_J.mv k hk hn hΓ hρ (fun _ _ => rfl) (fun _ _ => rfl) hE (Nat.le_refl _) (hk.2.2.1.st1 (a := (1, n, d)) hlt ⟨x, rfl, ex⟩) hl' hst')
      · cases h
    · cases h
  · rename_i j
    split at h
    · rename_i n d K2
      split at h
      · rename_i hj
        cases h
        obtain ⟨v, st', rfl, hlt, hv, hst'⟩ := ka_stk.uncons hst
        have hv2 := hv
        rcases hv with ⟨rfl, ex⟩ | ⟨r, rfl, ex⟩
        · exact lv_astoreN hx hb hd hk.2.2.2.1 hj rfl (fun ls' hl' => ka_J.mv k hk hn hΓ hρ (fun _ _ => rfl) (fun _ _ => rfl) hE (Nat.le_refl _) (hk.2.2.1.st1 (a := (3, n, d)) hlt hv2) hl' hst')
        · exact lv_astore hx hb hd hk.2.2.2.1 hj rfl (fun ls' hl' => ka_J.mv k hk hn hΓ hρ (fun _ _ => rfl) (fun _ _ => rfl) hE (Nat.le_refl _) (hk.2.2.1.st1 (a := (3, n, d)) hlt hv2) hl' hst')
      · cases h
    · cases h
  · rename_i j
    split at h
    · rename_i n d K2
      split at h
      · rename_i hj
        cases h
        obtain ⟨v, st', rfl, hlt, hv, hst'⟩ := ka_stk.uncons hst
        have hv2 := hv
        rcases hv with ⟨rfl, ex⟩ | ⟨r, rfl, ex⟩
        · exact lv_astore_nN hx hb hd rfl hk.2.2.2.1 hj rfl (fun ls' hl' => ka_J.mv k hk hn hΓ hρ (fun _ _ => rfl) (fun _ _ => rfl) hE (Nat.le_refl _) (hk.2.2.1.st1 (a := (3, n, d)) hlt hv2) hl' hst')
        · exact lv_astore_n hx hb hd rfl hk.2.2.2.1 hj rfl (fun ls' hl' => ka_J.mv k hk hn hΓ hρ (fun _ _ => rfl) (fun _ _ => rfl) hE (Nat.le_refl _) (hk.2.2.1.st1 (a := (3, n, d)) hlt hv2) hl' hst')
      · cases h
    · cases h
  · rename_i j
    split at h
    · rename_i n d K2
      split at h
      · rename_i hj
        cases h
        obtain ⟨v, st', rfl, hlt, ⟨x, rfl, ex⟩, hst'⟩ := ka_stk.uncons hst
        exact lv_lstore hx hb hd hk.2.2.2.1 hj rfl (fun ls' hl' => ka_J.mv k hk hn hΓ hρ (fun _ _ => rfl) (fun _ _ => rfl) hE (Nat.le_refl _) (hk.2.2.1.st2 (a := (2, n, d)) hlt ⟨x, rfl, ex⟩) hl' hst')
      · cases h
    · cases h
  · rename_i j
    split at h
    · rename_i n d K2
      split at h
      · rename_i hj
        cases h
        obtain ⟨v, st', rfl, hlt, ⟨x, rfl, ex⟩, hst'⟩ := ka_stk.uncons hst
        exact lv_lstore_n hx hb hd rfl hk.2.2.2.1 hj rfl (fun ls' hl' => ka_J.mv k hk hn hΓ hρ (fun _ _ => rfl) (fun _ _ => rfl) hE (Nat.le_refl _) (hk.2.2.1.st2 (a := (2, n, d)) hlt ⟨x, rfl, ex⟩) hl' hst')
      · cases h
    · cases h
  · rename_i j n
    split at h
    · rename_i hj
      cases hq : ka_load L 1 j with
      | none => rw [hq] at h; cases h
      | some a =>
        rw [hq] at h; cases h
        obtain ⟨ha, ht⟩ := ka_load.of hq
        obtain ⟨v, hm, hls, hlt, hv⟩ := ka_local hk ha (by rw [ht]; decide)
        obtain ⟨t, n1, d1⟩ := a
        cases ht
        obtain ⟨x, rfl, ex⟩ := hv
        obtain ⟨q, hq2⟩ := List.getElem?_of_mem hm
        obtain ⟨ρ', α', g1, g2, g3, g4, g5, g6⟩ := ka_iadd.ok (Γ := Γ) (α := α) (a := (1, n1, d1)) (b := (1, 0, n)) (x := x) (y := Int32.ofInt n) hE h0 hlt h0.1 ex (by dsimp only; rw [ka_cst32 (by omega) (by omega)]; omega)
        exact lv_iinc hx hb hd hk.2.2.2.1 hq2 rfl hj.1 rfl (fun ls' hl' => ka_J.mv k hk hn hΓ hρ g1 g2 g3 g4 ((hk.2.2.1.ext g1 g2 (fun _ _ h => h) g4).st1 g5 g6) hl' (ka_stk.ext g1 g2 (fun _ _ h => h) g4 hst))
    · cases h
  · split at h
    · split at h
      · rename_i ha
        cases h
        obtain ⟨v, st', rfl, hlt, hv, hst'⟩ := ka_stk.uncons hst
        exact lv_pop hx hb hd (ka_cat1 hv ha) (ka_J.go k hk hn hΓ hρ hst')
      · cases h
    · cases h
  · split at h
    · split at h
      · rename_i ha
        cases h
        obtain ⟨v, st', rfl, hlt, hv, hst'⟩ := ka_stk.uncons hst
        exact lv_dup hx hb hd (ka_cat1 hv ha) (ka_J.go k hk hn hΓ hρ ⟨hlt, hv, hlt, hv, hst'⟩)
      · cases h
    · cases h
  · split at h
    · split at h
      · rename_i ha
        cases h
        obtain ⟨v, st', rfl, hlt, hv, hst'⟩ := ka_stk.uncons hst
        obtain ⟨v2, st2, rfl, hlt2, hv2, hst2⟩ := ka_stk.uncons hst'
        exact lv_dup_x1 hx hb hd (ka_cat1 hv ha.1) (ka_cat1 hv2 ha.2) (ka_J.go k hk hn hΓ hρ ⟨hlt, hv, hlt2, hv2, hlt, hv, hst2⟩)
      · cases h
    · cases h
  · split at h
    · split at h
      · rename_i ha
        cases h
        obtain ⟨v, st', rfl, hlt, hv, hst'⟩ := ka_stk.uncons hst
        obtain ⟨v2, st2, rfl, hlt2, hv2, hst2⟩ := ka_stk.uncons hst'
        obtain ⟨v3, st3, rfl, hlt3, hv3, hst3⟩ := ka_stk.uncons hst2
        exact lv_dup_x2 hx hb hd (ka_cat1 hv ha.1) (ka_cat1 hv2 ha.2.1) (ka_cat1 hv3 ha.2.2) (ka_J.go k hk hn hΓ hρ ⟨hlt, hv, hlt2, hv2, hlt3, hv3, hlt, hv, hst3⟩)
      · cases h
    · cases h
  · split at h
    · rename_i a b K2
      obtain ⟨v, st', rfl, hlt, hv, hst'⟩ := ka_stk.uncons hst
      obtain ⟨v2, st2, rfl, hlt2, hv2, hst2⟩ := ka_stk.uncons hst'
      split at h
      · rename_i ha
        cases h
        obtain ⟨t, n, d⟩ := a
        cases ha
        exact lv_dup2_2 hx hb hd (ka_cat2 hv) (ka_J.go k hk hn hΓ hρ ⟨hlt, hv, hlt, hv, hlt2, hv2, hst2⟩)
      · rename_i ha
        split at h
        · rename_i hb2
          cases h
          exact lv_dup2_11 hx hb hd (ka_cat1 hv ha) (ka_cat1 hv2 hb2) (ka_J.go k hk hn hΓ hρ ⟨hlt, hv, hlt2, hv2, hlt, hv, hlt2, hv2, hst2⟩)
        · cases h
    · cases h
  · split at h
    · rename_i n d K2
      cases h
      obtain ⟨v, st', rfl, hlt, ⟨x, rfl, ex⟩, hst'⟩ := ka_stk.uncons hst
      have hr := ka_isub.ok (Γ := Γ) (α := α) (a := (1, 0, 0)) (b := (1, n, d)) (x := 0) (y := x) hE h0 h0.1 (by dsimp only; rw [h0.2]; rfl) ex
      rw [Int32.zero_sub] at hr
      exact lv_ineg hx hb hd (ka_J.res k hk hn hΓ hρ hst' hr)
    · cases h
  · split at h
    · rename_i n d K2
      cases h
      obtain ⟨v, st', rfl, hlt, ⟨x, rfl, ex⟩, hst'⟩ := ka_stk.uncons hst
      exact lv_i2l hx hb hd rfl (ka_J.go k hk hn hΓ hρ ⟨hlt, ⟨_, rfl, by rw [Int32.toInt_toInt64]; exact ex⟩, hst'⟩)
    · cases h
  · split at h
    · rename_i n d K2
      obtain ⟨v, st', rfl, hlt, ⟨x, rfl, ex⟩, hst'⟩ := ka_stk.uncons hst
      split at h
      · rename_i hr
        cases h
        have hb3 := hE.at (2, n, d)
        dsimp only at hb3 ex
        refine lv_l2i hx hb hd rfl (ka_J.go k hk hn hΓ hρ ⟨hlt, ⟨_, rfl, ?_⟩, hst'⟩)
        dsimp only
        rw [Int64.toInt_toInt32, ← ex]
        exact Int.bmod_eq_of_le (by omega) (by omega)
      · cases h
        exact lv_l2i hx hb hd rfl (ka_J.res k hk hn hΓ hρ hst' (ka_mk.i hE h0 (ka_i32 _).1 (ka_i32 _).2))
    · cases h
  · split at h
    · rename_i n d K2
      cases h
      obtain ⟨v, st', rfl, hlt, ⟨x, rfl, ex⟩, hst'⟩ := ka_stk.uncons hst
      refine lv_i2b hx hb hd rfl (ka_J.res k hk hn hΓ hρ hst' (ka_mk.i hE h0 ?_ ?_))
      · rw [Int8.toInt_toInt32]; have := x.toInt8.le_toInt; omega
      · rw [Int8.toInt_toInt32]; have := x.toInt8.toInt_lt; omega
    · cases h
  · split at h
    · rename_i n d K2
      cases h
      obtain ⟨v, st', rfl, hlt, ⟨x, rfl, ex⟩, hst'⟩ := ka_stk.uncons hst
      refine lv_i2s hx hb hd rfl (ka_J.res k hk hn hΓ hρ hst' (ka_mk.i hE h0 ?_ ?_))
      · rw [Int16.toInt_toInt32]; have := x.toInt16.le_toInt; omega
      · rw [Int16.toInt_toInt32]; have := x.toInt16.toInt_lt; omega
    · cases h
  · split at h
    · cases h
      obtain ⟨v, st', rfl, hlt, ⟨x, rfl, ex⟩, hst'⟩ := ka_stk.uncons hst
      obtain ⟨v2, st2, rfl, hlt2, ⟨x2, rfl, ex2⟩, hst2⟩ := ka_stk.uncons hst'
      exact W.lcmp hx hb hd (ka_J.res k hk hn hΓ hρ hst2 (ka_mk.i hE h0 (ka_i32 _).1 (ka_i32 _).2))
    · cases h
  · split at h
    · cases h
      obtain ⟨v, st', rfl, hlt, ⟨x, rfl, ex⟩, hst'⟩ := ka_stk.uncons hst
      exact lv_lneg hx hb hd (ka_J.res k hk hn hΓ hρ hst' (ka_mk.lg hE h0 (ka_i64 _).1 (ka_i64 _).2))
    · cases h
  · split at h
    · cases h
      obtain ⟨v, st', rfl, hlt, ⟨x, rfl, ex⟩, hst'⟩ := ka_stk.uncons hst
      obtain ⟨v2, st2, rfl, hlt2, ⟨x2, rfl, ex2⟩, hst2⟩ := ka_stk.uncons hst'
      exact lv_lshl hx hb hd rfl (ka_J.res k hk hn hΓ hρ hst2 (ka_mk.lg hE h0 (ka_i64 _).1 (ka_i64 _).2))
    · cases h
  · split at h
    · cases h
      obtain ⟨v, st', rfl, hlt, ⟨x, rfl, ex⟩, hst'⟩ := ka_stk.uncons hst
      obtain ⟨v2, st2, rfl, hlt2, ⟨x2, rfl, ex2⟩, hst2⟩ := ka_stk.uncons hst'
      exact lv_lshr hx hb hd rfl (ka_J.res k hk hn hΓ hρ hst2 (ka_mk.lg hE h0 (ka_i64 _).1 (ka_i64 _).2))
    · cases h
  · split at h
    · cases h
      obtain ⟨v, st', rfl, hlt, ⟨x, rfl, ex⟩, hst'⟩ := ka_stk.uncons hst
      obtain ⟨v2, st2, rfl, hlt2, ⟨x2, rfl, ex2⟩, hst2⟩ := ka_stk.uncons hst'
      exact lv_lushr hx hb hd rfl (ka_J.res k hk hn hΓ hρ hst2 (ka_mk.lg hE h0 (ka_i64 _).1 (ka_i64 _).2))
    · cases h
  · split at h
    · rename_i n2 d2 n1 d1 K2
      obtain ⟨v, st', rfl, hlt, ⟨x, rfl, ex⟩, hst'⟩ := ka_stk.uncons hst
      obtain ⟨v2, st2, rfl, hlt2, ⟨x2, rfl, ex2⟩, hst2⟩ := ka_stk.uncons hst'
      cases hq : ka_b32 i E (1, n1, d1) (1, n2, d2) with
      | none => rw [hq] at h; cases h
      | some r =>
        rw [hq] at h; cases h
        have hlen : ka_len i = 1 := by
          unfold ka_b32 at hq
          split at hq <;> first | rfl | cases hq
        rw [hlen] at hd k
        exact ka_b32.ok hq hx hb hd hE h0 hlt2 hlt ex2 ex (fun z hz => ka_J.res k hk hn hΓ hρ hst2 hz)
    · rename_i n2 d2 n1 d1 K2
      split at h
      · rename_i hq
        cases h
        obtain ⟨v, st', rfl, hlt, ⟨x, rfl, ex⟩, hst'⟩ := ka_stk.uncons hst
        obtain ⟨v2, st2, rfl, hlt2, ⟨x2, rfl, ex2⟩, hst2⟩ := ka_stk.uncons hst'
        have hR : ∀ z : Int64, W p l e R s m args below meth c H locs cs ss Q (F0 m (pc + ka_len i) ls (.long z :: st2)) := fun z => ka_J.res k hk hn hΓ hρ hst2 (ka_mk.lg hE h0 (ka_i64 _).1 (ka_i64 _).2)
        have hne : ka_nz E (2, n2, d2) = true → ¬ x = 0 := fun q e0 => by
          have q := of_decide_eq_true q
          have hb3 := hE.at (2, n2, d2)
          dsimp only at hb3 ex
          rw [e0] at ex
          have : (0 : Int64).toInt = 0 := rfl
          omega
        unfold ka_isb64 at hq
        split at hq
        · exact lv_ladd hx hb hd (hR _)
        · exact lv_lsub hx hb hd (hR _)
        · exact lv_lmul hx hb hd (hR _)
        · exact lv_land hx hb hd (hR _)
        · exact lv_lor hx hb hd (hR _)
        · exact lv_lxor hx hb hd (hR _)
        · exact lv_ldiv hx hb hd (hne hq) (hR _)
        · exact lv_lrem hx hb hd (hne hq) (hR _)
        · cases hq
      · cases h
    · cases h
end KE
end
section
/-- a symbol's bounds, narrowed -/
def ka_ref (E : ka_E) (a : ka_V) (lo hi : Int) : ka_E := E.set a.2.1 (if (E.getD a.2.1 (0, 0)).1 ≤ lo - a.2.2 then lo - a.2.2 else (E.getD a.2.1 (0, 0)).1, if hi - a.2.2 ≤ (E.getD a.2.1 (0, 0)).2 then hi - a.2.2 else (E.getD a.2.1 (0, 0)).2)
def ka_emp (E : ka_E) (a : ka_V) : Bool := decide ((E.getD a.2.1 (0, 0)).2 < (E.getD a.2.1 (0, 0)).1)
theorem ka_ref.len (E : ka_E) (a : ka_V) (lo hi : Int) : (ka_ref E a lo hi).length = E.length := by simp [ka_ref]
theorem ka_ref.ok {ρ : Nat → Int} {E : ka_E} {a : ka_V} {lo hi : Int} (h : ka_env ρ E) (h1 : lo ≤ ρ a.2.1 + a.2.2) (h2 : ρ a.2.1 + a.2.2 ≤ hi) : ka_env ρ (ka_ref E a lo hi) := by
  intro n
  have hn := h n
  unfold ka_ref
  by_cases e : n = a.2.1
  · subst e
    by_cases l : a.2.1 < E.length
    · rw [List.getD_eq_getElem?_getD, List.getElem?_set_self l]
      simp only [Option.getD_some]
      constructor
      · split <;> omega
      · split <;> omega
    · rw [List.set_eq_of_length_le (by omega)]
      exact hn
  · rw [List.getD_eq_getElem?_getD, List.getElem?_set_ne (Ne.symm e), ← List.getD_eq_getElem?_getD]
    exact hn
theorem ka_emp.no {ρ : Nat → Int} {E : ka_E} {a : ka_V} (h : ka_env ρ E) : ka_emp E a = false := by
  have := h a.2.1
  unfold ka_emp
  exact decide_eq_false (by omega)
def ka_rel (r : Nat) (u v : Int) : Prop := match r with
  | 0 => u = v | 1 => u ≠ v | 2 => u < v | 3 => v ≤ u | 4 => v < u | _ => u ≤ v
def ka_dead (r : Nat) (a b : ka_V) : Bool := decide (a.2.1 = b.2.1) && match r with
  | 0 => decide (a.2.2 ≠ b.2.2) | 1 => decide (a.2.2 = b.2.2) | 2 => decide (b.2.2 ≤ a.2.2) | 3 => decide (a.2.2 < b.2.2) | 4 => decide (a.2.2 ≤ b.2.2) | _ => decide (b.2.2 < a.2.2)
def ka_cn (r : Nat) (E : ka_E) (a b : ka_V) : ka_E := match r with
  | 0 => ka_ref (ka_ref E a (ka_lo E b) (ka_hi E b)) b (ka_lo E a) (ka_hi E a)
  | 1 => if ka_lo E b = ka_hi E b then (if ka_lo E a = ka_lo E b then ka_ref E a (ka_lo E a + 1) (ka_hi E a) else if ka_hi E a = ka_lo E b then ka_ref E a (ka_lo E a) (ka_hi E a - 1) else E)
    else if ka_lo E a = ka_hi E a then (if ka_lo E b = ka_lo E a then ka_ref E b (ka_lo E b + 1) (ka_hi E b) else if ka_hi E b = ka_lo E a then ka_ref E b (ka_lo E b) (ka_hi E b - 1) else E) else E
  | 2 => ka_ref (ka_ref E a (ka_lo E a) (ka_hi E b - 1)) b (ka_lo E a + 1) (ka_hi E b)
  | 3 => ka_ref (ka_ref E a (ka_lo E b) (ka_hi E a)) b (ka_lo E b) (ka_hi E a)
  | 4 => ka_ref (ka_ref E a (ka_lo E b + 1) (ka_hi E a)) b (ka_lo E b) (ka_hi E a - 1)
  | _ => ka_ref (ka_ref E a (ka_lo E a) (ka_hi E b)) b (ka_lo E a) (ka_hi E b)
theorem ka_cn.len (r : Nat) (E : ka_E) (a b : ka_V) : (ka_cn r E a b).length = E.length := by
  unfold ka_cn
  split
  · rw [ka_ref.len, ka_ref.len]
  · split
    · split
      · rw [ka_ref.len]
      · split
        · rw [ka_ref.len]
        · rfl
    · split
      · split
        · rw [ka_ref.len]
        · split
          · rw [ka_ref.len]
          · rfl
      · rfl
  all_goals rw [ka_ref.len, ka_ref.len]
theorem ka_cn.ok {r : Nat} {ρ : Nat → Int} {E : ka_E} {a b : ka_V} (h : ka_env ρ E) (hr : ka_rel r (ρ a.2.1 + a.2.2) (ρ b.2.1 + b.2.2)) : ka_env ρ (ka_cn r E a b) := by
  have h1 := h.at a
  have h2 := h.at b
  unfold ka_cn
  unfold ka_rel at hr
  split at hr
  · exact ka_ref.ok (ka_ref.ok h (by omega) (by omega)) (by omega) (by omega)
  · split
    · split
      · exact ka_ref.ok h (by omega) (by omega)
      · split
        · exact ka_ref.ok h (by omega) (by omega)
        · exact h
    · split
      · split
        · exact ka_ref.ok h (by omega) (by omega)
        · split
          · exact ka_ref.ok h (by omega) (by omega)
          · exact h
      · exact h
  · exact ka_ref.ok (ka_ref.ok h (by omega) (by omega)) (by omega) (by omega)
  · exact ka_ref.ok (ka_ref.ok h (by omega) (by omega)) (by omega) (by omega)
  · exact ka_ref.ok (ka_ref.ok h (by omega) (by omega)) (by omega) (by omega)
  · exact ka_ref.ok (ka_ref.ok h (by omega) (by omega)) (by omega) (by omega)
theorem ka_dead.no {r : Nat} {ρ : Nat → Int} {a b : ka_V} (hr : ka_rel r (ρ a.2.1 + a.2.2) (ρ b.2.1 + b.2.2)) : ka_dead r a b = false := by
  unfold ka_dead
  by_cases e : a.2.1 = b.2.1
  · rw [e] at hr
    unfold ka_rel at hr
    simp only [e, decide_true, Bool.true_and]
    split at hr
    · exact decide_eq_false (by omega)
    · exact decide_eq_false (by omega)
    · exact decide_eq_false (by omega)
    · exact decide_eq_false (by omega)
    · exact decide_eq_false (by omega)
    · exact decide_eq_false (by omega)
  · simp [e]
abbrev ka_N : Type := Nat × ka_E × List ka_V
/-- where a comparison leads, if it can -/
def ka_sc (r tgt : Nat) (E : ka_E) (a b : ka_V) (K : List ka_V) : List ka_N := if (ka_emp (ka_cn r E a b) a || ka_emp (ka_cn r E a b) b || ka_dead r a b) = true then [] else [(tgt, ka_cn r E a b, K)]
def ka_neg (r : Nat) : Nat := match r with
  | 0 => 1 | 1 => 0 | 2 => 3 | 3 => 2 | 4 => 5 | _ => 4
def ka_code (q : Jvm.ClassFile.Cond) : Nat := match q with
  | .eq => 0 | .ne => 1 | .lt => 2 | .ge => 3 | .gt => 4 | .le => 5
/-- a switch's cases from k on -/
def ka_tab (pc : Nat) (E : ka_E) (a : ka_V) (K : List ka_V) : Int → List Int → List ka_N
  | _, [] => []
  | k, o :: os => ka_sc 0 ((pc : Int) + o).toNat E a (1, 0, k) K ++ ka_tab pc E a K (k + 1) os
def ka_lks (pc : Nat) (E : ka_E) (a : ka_V) (K : List ka_V) : List (Int × Int) → List ka_N
  | [] => []
  | o :: os => ka_sc 0 ((pc : Int) + o.2).toNat E a (1, 0, o.1) K ++ ka_lks pc E a K os
def ka_up (pc : Nat) (o : Int) : Bool := decide (0 ≤ (pc : Int) + o)
/-- .. and none of them -/
def ka_lkn (E : ka_E) (a : ka_V) : List (Int × Int) → ka_E
  | [] => E
  | o :: os => ka_lkn (ka_cn 1 E a (1, 0, o.1)) a os
/-- an instruction that goes elsewhere -/
def ka_x2 (i : Instr) (pc : Nat) (E : ka_E) (K : List ka_V) : Option (List ka_N) := match i with
  | .goto o => if ka_up pc o = true then some [(((pc : Int) + o).toNat, E, K)] else none
  | .ifCond q o => match K with
    | (1, n, d) :: K' => if ka_up pc o = true then some (ka_sc (ka_code q) ((pc : Int) + o).toNat E (1, n, d) (1, 0, 0) K' ++ ka_sc (ka_neg (ka_code q)) (pc + 3) E (1, n, d) (1, 0, 0) K') else none
    | _ => none
  | .if_icmp q o => match K with
    | (1, n2, d2) :: (1, n1, d1) :: K' => if ka_up pc o = true then some (ka_sc (ka_code q) ((pc : Int) + o).toNat E (1, n1, d1) (1, n2, d2) K' ++ ka_sc (ka_neg (ka_code q)) (pc + 3) E (1, n1, d1) (1, n2, d2) K') else none
    | _ => none
  | .ifnull o => match K with
    | (3, n, d) :: K' => if ka_up pc o = true then some (ka_sc 0 ((pc : Int) + o).toNat E (3, n, d) (3, 0, 0) K' ++ ka_sc 4 (pc + 3) E (3, n, d) (3, 0, 0) K') else none
    | _ => none
  | .ifnonnull o => match K with
    | (3, n, d) :: K' => if ka_up pc o = true then some (ka_sc 4 ((pc : Int) + o).toNat E (3, n, d) (3, 0, 0) K' ++ ka_sc 0 (pc + 3) E (3, n, d) (3, 0, 0) K') else none
    | _ => none
  | .tableswitch o lo hi os => match K with
    | (1, n, d) :: K' => if (ka_up pc o && os.toList.all (ka_up pc) && decide ((os.size : Int) = hi - lo + 1)) = true then some (ka_tab pc E (1, n, d) K' lo os.toList ++ (ka_sc 2 ((pc : Int) + o).toNat E (1, n, d) (1, 0, lo) K' ++ ka_sc 4 ((pc : Int) + o).toNat E (1, n, d) (1, 0, hi) K')) else none
    | _ => none
  | .lookupswitch o ps => match K with
    | (1, n, d) :: K' => if (ka_up pc o && ps.toList.all (fun q => ka_up pc q.2) && (ps.toList.zip (ps.toList.drop 1)).all (fun (a, next) => a.1 < next.1)) = true then some (ka_lks pc E (1, n, d) K' ps.toList ++ (if ka_emp (ka_lkn E (1, n, d) ps.toList) (1, n, d) = true then [] else [(((pc : Int) + o).toNat, ka_lkn E (1, n, d) ps.toList, K')])) else none
    | _ => none
  | _ => none
end
section
section KF
variable {p : Program} {l : Launch} {e : Env} {R : Room} {s : State} {m : MethodId} {args : Array Value} {below : List Frame} {meth : Method} {c : Code} {Q : State → Prop}
variable {cc : ByteArray} {nL : Nat} {D : va_G} {cl : List vw_C} {A : Nat → Prop} {RT : List ka_R} {av : List Nat} {H0 : Heap}
variable {Γ0 : Nat → Option Nat} {nA : Nat} {ρ0 : Nat → Int} {α0 : Nat → Nat}
variable {E : ka_E} {L K K' : List ka_V} {pd : List (Nat × List Nat)} {cs ss pc : Nat} {ρ : Nat → Int} {α : Nat → Nat} {Γ : Nat → Option Nat} {P : Nat → Nat → Prop} {ws : va_W} {tys : List (ClassId × FieldType)} {H : Heap} {locs : List Loc} {ls : Array Slot} {lv : List (Nat × Value)} {st st' : List Value}
/-- bounds narrowed, all else as it is -/
theorem ka_J.nar {E' : ka_E} (k : ka_J p l e R s m args below meth c Q D cl A RT H0 av nL Γ0 nA ρ0 α0 pc (E', L, K', pd, cs, ss)) (hk : ka_ok D cl A RT s H0 av nL E L K pd ρ α Γ P ws tys H locs ls lv st) (hn : nA ≤ E.length) (hΓ : ∀ b r, Γ0 b = some r → Γ b = some r) (hρ : ∀ k, k < nA → ρ k = ρ0 k ∧ α k = α0 k)
    (hE' : ka_env ρ E') (hl : E'.length = E.length) (hK : ka_stk ρ α Γ E.length K' st') : W p l e R s m args below meth c H locs cs ss Q (F0 m pc ls st') := by
  refine ka_J.mv k hk hn hΓ hρ (fun _ _ => rfl) (fun _ _ => rfl) hE' (by omega) ?_ hk.2.2.2.1 ?_
  · rw [hl]; exact hk.2.2.1
  · rw [hl]; exact hK
theorem ka_J.sc {r tgt : Nat} {a b : ka_V} (k : ∀ q ∈ ka_sc r tgt E a b K', ka_J p l e R s m args below meth c Q D cl A RT H0 av nL Γ0 nA ρ0 α0 q.1 (q.2.1, L, q.2.2, pd, cs, ss)) (hk : ka_ok D cl A RT s H0 av nL E L K pd ρ α Γ P ws tys H locs ls lv st) (hn : nA ≤ E.length) (hΓ : ∀ b r, Γ0 b = some r → Γ b = some r) (hρ : ∀ k, k < nA → ρ k = ρ0 k ∧ α k = α0 k)
    (hr : ka_rel r (ρ a.2.1 + a.2.2) (ρ b.2.1 + b.2.2)) (hK : ka_stk ρ α Γ E.length K' st') : W p l e R s m args below meth c H locs cs ss Q (F0 m tgt ls st') := by
  have hE' := ka_cn.ok hk.1 hr
  have h1 : ka_sc r tgt E a b K' = [(tgt, ka_cn r E a b, K')] := by
    unfold ka_sc
    rw [ka_emp.no hE', ka_emp.no hE', ka_dead.no hr]
    rfl
  rw [h1] at k
  exact ka_J.nar (k _ List.mem_cons_self) hk hn hΓ hρ hE' (ka_cn.len _ _ _ _) hK
theorem ka_up.at {o : Int} (h : ka_up pc o = true) : (pc : Int) + o = (((pc : Int) + o).toNat : Int) := (Int.toNat_of_nonneg (of_decide_eq_true h)).symm
theorem ka_J.tab {a : ka_V} {x : Int} (hx0 : x = ρ a.2.1 + a.2.2) (hk : ka_ok D cl A RT s H0 av nL E L K pd ρ α Γ P ws tys H locs ls lv st) (hn : nA ≤ E.length) (hΓ : ∀ b r, Γ0 b = some r → Γ b = some r) (hρ : ∀ k, k < nA → ρ k = ρ0 k ∧ α k = α0 k) (hK : ka_stk ρ α Γ E.length K' st') : ∀ (os : List Int) (k : Int), (∀ q ∈ ka_tab pc E a K' k os, ka_J p l e R s m args below meth c Q D cl A RT H0 av nL Γ0 nA ρ0 α0 q.1 (q.2.1, L, q.2.2, pd, cs, ss)) → ∀ (j : Nat) (o : Int), os[j]? = some o → x = k + j → W p l e R s m args below meth c H locs cs ss Q (F0 m ((pc : Int) + o).toNat ls st')
  | [], _, _, j, o, ho, _ => by simp at ho
  | o1 :: os, k, hq, 0, o, ho, hj => by
    cases ho
    refine ka_J.sc (fun q h => hq q (List.mem_append.mpr (Or.inl h))) hk hn hΓ hρ ?_ hK
    have := hk.2.1.2
    show ρ a.2.1 + a.2.2 = ρ 0 + k
    omega
  | o1 :: os, k, hq, j + 1, o, ho, hj => ka_J.tab hx0 hk hn hΓ hρ hK os (k + 1) (fun q h => hq q (List.mem_append.mpr (Or.inr h))) j o (by simpa using ho) (by omega)
theorem ka_lkn.ok {a : ka_V} {x : Int} (hx0 : x = ρ a.2.1 + a.2.2) (h0 : ρ 0 = 0) : ∀ (os : List (Int × Int)) {E : ka_E}, ka_env ρ E → (∀ q ∈ os, q.1 ≠ x) → ka_env ρ (ka_lkn E a os) ∧ (ka_lkn E a os).length = E.length
  | [], _, h, _ => ⟨h, rfl⟩
  | o :: os, E, h, hq => by
    have h1 : ka_env ρ (ka_cn 1 E a (1, 0, o.1)) := ka_cn.ok h (by
      have := hq o List.mem_cons_self
      show ρ a.2.1 + a.2.2 ≠ ρ 0 + o.1
      omega)
    obtain ⟨g1, g2⟩ := ka_lkn.ok hx0 h0 os h1 (fun q h => hq q (List.mem_cons_of_mem _ h))
    exact ⟨g1, g2.trans (ka_cn.len _ _ _ _)⟩
theorem ka_J.lks {a : ka_V} {x : Int} {dflt : Int} (hx0 : x = ρ a.2.1 + a.2.2) (hk : ka_ok D cl A RT s H0 av nL E L K pd ρ α Γ P ws tys H locs ls lv st) (hn : nA ≤ E.length) (hΓ : ∀ b r, Γ0 b = some r → Γ b = some r) (hρ : ∀ k, k < nA → ρ k = ρ0 k ∧ α k = α0 k) (hK : ka_stk ρ α Γ E.length K' st') : ∀ (os : List (Int × Int)), (∀ q ∈ ka_lks pc E a K' os, ka_J p l e R s m args below meth c Q D cl A RT H0 av nL Γ0 nA ρ0 α0 q.1 (q.2.1, L, q.2.2, pd, cs, ss)) → (∃ q ∈ os, q.1 = x) → W p l e R s m args below meth c H locs cs ss Q (F0 m ((pc : Int) + Op.lookupswitch.offset os dflt x).toNat ls st')
  | [], _, h => by obtain ⟨q, h, -⟩ := h; cases h
  | o1 :: os, hq, h => by
    by_cases e1 : o1.1 = x
    · rw [show o1 = (o1.1, o1.2) from rfl, Op.lookupswitch.offset_cons, if_pos e1]
      refine ka_J.sc (fun q h => hq q (List.mem_append.mpr (Or.inl h))) hk hn hΓ hρ ?_ hK
      have := hk.2.1.2
      show ρ a.2.1 + a.2.2 = ρ 0 + o1.1
      omega
    · rw [show o1 = (o1.1, o1.2) from rfl, Op.lookupswitch.offset_cons, if_neg e1]
      refine ka_J.lks hx0 hk hn hΓ hρ hK os (fun q h => hq q (List.mem_append.mpr (Or.inr h))) ?_
      obtain ⟨q, h1, h2⟩ := h
      rcases List.mem_cons.mp h1 with h3 | h3
      · subst h3; exact absurd h2 e1
      · exact ⟨q, h3, h2⟩
theorem ka_lk_none {dflt x : Int} : ∀ (os : List (Int × Int)), (∀ q ∈ os, q.1 ≠ x) → Op.lookupswitch.offset os dflt x = dflt
  | [], _ => rfl
  | o1 :: os, h => by
    rw [show o1 = (o1.1, o1.2) from rfl, Op.lookupswitch.offset_cons, if_neg (h o1 List.mem_cons_self)]
    exact ka_lk_none os (fun q h1 => h q (List.mem_cons_of_mem _ h1))
theorem ka_lk_some {dflt x : Int} {pc : Nat} : ∀ (os : List (Int × Int)), os.all (fun q => ka_up pc q.2) = true → (∃ q ∈ os, q.1 = x) → ka_up pc (Op.lookupswitch.offset os dflt x) = true
  | [], _, h => by obtain ⟨q, h, -⟩ := h; cases h
  | o1 :: os, ha, h => by
    rw [List.all_cons, Bool.and_eq_true] at ha
    by_cases e1 : o1.1 = x
    · rw [show o1 = (o1.1, o1.2) from rfl, Op.lookupswitch.offset_cons, if_pos e1]
      exact ha.1
    · rw [show o1 = (o1.1, o1.2) from rfl, Op.lookupswitch.offset_cons, if_neg e1]
      refine ka_lk_some os ha.2 ?_
      obtain ⟨q, h1, h2⟩ := h
      rcases List.mem_cons.mp h1 with h3 | h3
      · subst h3; exact absurd h2 e1
      · exact ⟨q, h3, h2⟩
theorem ka_i0 : (0 : Int32).toInt = 0 := rfl
def ka_l2 (i : Instr) (len : Nat) : Bool := match i with
  | .tableswitch _ _ _ _ => true
  | .lookupswitch _ _ => true
  | _ => decide (len = 3)
theorem ka_relI {x y : Int32} {u v : Int} (ex : x.toInt = u) (ey : y.toInt = v) : (x = y ↔ u = v) ∧ (x < y ↔ u < v) ∧ (y ≤ x ↔ v ≤ u) ∧ (y < x ↔ v < u) ∧ (x ≤ y ↔ u ≤ v) := by
  subst ex; subst ey
  exact ⟨Int32.toInt_inj.symm, Int32.lt_iff_toInt_lt, Int32.le_iff_toInt_le, Int32.lt_iff_toInt_lt, Int32.le_iff_toInt_le⟩
/-- an int compared with another: two roads -/
theorem ka_icmp {q : Jvm.ClassFile.Cond} {o : Int} {tgt : Nat} {x y : Int32} {u v : Int} {rest : List Value} (ex : x.toInt = u) (ey : y.toInt = v) (hx : p.tables.exec = Jvm.exec) (hb : c.code = cc) (hd : decode cc pc = .ok (.if_icmp q o, 3)) (ht : (pc : Int) + o = (tgt : Int))
    (kt : ka_rel (ka_code q) u v → W p l e R s m args below meth c H locs cs ss Q (F0 m tgt ls rest)) (kf : ka_rel (ka_neg (ka_code q)) u v → W p l e R s m args below meth c H locs cs ss Q (F0 m (pc + 3) ls rest)) : W p l e R s m args below meth c H locs cs ss Q (F0 m pc ls (.int y :: .int x :: rest)) := by
  obtain ⟨g1, g2, g3, g4, g5⟩ := ka_relI ex ey
  cases q with
  | eq => exact lv_icmp_eq hx hb hd ht (fun h => kt (g1.mp h)) (fun h => kf (fun q => h (g1.mpr q)))
  | ne => exact lv_icmp_ne hx hb hd ht (fun h => kt (fun q => h (g1.mpr q))) (fun h => kf (g1.mp h))
  | lt => exact lv_icmp_lt hx hb hd ht (fun h => kt (g2.mp h)) (fun h => kf (by have : ¬ u < v := fun q => h (g2.mpr q); show v ≤ u; omega))
  | ge => exact lv_icmp_ge hx hb hd ht (fun h => kt (g3.mp h)) (fun h => kf (by have : ¬ v ≤ u := fun q => h (g3.mpr q); show u < v; omega))
  | gt => exact lv_icmp_gt hx hb hd ht (fun h => kt (g4.mp h)) (fun h => kf (by have : ¬ v < u := fun q => h (g4.mpr q); show u ≤ v; omega))
  | le => exact lv_icmp_le hx hb hd ht (fun h => kt (g5.mp h)) (fun h => kf (by have : ¬ u ≤ v := fun q => h (g5.mpr q); show v < u; omega))
theorem ka_if0 {q : Jvm.ClassFile.Cond} {o : Int} {tgt : Nat} {x : Int32} {u v : Int} {rest : List Value} (ex : x.toInt = u) (ey : v = 0) (hx : p.tables.exec = Jvm.exec) (hb : c.code = cc) (hd : decode cc pc = .ok (.ifCond q o, 3)) (ht : (pc : Int) + o = (tgt : Int))
    (kt : ka_rel (ka_code q) u v → W p l e R s m args below meth c H locs cs ss Q (F0 m tgt ls rest)) (kf : ka_rel (ka_neg (ka_code q)) u v → W p l e R s m args below meth c H locs cs ss Q (F0 m (pc + 3) ls rest)) : W p l e R s m args below meth c H locs cs ss Q (F0 m pc ls (.int x :: rest)) := by
  obtain ⟨g1, g2, g3, g4, g5⟩ := ka_relI (y := 0) ex (ka_i0.trans ey.symm)
  cases q with
  | eq => exact lv_if_eq hx hb hd ht (fun h => kt (g1.mp h)) (fun h => kf (fun q => h (g1.mpr q)))
  | ne => exact lv_if_ne hx hb hd ht (fun h => kt (fun q => h (g1.mpr q))) (fun h => kf (g1.mp h))
  | lt => exact lv_if_lt hx hb hd ht (fun h => kt (g2.mp h)) (fun h => kf (by have : ¬ u < v := fun q => h (g2.mpr q); show v ≤ u; omega))
  | ge => exact lv_if_ge hx hb hd ht (fun h => kt (g3.mp h)) (fun h => kf (by have : ¬ v ≤ u := fun q => h (g3.mpr q); show u < v; omega))
  | gt => exact lv_if_gt hx hb hd ht (fun h => kt (g4.mp h)) (fun h => kf (by have : ¬ v < u := fun q => h (g4.mpr q); show u ≤ v; omega))
  | le => exact lv_if_le hx hb hd ht (fun h => kt (g5.mp h)) (fun h => kf (by have : ¬ u ≤ v := fun q => h (g5.mpr q); show v < u; omega))
set_option maxHeartbeats 4000000 in
theorem ka_x2.ok {i : Instr} {len : Nat} {succ : List ka_N} (h : ka_x2 i pc E K = some succ) (hx : p.tables.exec = Jvm.exec) (hb : c.code = cc) (hd : decode cc pc = .ok (i, len)) (hlen : ka_l2 i len = true)
    (k : ∀ q ∈ succ, ka_J p l e R s m args below meth c Q D cl A RT H0 av nL Γ0 nA ρ0 α0 q.1 (q.2.1, L, q.2.2, pd, cs, ss)) : ka_J p l e R s m args below meth c Q D cl A RT H0 av nL Γ0 nA ρ0 α0 pc (E, L, K, pd, cs, ss) := by
  intro ρ α Γ P ws tys H locs ls lv st hk hn hΓ hρ
  have h0 : 0 < E.length ∧ ρ 0 = 0 := hk.2.1
  have hst : ka_stk ρ α Γ E.length K st := hk.2.2.2.2.1
  unfold ka_x2 at h
  split at h
  · cases of_decide_eq_true hlen
    split at h
    · rename_i ho
      cases h
      exact lv_goto hx hb hd (ka_up.at ho) (ka_J.go (k _ List.mem_cons_self) hk hn hΓ hρ hst)
    · cases h
  · cases of_decide_eq_true hlen
    split at h
    · rename_i n d K2
      split at h
      · rename_i ho
        cases h
        obtain ⟨v, st', rfl, hlt, ⟨x, rfl, ex⟩, hst'⟩ := ka_stk.uncons hst
        exact ka_if0 ex (show ρ 0 + 0 = 0 by omega) hx hb hd (ka_up.at ho) (fun hr => ka_J.sc (fun q h => k q (List.mem_append.mpr (Or.inl h))) hk hn hΓ hρ hr hst') (fun hr => ka_J.sc (fun q h => k q (List.mem_append.mpr (Or.inr h))) hk hn hΓ hρ hr hst')
      · cases h
    · cases h
  · cases of_decide_eq_true hlen
    split at h
    · rename_i n2 d2 n1 d1 K2
      split at h
      · rename_i ho
        cases h
        obtain ⟨v, st', rfl, hlt, ⟨x, rfl, ex⟩, hst'⟩ := ka_stk.uncons hst
        obtain ⟨v2, st2, rfl, hlt2, ⟨x2, rfl, ex2⟩, hst2⟩ := ka_stk.uncons hst'
        exact ka_icmp ex2 ex hx hb hd (ka_up.at ho) (fun hr => ka_J.sc (fun q h => k q (List.mem_append.mpr (Or.inl h))) hk hn hΓ hρ hr hst2) (fun hr => ka_J.sc (fun q h => k q (List.mem_append.mpr (Or.inr h))) hk hn hΓ hρ hr hst2)
      · cases h
    · cases h
  · cases of_decide_eq_true hlen
    split at h
    · rename_i n d K2
      split at h
      · rename_i ho
        cases h
        obtain ⟨v, st', rfl, hlt, hv, hst'⟩ := ka_stk.uncons hst
        rcases hv with ⟨rfl, ex⟩ | ⟨r, rfl, -, ex⟩
        · exact lv_ifnullN hx hb hd (ka_up.at ho) (ka_J.sc (fun q h => k q (List.mem_append.mpr (Or.inl h))) hk hn hΓ hρ (by show ρ n + d = ρ 0 + 0; dsimp only at ex; omega) hst')
        · exact lv_ifnull hx hb hd (ka_J.sc (fun q h => k q (List.mem_append.mpr (Or.inr h))) hk hn hΓ hρ (by show ρ 0 + 0 < ρ n + d; dsimp only at ex; omega) hst')
      · cases h
    · cases h
  · cases of_decide_eq_true hlen
    split at h
    · rename_i n d K2
      split at h
      · rename_i ho
        cases h
        obtain ⟨v, st', rfl, hlt, hv, hst'⟩ := ka_stk.uncons hst
        rcases hv with ⟨rfl, ex⟩ | ⟨r, rfl, -, ex⟩
        · exact lv_ifnonnullN hx hb hd (ka_J.sc (fun q h => k q (List.mem_append.mpr (Or.inr h))) hk hn hΓ hρ (by show ρ n + d = ρ 0 + 0; dsimp only at ex; omega) hst')
        · exact lv_ifnonnull hx hb hd (ka_up.at ho) (ka_J.sc (fun q h => k q (List.mem_append.mpr (Or.inl h))) hk hn hΓ hρ (by show ρ 0 + 0 < ρ n + d; dsimp only at ex; omega) hst')
      · cases h
    · cases h
  · rename_i o lo hi os
    split at h
    · rename_i n d K2
      split at h
      · rename_i ho
        rw [Bool.and_eq_true, Bool.and_eq_true] at ho
        have hsz := of_decide_eq_true ho.2
        have ho := ho.1
        cases h
        obtain ⟨v, st', rfl, hlt, ⟨x, rfl, ex⟩, hst'⟩ := ka_stk.uncons hst
        have kt : ∀ q ∈ ka_tab pc E (1, n, d) K2 lo os.toList, ka_J p l e R s m args below meth c Q D cl A RT H0 av nL Γ0 nA ρ0 α0 q.1 (q.2.1, L, q.2.2, pd, cs, ss) := fun q h => k q (List.mem_append.mpr (Or.inl h))
        by_cases c1 : x.toInt < lo
        · exact lv_tableOut hx hb hd (Or.inl c1) (ka_up.at ho.1) (ka_J.sc (fun q h => k q (List.mem_append.mpr (Or.inr (List.mem_append.mpr (Or.inl h))))) hk hn hΓ hρ (by show ρ n + d < ρ 0 + lo; dsimp only at ex; omega) hst')
        · by_cases c2 : hi < x.toInt
          · exact lv_tableOut hx hb hd (Or.inr c2) (ka_up.at ho.1) (ka_J.sc (fun q h => k q (List.mem_append.mpr (Or.inr (List.mem_append.mpr (Or.inr h))))) hk hn hΓ hρ (by show ρ 0 + hi < ρ n + d; dsimp only at ex; omega) hst')
          · cases hq : os[(x.toInt - lo).toNat]? with
            | none =>
              have := Array.getElem?_eq_none_iff.mp hq
              omega
            | some o2 =>
              have hq2 : os.toList[(x.toInt - lo).toNat]? = some o2 := by rw [Array.getElem?_toList]; exact hq
              exact lv_tableIn hx hb hd c1 c2 hq (ka_up.at (List.all_eq_true.mp ho.2 o2 (List.mem_of_getElem? hq2))) (ka_J.tab (a := (1, n, d)) (x := x.toInt) ex hk hn hΓ hρ hst' os.toList lo kt _ _ hq2 (by omega))
      · cases h
    · cases h
  · rename_i o ps
    split at h
    · rename_i n d K2
      split at h
      · rename_i ho
        rw [Bool.and_eq_true, Bool.and_eq_true] at ho
        cases h
        obtain ⟨v, st', rfl, hlt, ⟨x, rfl, ex⟩, hst'⟩ := ka_stk.uncons hst
        by_cases c1 : ∃ q ∈ ps.toList, q.1 = x.toInt
        · exact lv_lookup hx hb hd ho.2 rfl (ka_up.at (ka_lk_some ps.toList ho.1.2 c1)) (ka_J.lks (a := (1, n, d)) (x := x.toInt) ex hk hn hΓ hρ hst' ps.toList (fun q h => k q (List.mem_append.mpr (Or.inl h))) c1)
        · have c2 : ∀ q ∈ ps.toList, q.1 ≠ x.toInt := fun q h e => c1 ⟨q, h, e⟩
          obtain ⟨g1, g2⟩ := ka_lkn.ok (a := (1, n, d)) ex h0.2 ps.toList hk.1 c2
          rw [ka_emp.no g1] at k
          exact lv_lookup hx hb hd ho.2 (ka_lk_none ps.toList c2) (ka_up.at ho.1.1) (ka_J.nar (k _ (List.mem_append.mpr (Or.inr List.mem_cons_self))) hk hn hΓ hρ g1 g2 hst')
      · cases h
    · cases h
  · cases h
end KF
end
section
/-- may place j of a cell of kind r be read? -/
def ka_rd (E : ka_E) (pd : List (Nat × List Nat)) (av : List Nat) (r j : Nat) : Bool := !(av.contains r) && pd.all (fun q => !(q.2.contains j) || decide ((E.getD q.1 (0, 0)).2 < (r : Int) + 1) || decide ((r : Int) + 1 < (E.getD q.1 (0, 0)).1))
theorem ka_rd.ok {E : ka_E} {pd : List (Nat × List Nat)} {av : List Nat} {r j b : Nat} {ρ : Nat → Int} {α : Nat → Nat} {Γ : Nat → Option Nat} {P : Nat → Nat → Prop} (h : ka_rd E pd av r j = true) (hE : ka_env ρ E) (hq : ka_pd ρ α Γ E.length pd) (hP : ka_P α Γ av pd P) (hb : Γ b = some r) : ¬ P b j := by
  intro hp
  unfold ka_rd at h
  rw [Bool.and_eq_true] at h
  rcases hP b j hp with ⟨q, g1, g2, g3⟩ | ⟨r', g1, g2⟩
  · have h1 := List.all_eq_true.mp h.2 q g1
    obtain ⟨-, r', k1, k2⟩ := hq q g1
    rw [g2, hb] at k1
    cases k1
    have h2 := hE q.1
    have h3 : q.2.contains j = true := by simp [g3]
    rw [h3] at h1
    simp only [Bool.not_true, Bool.false_or, Bool.or_eq_true, decide_eq_true_eq] at h1
    omega
  · rw [hb] at g1
    cases g1
    have : av.contains r = true := by simp [g2]
    rw [this] at h
    simp at h
/-- the kind of a cell that a value names, if it is known -/
def ka_knd (RT : List ka_R) (E : ka_E) (a : ka_V) : Option (Nat × ka_R) := if ka_lo E a = ka_hi E a ∧ 1 ≤ ka_lo E a then (RT[(ka_lo E a - 1).toNat]?).map fun g => ((ka_lo E a - 1).toNat, g) else none
theorem ka_knd.ok {RT : List ka_R} {E : ka_E} {n r : Nat} {d : Int} {g : ka_R} {ρ : Nat → Int} {α : Nat → Nat} {Γ : Nat → Option Nat} {v : Value} (h : ka_knd RT E (3, n, d) = some (r, g)) (hE : ka_env ρ E) (hv : ka_v ρ α Γ (3, n, d) v) : v = .ref (α n) ∧ Γ (α n) = some r ∧ RT[r]? = some g ∧ ρ n + d = (r : Int) + 1 := by
  have h1 := hE.at (3, n, d)
  unfold ka_knd at h
  split at h
  · rename_i hc
    cases hq : RT[(ka_lo E (3, n, d) - 1).toNat]? with
    | none => rw [hq] at h; cases h
    | some g' =>
      rw [hq] at h
      cases h
      dsimp only at h1
      rcases hv with ⟨-, e⟩ | ⟨r', rfl, e2, e⟩
      · dsimp only at e; omega
      · dsimp only at e e2
        have : r' = (ka_lo E (3, n, d) - 1).toNat := by omega
        subst this
        exact ⟨rfl, e2, hq, e⟩
  · cases h
def ka_find (FL : List (Nat × Nat × Nat)) (i : Nat) : Option (Nat × Nat) := match FL with
  | [] => none
  | q :: FL => if q.1 = i then some q.2 else ka_find FL i
theorem ka_find.mem {i : Nat} {z : Nat × Nat} : ∀ {FL : List (Nat × Nat × Nat)}, ka_find FL i = some z → (i, z) ∈ FL
  | [], h => by cases h
  | q :: FL, h => by
    unfold ka_find at h
    split at h
    · rename_i e
      cases h
      subst e
      exact List.mem_cons_self
    · exact List.mem_cons_of_mem _ (ka_find.mem h)
/-- what the tables say of the classes -/
def ka_CL (cl : List vw_C) (TY : Nat → Nat → FieldType) (Ts : List Jvm.Cond) : Prop := ∀ (ci : Nat) (q : vw_C), cl[ci]? = some q → (∀ w ∈ u_ws q.1 q.2.1 q.2.2, w ∈ Ts) ∧ (∀ k, k < q.2.2 → parseFieldDescriptor (q.2.1 k).2.2.1 = some (TY ci k)) ∧ (∀ a, a < q.2.2 → ∀ b, b < q.2.2 → a ≠ b → (q.2.1 a).2.1 ≠ (q.2.1 b).2.1) ∧ ∀ k, k < q.2.2 → (q.2.1 k).1 = q.1
/-- .. and of a class's own links to fields -/
def ka_FL (cl : List vw_C) (own : String) (Ts : List Jvm.Cond) (FL : List (Nat × Nat × Nat)) : Prop := ∀ q ∈ FL, ∃ z : vw_C, cl[q.2.1]? = some z ∧ q.2.2 < z.2.2 ∧ Jvm.Cond.fieldLink own q.1 (z.2.1 q.2.2).1 (z.2.1 q.2.2).2.1 (z.2.1 q.2.2).2.2.1 ∈ Ts
/-- a field read -/
def ka_get (RT : List ka_R) (FL : List (Nat × Nat × Nat)) (av : List Nat) (ix : Nat) (E : ka_E) (K : List ka_V) (pd : List (Nat × List Nat)) : Option (ka_E × List ka_V) := match K with
  | (3, n, d) :: K' => match ka_knd RT E (3, n, d), ka_find FL ix with
    | some (r, (0, ci, _, fts, _, _)), some (ci', k) => match fts[k]? with
      | some f => if (decide (ci = ci') && ka_rd E pd av r k) = true then some (E ++ [(f.2.1, f.2.2)], (f.1, E.length, 0) :: K') else none
      | none => none
    | _, _ => none
  | _ => none
def ka_fit (ty : FieldType) (f : ka_F) : Bool := match ty with
  | .int => decide (f.1 = 1)
  | .boolean => decide (f.1 = 1 ∧ 0 ≤ f.2.1 ∧ f.2.2 ≤ 1)
  | .long => decide (f.1 = 2)
  | .object _ => decide (f.1 = 3)
  | .array _ => decide (f.1 = 3)
  | _ => false
section KG
variable {p : Program} {l : Launch} {e : Env} {R : Room} {s : State} {m : MethodId} {args : Array Value} {below : List Frame} {meth : Method} {c : Code} {Q : State → Prop}
variable {cc : ByteArray} {nL : Nat} {D : va_G} {cl : List vw_C} {A : Nat → Prop} {RT : List ka_R} {av : List Nat} {H0 : Heap}
variable {Γ0 : Nat → Option Nat} {nA : Nat} {ρ0 : Nat → Int} {α0 : Nat → Nat}
variable {E E' : ka_E} {L K K' : List ka_V} {pd : List (Nat × List Nat)} {cs ss pc : Nat} {TY : Nat → Nat → FieldType} {Ts : List Jvm.Cond} {own : String} {FL : List (Nat × Nat × Nat)}
set_option maxHeartbeats 4000000 in
theorem ka_get.ok {ix : Nat} (h : ka_get RT FL av ix E K pd = some (E', K')) (hx : p.tables.exec = Jvm.exec) (hb : c.code = cc) (hown : s.vm.findClass own = some m.cls) (hts : ∀ w ∈ Ts, w.before args s = true) (hCL : ka_CL cl TY Ts) (hFL : ka_FL cl own Ts FL) (hd : decode cc pc = .ok (.getfield ix, 3))
    (k : ka_J p l e R s m args below meth c Q D cl A RT H0 av nL Γ0 nA ρ0 α0 (pc + 3) (E', L, K', pd, cs, ss)) : ka_J p l e R s m args below meth c Q D cl A RT H0 av nL Γ0 nA ρ0 α0 pc (E, L, K, pd, cs, ss) := by
  intro ρ α Γ P ws tys H locs ls lv st hk hn hΓ hρ
  have hE : ka_env ρ E := hk.1
  have hst : ka_stk ρ α Γ E.length K st := hk.2.2.2.2.1
  have hq := hk.2.2.2.2.2.1
  have hP := hk.2.2.2.2.2.2.1
  obtain ⟨hK, hPw, hD, hS, hT⟩ := hk.2.2.2.2.2.2.2
  unfold ka_get at h
  split at h
  · rename_i n d K2
    split at h
    · rename_i r ci fty fts lo hi ci' k' e1 e2
      split at h
      · rename_i f hf
        split at h
        · rename_i hc
          rw [Bool.and_eq_true, decide_eq_true_eq] at hc
          cases h
          obtain ⟨rfl, hrd⟩ := hc
          obtain ⟨v, st', rfl, hlt, hv, hst'⟩ := ka_stk.uncons hst
          obtain ⟨rfl, hΓ1, hR1, -⟩ := ka_knd.ok e1 hE hv
          obtain ⟨k0, e0, w1, g, w2, w3⟩ := hT _ _ hΓ1
          rw [hR1] at w2
          cases w2
          obtain ⟨fs, rfl, w4, w5⟩ := w3
          obtain ⟨z, z1, z2, z3⟩ := hFL _ (ka_find.mem e2)
          have hkl : k' < fs.length := by rw [w4]; exact (List.getElem?_eq_some_iff.mp hf).1
          have hv1 : fs[k']? = some fs[k'] := List.getElem?_eq_getElem hkl
          rcases w5 k' f _ hf hv1 with h9 | h9
          · exact absurd h9 (ka_rd.ok hrd hE hq hP hΓ1)
          · obtain ⟨zz, bb, y1, y2, y3⟩ := h9.read
            exact va_get hx hb hts (hCL _ _ z1).1 hown hK hPw k0 w1 z1 k' z2 (hts _ z3) (fun _ h9 => h9) hv1 hd (ka_J.res k hk hn hΓ hρ hst' (ka_r.new bb hE y1 y2 y3))
        · cases h
      · cases h
    · cases h
  · cases h
end KG
theorem ka_fit.ok {Γ : Nat → Option Nat} {ty : FieldType} {f : ka_F} {v : Value} (h : ka_fit ty f = true) (hv : ka_t Γ f v) : narrow ty v = v ∧ fits ty v = true := by
  obtain ⟨t, lo, hi⟩ := f
  unfold ka_fit at h
  split at h
  · cases of_decide_eq_true h
    obtain ⟨x, rfl, -⟩ := hv
    exact ⟨rfl, rfl⟩
  · obtain ⟨rfl, h1, h2⟩ := of_decide_eq_true h
    obtain ⟨x, rfl, g1, g2⟩ := hv
    dsimp only at g1 g2 h1 h2
    have : x = 0 ∨ x = 1 := by
      rcases (show x.toInt = 0 ∨ x.toInt = 1 by omega) with q | q
      · exact Or.inl (Int32.toInt_inj.mp q)
      · exact Or.inr (Int32.toInt_inj.mp q)
    rcases this with rfl | rfl <;> exact ⟨rfl, rfl⟩
  · cases of_decide_eq_true h
    obtain ⟨x, rfl, -⟩ := hv
    exact ⟨rfl, rfl⟩
  · cases of_decide_eq_true h
    rcases hv with ⟨rfl, -⟩ | ⟨a, r, rfl, -⟩ <;> exact ⟨rfl, rfl⟩
  · cases of_decide_eq_true h
    rcases hv with ⟨rfl, -⟩ | ⟨a, r, rfl, -⟩ <;> exact ⟨rfl, rfl⟩
  · cases h
end
section
def ka_unp (pd : List (Nat × List Nat)) (n j : Nat) : List (Nat × List Nat) := pd.map (fun q => if q.1 = n then (q.1, q.2.filter (fun i => decide (i ≠ j))) else q)
theorem ka_unp.pd {ρ : Nat → Int} {α : Nat → Nat} {Γ : Nat → Option Nat} {N n j : Nat} {pd : List (Nat × List Nat)} (h : ka_pd ρ α Γ N pd) : ka_pd ρ α Γ N (ka_unp pd n j) := by
  intro q hq
  obtain ⟨q0, h1, rfl⟩ := List.mem_map.mp hq
  have := h q0 h1
  split
  · exact this
  · exact this
theorem ka_unp.P {α : Nat → Nat} {Γ : Nat → Option Nat} {av : List Nat} {pd : List (Nat × List Nat)} {P : Nat → Nat → Prop} {n j : Nat} (h : ka_P α Γ av pd P) : ka_P α Γ av (ka_unp pd n j) (fun a i => P a i ∧ ¬ (a = α n ∧ i = j)) := by
  intro a i ⟨hp, hne⟩
  rcases h a i hp with ⟨q, g1, g2, g3⟩ | g
  · left
    refine ⟨_, List.mem_map.mpr ⟨q, g1, rfl⟩, ?_, ?_⟩
    · split
      · exact g2
      · exact g2
    · split
      · rename_i e1
        refine List.mem_filter.mpr ⟨g3, decide_eq_true (fun e2 => hne ⟨?_, e2⟩)⟩
        rw [← g2, e1]
      · exact g3
  · exact Or.inr g
theorem ka_T.set {RT : List ka_R} {Γ : Nat → Option Nat} {P P' : Nat → Nat → Prop} {tys : List (ClassId × FieldType)} {ws : va_W} {k0 a : Nat} {e0 e' : va_E} (h0 : ws[k0]? = some (a, e0)) (hT : ∀ a r : Nat, Γ a = some r → ∃ (k : Nat) (e : va_E), ws[k]? = some (a, e) ∧ ka_e RT Γ P tys a r e) (hP : ∀ b j, b ≠ a → P b j → P' b j) (hne : ∀ r, Γ a = some r → ka_e RT Γ P' tys a r e') : ∀ a' r : Nat, Γ a' = some r → ∃ (k : Nat) (e : va_E), (ws.set k0 (a, e'))[k]? = some (a', e) ∧ ka_e RT Γ P' tys a' r e := by
  intro a' r hr
  have hl : k0 < ws.length := (List.getElem?_eq_some_iff.mp h0).1
  by_cases ea : a' = a
  · subst ea
    exact ⟨k0, e', by rw [List.getElem?_set_self hl], hne r hr⟩
  · obtain ⟨k, e, g1, g2⟩ := hT a' r hr
    refine ⟨k, e, ?_, g2.ext (fun _ _ h => h) (fun j h => hP a' j ea h) (fun _ _ h => h)⟩
    rw [List.getElem?_set_ne]
    · exact g1
    · intro q
      subst q
      rw [h0] at g1
      cases g1
      exact ea rfl
/-- a field written -/
def ka_put (RT : List ka_R) (cl : List vw_C) (TY : Nat → Nat → FieldType) (FL : List (Nat × Nat × Nat)) (ini : Bool) (oci ix : Nat) (E : ka_E) (K : List ka_V) (pd : List (Nat × List Nat)) : Option (List ka_V × List (Nat × List Nat)) := match K with
  | a :: (3, n, d) :: K' => match ka_knd RT E (3, n, d), ka_find FL ix with
    | some (r, (0, ci, _, fts, _, _)), some (ci', k) => match fts[k]?, cl[ci]? with
      | some f, some z => if (decide (ci = ci') && decide (f.1 = a.1) && decide (f.2.1 ≤ ka_lo E a) && decide (ka_hi E a ≤ f.2.2) && ka_fit (TY ci k) f && (!(z.2.1 k).2.2.2 || (ini && decide (ci = oci)))) = true then some (K', ka_unp pd n k) else none
      | _, _ => none
    | _, _ => none
  | _ => none
section KH
variable {p : Program} {l : Launch} {e : Env} {R : Room} {s : State} {m : MethodId} {args : Array Value} {below : List Frame} {meth : Method} {c : Code} {Q : State → Prop}
variable {cc : ByteArray} {nL : Nat} {D : va_G} {cl : List vw_C} {A : Nat → Prop} {RT : List ka_R} {av : List Nat} {H0 : Heap}
variable {Γ0 : Nat → Option Nat} {nA : Nat} {ρ0 : Nat → Int} {α0 : Nat → Nat}
variable {E E' : ka_E} {L K K' : List ka_V} {pd pd' : List (Nat × List Nat)} {cs ss pc : Nat} {TY : Nat → Nat → FieldType} {Ts : List Jvm.Cond} {own : String} {FL : List (Nat × Nat × Nat)} {ini : Bool} {oci : Nat}
set_option maxHeartbeats 4000000 in
theorem ka_put.ok {ix : Nat} (h : ka_put RT cl TY FL ini oci ix E K pd = some (K', pd')) (hx : p.tables.exec = Jvm.exec) (hb : c.code = cc) (hown : s.vm.findClass own = some m.cls) (hts : ∀ w ∈ Ts, w.before args s = true) (hCL : ka_CL cl TY Ts) (hFL : ka_FL cl own Ts FL) (hini : ini = true → meth.name = "<init>") (hoci : ∀ z : vw_C, cl[oci]? = some z → z.1 = own) (hd : decode cc pc = .ok (.putfield ix, 3))
    (k : ka_J p l e R s m args below meth c Q D cl A RT H0 av nL Γ0 nA ρ0 α0 (pc + 3) (E, L, K', pd', cs, ss)) : ka_J p l e R s m args below meth c Q D cl A RT H0 av nL Γ0 nA ρ0 α0 pc (E, L, K, pd, cs, ss) := by
  intro ρ α Γ P ws tys H locs ls lv st hk hn hΓ hρ
  obtain ⟨hE, h0, hL, hl, hst, hq, hP, hK, hPw, hD, hS, hT⟩ := hk
  dsimp only at hE h0 hL hl hst hq hP
  unfold ka_put at h
  split at h
  · rename_i a n d K2
    split at h
    · rename_i r ci fty fts lo hi ci' k' e1 e2
      split at h
      · rename_i f z hf hz
        split at h
        · rename_i hc
          simp only [Bool.and_eq_true, decide_eq_true_eq] at hc
          obtain ⟨⟨⟨⟨⟨rfl, c1⟩, c2⟩, c3⟩, c4⟩, c5⟩ := hc
          cases h
          obtain ⟨va, st1, rfl, hlta, hva, hst1⟩ := ka_stk.uncons hst
          obtain ⟨v, st', rfl, hlt, hv, hst'⟩ := ka_stk.uncons hst1
          obtain ⟨rfl, hΓ1, hR1, -⟩ := ka_knd.ok e1 hE hv
          obtain ⟨k0, e0, w1, g, w2, w3⟩ := hT _ _ hΓ1
          rw [hR1] at w2
          cases w2
          obtain ⟨fs, rfl, w4, w5⟩ := w3
          obtain ⟨z', z1, z2, z3⟩ := hFL _ (ka_find.mem e2)
          rw [hz] at z1
          cases z1
          have hkl : k' < fs.length := by rw [w4]; exact (List.getElem?_eq_some_iff.mp hf).1
          have hba := hE.at a
          have ht : ka_t Γ f va := hva.write c1 (by omega) (by omega)
          obtain ⟨y1, y2⟩ := ka_fit.ok c4 ht
          obtain ⟨q1, q2, q3, q4⟩ := hCL _ _ hz
          have kk : ∀ (H1 : Heap) (locs1 : List Loc), va_P D cl (ws.set k0 (α n, .inr (ci, fs.set k' va))) H1 → va_D A (ws.set k0 (α n, .inr (ci, fs.set k' va))) → va_S A H0 H1 locs1 → W p l e R s m args below meth c H1 locs1 cs ss Q (F0 m (pc + 3) ls st') := fun H1 locs1 u1 u2 u3 => by
            refine k ρ α Γ (fun a i => P a i ∧ ¬ (a = α n ∧ i = k')) _ tys H1 locs1 ls lv st' ⟨hE, h0, hL, hl, hst', ka_unp.pd hq, ka_unp.P hP, hK, u1, u2, u3, ka_T.set w1 hT (fun b j hbn hp => ⟨hp, fun q => hbn q.1⟩) (fun r1 hr1 => ?_)⟩ hn hΓ hρ
            rw [hΓ1] at hr1
            cases hr1
            refine ⟨_, hR1, fs.set k' va, rfl, by rw [List.length_set]; exact w4, fun j f1 v1 hf1 hv1 => ?_⟩
            by_cases ej : j = k'
            · subst ej
              rw [List.getElem?_set_self hkl] at hv1
              cases hv1
              dsimp only at hf1
              rw [hf] at hf1
              cases hf1
              exact Or.inr ht
            · rw [List.getElem?_set_ne (Ne.symm ej)] at hv1
              rcases w5 j f1 v1 hf1 hv1 with u | u
              · exact Or.inl ⟨u, fun q => ej q.2⟩
              · exact Or.inr u
          by_cases hfin : (z.2.1 k').2.2.2 = true
          · rw [hfin] at c5
            simp only [Bool.not_true, Bool.false_or, Bool.and_eq_true, decide_eq_true_eq] at c5
            obtain ⟨c6, rfl⟩ := c5
            exact va_putF hx hb hts q1 (TY ci) q2 q3 hown hK hPw hD hS k0 w1 hz k' z2 (hts _ z3) (fun _ h9 => h9) hfin (hini c6) ((q4 k' z2).trans (hoci z hz)) (q2 k' z2) y1 y2 hkl hd kk
          · have hfin : (z.2.1 k').2.2.2 = false := by simpa using hfin
            exact va_put hx hb hts q1 (TY ci) q2 q3 hown hK hPw hD hS k0 w1 hz k' z2 (hts _ z3) (fun _ h9 => h9) hfin (q2 k' z2) y1 y2 hkl hd kk
        · cases h
      · cases h
    · cases h
  · cases h
end KH
end
section
def ka_rda (E : ka_E) (pd : List (Nat × List Nat)) (av : List Nat) (r : Nat) : Bool := !(av.contains r) && pd.all (fun q => q.2.isEmpty || decide ((E.getD q.1 (0, 0)).2 < (r : Int) + 1) || decide ((r : Int) + 1 < (E.getD q.1 (0, 0)).1))
theorem ka_rda.ok {E : ka_E} {pd : List (Nat × List Nat)} {av : List Nat} {r b : Nat} {ρ : Nat → Int} {α : Nat → Nat} {Γ : Nat → Option Nat} {P : Nat → Nat → Prop} (h : ka_rda E pd av r = true) (hE : ka_env ρ E) (hq : ka_pd ρ α Γ E.length pd) (hP : ka_P α Γ av pd P) (hb : Γ b = some r) (j : Nat) : ¬ P b j := by
  intro hp
  unfold ka_rda at h
  rw [Bool.and_eq_true] at h
  rcases hP b j hp with ⟨q, g1, g2, g3⟩ | ⟨r', g1, g2⟩
  · have h1 := List.all_eq_true.mp h.2 q g1
    obtain ⟨-, r', k1, k2⟩ := hq q g1
    rw [g2, hb] at k1
    cases k1
    have h2 := hE q.1
    have h3 : q.2.isEmpty = false := by
      cases hz : q.2 with
      | nil => rw [hz] at g3; cases g3
      | cons _ _ => rfl
    rw [h3] at h1
    simp only [Bool.false_or, Bool.or_eq_true, decide_eq_true_eq] at h1
    omega
  · rw [hb] at g1
    cases g1
    have : av.contains r = true := by simp [g2]
    rw [this] at h
    simp at h
def ka_ix (E : ka_E) (i : ka_V) (n : Nat) : Bool := decide (0 ≤ ka_lo E i ∧ ka_hi E i < (n : Int))
theorem ka_ix.ok {E : ka_E} {i : ka_V} {n N : Nat} {ρ : Nat → Int} {x : Int32} (h : ka_ix E i n = true) (hE : ka_env ρ E) (ex : x.toInt = ρ i.2.1 + i.2.2) (hN : n ≤ N) : vp_in x N ∧ x.toNatClampNeg < N := by
  have h1 := hE.at i
  have h2 := of_decide_eq_true h
  have h3 : vp_in x N := vp_in_iff.mpr ⟨by omega, by omega⟩
  exact ⟨h3, Nat.not_le.mp fun q => h3 (Or.inr q)⟩
/-- a component read -/
def ka_alk (ins : Instr) (kd : Nat) (ty : FieldType) : Bool := match ins with
  | .iaload => decide (kd = 1 ∧ ty = .int)
  | .baload => decide (kd = 1 ∧ (ty = .byte ∨ ty = .boolean))
  | .saload => decide (kd = 1 ∧ ty = .short)
  | .laload => decide (kd = 2)
  | .aaload => decide (kd = 3 ∧ ty.isReference = true)
  | _ => false
def ka_ald (RT : List ka_R) (av : List Nat) (ins : Instr) (E : ka_E) (K : List ka_V) (pd : List (Nat × List Nat)) : Option (ka_E × List ka_V) := match K with
  | (1, ni, di) :: (3, n, d) :: K' => match ka_knd RT E (3, n, d) with
    | some (r, g) => match g.2.2.2.1[0]? with
      | some f => if (ka_alk ins g.1 g.2.2.1 && ka_ix E (1, ni, di) g.2.2.2.2.1 && (decide (g.1 ≠ 3) || ka_rda E pd av r) && decide (f.1 = g.1)) = true then some (E ++ [(f.2.1, f.2.2)], (f.1, E.length, 0) :: K') else none
      | none => none
    | none => none
  | _ => none
/-- a length -/
def ka_aln (RT : List ka_R) (E : ka_E) (K : List ka_V) : Option (ka_E × List ka_V) := match K with
  | (3, n, d) :: K' => match ka_knd RT E (3, n, d) with
    | some (_, g) => if g.1 ≠ 0 ∧ g.2.2.2.2.2 ≤ 2147483647 then some ((ka_mk E 1 g.2.2.2.2.1 g.2.2.2.2.2).1, (ka_mk E 1 g.2.2.2.2.1 g.2.2.2.2.2).2 :: K') else none
    | none => none
  | _ => none
section KI
variable {p : Program} {l : Launch} {e : Env} {R : Room} {s : State} {m : MethodId} {args : Array Value} {below : List Frame} {meth : Method} {c : Code} {Q : State → Prop}
variable {cc : ByteArray} {nL : Nat} {D : va_G} {cl : List vw_C} {A : Nat → Prop} {RT : List ka_R} {av : List Nat} {H0 : Heap}
variable {Γ0 : Nat → Option Nat} {nA : Nat} {ρ0 : Nat → Int} {α0 : Nat → Nat}
variable {E E' : ka_E} {L K K' : List ka_V} {pd pd' : List (Nat × List Nat)} {cs ss pc : Nat}
theorem ka_rdI {Γ : Nat → Option Nat} {lo hi : Int} {x : Int32} (h1 : lo ≤ x.toInt) (h2 : x.toInt ≤ hi) : ka_t Γ (1, lo, hi) (.int x) := ⟨x, rfl, h1, h2⟩
theorem ka_rdL {Γ : Nat → Option Nat} {lo hi : Int} {x : Int64} (h1 : lo ≤ x.toInt) (h2 : x.toInt ≤ hi) : ka_t Γ (2, lo, hi) (.long x) := ⟨x, rfl, h1, h2⟩
set_option maxHeartbeats 4000000 in
theorem ka_ald.ok {ins : Instr} (h : ka_ald RT av ins E K pd = some (E', K')) (hx : p.tables.exec = Jvm.exec) (hb : c.code = cc) (hd : decode cc pc = .ok (ins, 1))
    (k : ka_J p l e R s m args below meth c Q D cl A RT H0 av nL Γ0 nA ρ0 α0 (pc + 1) (E', L, K', pd, cs, ss)) : ka_J p l e R s m args below meth c Q D cl A RT H0 av nL Γ0 nA ρ0 α0 pc (E, L, K, pd, cs, ss) := by
  intro ρ α Γ P ws tys H locs ls lv st hk hn hΓ hρ
  have hE : ka_env ρ E := hk.1
  have hst : ka_stk ρ α Γ E.length K st := hk.2.2.2.2.1
  have hq := hk.2.2.2.2.2.1
  have hP := hk.2.2.2.2.2.2.1
  obtain ⟨hK, hPw, hD, hS, hT⟩ := hk.2.2.2.2.2.2.2
  unfold ka_ald at h
  split at h
  · rename_i ni di n d K2
    split at h
    · rename_i r g e1
      split at h
      · rename_i f hf
        split at h
        · rename_i hc
          simp only [Bool.and_eq_true] at hc
          obtain ⟨⟨⟨c1, c2⟩, c3⟩, c4⟩ := hc
          have c4 := of_decide_eq_true c4
          cases h
          obtain ⟨vi, st1, rfl, hlti, ⟨x, rfl, exi⟩, hst1⟩ := ka_stk.uncons hst
          obtain ⟨v, st', rfl, hlt, hv, hst'⟩ := ka_stk.uncons hst1
          obtain ⟨rfl, hΓ1, hR1, -⟩ := ka_knd.ok e1 hE hv
          obtain ⟨k0, e0, w1, g', w2, w3⟩ := hT _ _ hΓ1
          rw [hR1] at w2
          cases w2
          obtain ⟨g1, ci, fty, fts, lo, hi⟩ := g
          obtain ⟨ft, flo, fhi⟩ := f
          dsimp only at c1 c2 c3 c4 hf w3 ⊢
          subst c4
          have go : ∀ v1 : Value, ka_t Γ (ft, flo, fhi) v1 → W p l e R s m args below meth c H locs cs ss Q (F0 m (pc + 1) ls (v1 :: st')) := fun v1 h9 => by
            obtain ⟨zz, bb, y1, y2, y3⟩ := h9.read
            exact ka_J.res k hk hn hΓ hρ hst' (ka_r.new bb hE y1 y2 y3)
          unfold ka_alk at c1
          split at c1
          · obtain ⟨rfl, rfl⟩ := of_decide_eq_true c1
            obtain ⟨cA, N, t0, h2, rfl, w4, w5, w6, w7⟩ := w3
            obtain ⟨i1, i2⟩ := ka_ix.ok c2 hE exi w5
            have w8 := w7 _ hf _ i2
            exact va_iald hx hb hK hPw k0 t0 w1 w4 i1 hd (go _ (ka_rdI w8.1 w8.2))
          · obtain ⟨rfl, hty⟩ := of_decide_eq_true c1
            obtain ⟨cA, N, t0, h2, rfl, w4, w5, w6, w7⟩ := w3
            obtain ⟨i1, i2⟩ := ka_ix.ok c2 hE exi w5
            have w8 := w7 _ hf _ i2
            rcases hty with rfl | rfl
            · exact va_bald hx hb hK hPw k0 t0 w1 w4 i1 hd (go _ (ka_rdI w8.1 w8.2))
            · exact va_zald hx hb hK hPw k0 t0 w1 w4 i1 hd (go _ (ka_rdI w8.1 w8.2))
          · obtain ⟨rfl, rfl⟩ := of_decide_eq_true c1
            obtain ⟨cA, N, t0, h2, rfl, w4, w5, w6, w7⟩ := w3
            obtain ⟨i1, i2⟩ := ka_ix.ok c2 hE exi w5
            have w8 := w7 _ hf _ i2
            exact va_sald hx hb hK hPw k0 t0 w1 w4 i1 hd (go _ (ka_rdI w8.1 w8.2))
          · cases of_decide_eq_true c1
            obtain ⟨cA, N, t0, h2, rfl, w4, w5, w6, w7⟩ := w3
            obtain ⟨i1, i2⟩ := ka_ix.ok c2 hE exi w5
            have w8 := w7 _ hf _ i2
            exact va_lald hx hb hK hPw k0 t0 w1 w4 i1 hd (go _ (ka_rdL w8.1 w8.2))
          · obtain ⟨rfl, hty⟩ := of_decide_eq_true c1
            obtain ⟨cA, N, t0, h2, rfl, w4, w5, w6, w7⟩ := w3
            obtain ⟨i1, i2⟩ := ka_ix.ok c2 hE exi w5
            have hrd : ka_rda E pd av r = true := by
              simpa using c3
            rcases w7 _ hf _ i2 with w8 | w8
            · exact absurd w8 (ka_rda.ok hrd hE hq hP hΓ1 _)
            · exact W.aald (v := va_rf (h2 x.toNatClampNeg)) (ty := fty) hx hb (hPw k0 _ w1) ((hK.2 t0 _ w4).1 N (fun j => va_rf (h2 j))) hty (fun q => by cases q) (by show ¬ (x < 0 ∨ (arrV _ _ _).slots.size ≤ _); rw [arrV_size]; exact i1) (by show (arrV _ _ _).slots[_]? = _; rw [arrV_read _ _ i2]) rfl rfl hd (go _ w8)
          · cases c1
        · cases h
      · cases h
    · cases h
  · cases h
theorem ka_nat32 {n : Nat} (h : n ≤ 2147483647) : (Int32.ofNat n).toInt = (n : Int) := nI_toInt (n := n) (by omega)
set_option maxHeartbeats 4000000 in
theorem ka_aln.ok (h : ka_aln RT E K = some (E', K')) (hx : p.tables.exec = Jvm.exec) (hb : c.code = cc) (hd : decode cc pc = .ok (.arraylength, 1))
    (k : ka_J p l e R s m args below meth c Q D cl A RT H0 av nL Γ0 nA ρ0 α0 (pc + 1) (E', L, K', pd, cs, ss)) : ka_J p l e R s m args below meth c Q D cl A RT H0 av nL Γ0 nA ρ0 α0 pc (E, L, K, pd, cs, ss) := by
  intro ρ α Γ P ws tys H locs ls lv st hk hn hΓ hρ
  have hE : ka_env ρ E := hk.1
  have hst : ka_stk ρ α Γ E.length K st := hk.2.2.2.2.1
  obtain ⟨hK, hPw, hD, hS, hT⟩ := hk.2.2.2.2.2.2.2
  unfold ka_aln at h
  split at h
  · rename_i n d K2
    split at h
    · rename_i r g e1
      split at h
      · rename_i hc
        cases h
        obtain ⟨v, st', rfl, hlt, hv, hst'⟩ := ka_stk.uncons hst
        obtain ⟨rfl, hΓ1, hR1, -⟩ := ka_knd.ok e1 hE hv
        obtain ⟨k0, e0, w1, g', w2, w3⟩ := hT _ _ hΓ1
        rw [hR1] at w2
        cases w2
        have go : ∀ N : Nat, g.2.2.2.2.1 ≤ N → N ≤ g.2.2.2.2.2 → W p l e R s m args below meth c H locs cs ss Q (F0 m (pc + 1) ls (.int (Int32.ofNat N) :: st')) := fun N u1 u2 => ka_J.res k hk hn hΓ hρ hst' (ka_mk.i hE hk.2.1 (by rw [ka_nat32 (by omega)]; omega) (by rw [ka_nat32 (by omega)]; omega))
        split at w3
        · exact absurd (by assumption) hc.1
        · obtain ⟨cA, N, t0, h2, rfl, w4, w5, w6, w7⟩ := w3
          exact va_alen hx hb hK hPw k0 t0 w1 w4 rfl hd (go N w5 w6)
        · obtain ⟨cA, N, t0, h2, rfl, w4, w5, w6, w7⟩ := w3
          exact va_alen hx hb hK hPw k0 t0 w1 w4 rfl hd (go N w5 w6)
        · obtain ⟨cA, N, t0, h2, rfl, w4, w5, w6, w7⟩ := w3
          exact va_alen hx hb hK hPw k0 t0 w1 w4 rfl hd (go N w5 w6)
        · exact absurd w3 id
      · cases h
    · cases h
  · cases h
end KI
end
section
/-- what a component of the type keeps of a number within bounds -/
def ka_nb (ty : FieldType) (lo hi : Int) : Int × Int := match ty with
  | .byte => if -128 ≤ lo ∧ hi ≤ 127 then (lo, hi) else (-128, 127)
  | .short => if -32768 ≤ lo ∧ hi ≤ 32767 then (lo, hi) else (-32768, 32767)
  | .boolean => if lo = hi ∧ (lo = 0 ∨ lo = 1) then (lo, hi) else (0, 1)
  | _ => (lo, hi)
theorem ka_nb.int (lo hi : Int) : ka_nb .int lo hi = (lo, hi) := rfl
theorem ka_nb.long (lo hi : Int) : ka_nb .long lo hi = (lo, hi) := rfl
theorem ka_nb.byte {lo hi : Int} {x : Int32} (h1 : lo ≤ x.toInt) (h2 : x.toInt ≤ hi) : (ka_nb .byte lo hi).1 ≤ (vp_nar .byte x).toInt ∧ (vp_nar .byte x).toInt ≤ (ka_nb .byte lo hi).2 := by
  unfold ka_nb
  dsimp only
  rw [vp_nar_byte, Int8.toInt_toInt32]
  split
  · rw [Int32.toInt_toInt8, Int.bmod_eq_of_le (by omega) (by omega)]
    exact ⟨h1, h2⟩
  · have g1 := x.toInt8.le_toInt
    have g2 := x.toInt8.toInt_lt
    dsimp only
    omega
theorem ka_nb.short {lo hi : Int} {x : Int32} (h1 : lo ≤ x.toInt) (h2 : x.toInt ≤ hi) : (ka_nb .short lo hi).1 ≤ (vp_nar .short x).toInt ∧ (vp_nar .short x).toInt ≤ (ka_nb .short lo hi).2 := by
  unfold ka_nb
  dsimp only
  rw [vp_nar_short, Int16.toInt_toInt32]
  split
  · rw [Int32.toInt_toInt16, Int.bmod_eq_of_le (by omega) (by omega)]
    exact ⟨h1, h2⟩
  · have g1 := x.toInt16.le_toInt
    have g2 := x.toInt16.toInt_lt
    dsimp only
    omega
theorem ka_nb.boolean {lo hi : Int} {x : Int32} (h1 : lo ≤ x.toInt) (h2 : x.toInt ≤ hi) : (ka_nb .boolean lo hi).1 ≤ (vp_nar .boolean x).toInt ∧ (vp_nar .boolean x).toInt ≤ (ka_nb .boolean lo hi).2 := by
  unfold ka_nb
  dsimp only
  have e : vp_nar .boolean x = x &&& 1 := rfl
  rw [e]
  split
  · rename_i hc
    rcases hc.2 with q | q
    · have : x = 0 := Int32.toInt_inj.mp (by have : (0 : Int32).toInt = 0 := rfl; omega)
      subst this
      have : ((0 : Int32) &&& 1).toInt = 0 := rfl
      dsimp only
      omega
    · have : x = 1 := Int32.toInt_inj.mp (by have : (1 : Int32).toInt = 1 := rfl; omega)
      subst this
      have : ((1 : Int32) &&& 1).toInt = 1 := rfl
      dsimp only
      omega
  · have g := ka_and_le x 1 (by decide)
    have : (1 : Int32).toInt = 1 := rfl
    dsimp only
    omega
def ka_ask (ins : Instr) (kd : Nat) (ty : FieldType) : Bool := match ins with
  | .iastore => decide (kd = 1 ∧ ty = .int)
  | .bastore => decide (kd = 1 ∧ (ty = .byte ∨ ty = .boolean))
  | .sastore => decide (kd = 1 ∧ ty = .short)
  | .lastore => decide (kd = 2 ∧ ty = .long)
  | _ => false
/-- a number laid into an array -/
def ka_ast (RT : List ka_R) (ins : Instr) (E : ka_E) (K : List ka_V) : Option (List ka_V) := match K with
  | a :: (1, ni, di) :: (3, n, d) :: K' => match ka_knd RT E (3, n, d) with
    | some (_, g) => match g.2.2.2.1[0]? with
      | some f => if (ka_ask ins g.1 g.2.2.1 && ka_ix E (1, ni, di) g.2.2.2.2.1 && decide (a.1 = g.1) && decide (f.2.1 ≤ (ka_nb g.2.2.1 (ka_lo E a) (ka_hi E a)).1) && decide ((ka_nb g.2.2.1 (ka_lo E a) (ka_hi E a)).2 ≤ f.2.2)) = true then some K' else none
      | none => none
    | none => none
  | _ => none
/-- an object laid into an array -/
def ka_asq (RT : List ka_R) (cl : List vw_C) (E : ka_E) (K : List ka_V) (pd : List (Nat × List Nat)) : Option (List ka_V × List (Nat × List Nat)) := match K with
  | (3, na, da) :: (1, ni, di) :: (3, n, d) :: K' => match ka_knd RT E (3, n, d), ka_knd RT E (3, na, da) with
    | some (_, (3, _, fty, fts, lo, _)), some (_, (0, ci, _)) => match fts[0]?, cl[ci]? with
      | some f, some z => if (ka_ix E (1, ni, di) lo && decide (fty = .object z.1) && decide (f.1 = 3) && decide (f.2.1 ≤ ka_lo E (3, na, da)) && decide (ka_hi E (3, na, da) ≤ f.2.2)) = true then some (K', if ka_lo E (1, ni, di) = ka_hi E (1, ni, di) then ka_unp pd n (ka_lo E (1, ni, di)).toNat else pd) else none
      | _, _ => none
    | _, _ => none
  | _ => none
section KJ
variable {p : Program} {l : Launch} {e : Env} {R : Room} {s : State} {m : MethodId} {args : Array Value} {below : List Frame} {meth : Method} {c : Code} {Q : State → Prop}
variable {cc : ByteArray} {nL : Nat} {D : va_G} {cl : List vw_C} {A : Nat → Prop} {RT : List ka_R} {av : List Nat} {H0 : Heap}
variable {Γ0 : Nat → Option Nat} {nA : Nat} {ρ0 : Nat → Int} {α0 : Nat → Nat}
variable {E E' : ka_E} {L K K' : List ka_V} {pd pd' : List (Nat × List Nat)} {cs ss pc : Nat}
theorem ka_updB {h : Nat → Int32} {j i : Nat} {x : Int32} {lo hi : Int} (hj : lo ≤ (h j).toInt ∧ (h j).toInt ≤ hi) (hx : lo ≤ x.toInt ∧ x.toInt ≤ hi) : lo ≤ (upd h i x j).toInt ∧ (upd h i x j).toInt ≤ hi := by
  unfold upd
  split
  · exact hx
  · exact hj
set_option maxHeartbeats 4000000 in
theorem ka_ast.ok {ins : Instr} (h : ka_ast RT ins E K = some K') (hx : p.tables.exec = Jvm.exec) (hb : c.code = cc) (hd : decode cc pc = .ok (ins, 1))
    (k : ka_J p l e R s m args below meth c Q D cl A RT H0 av nL Γ0 nA ρ0 α0 (pc + 1) (E, L, K', pd, cs, ss)) : ka_J p l e R s m args below meth c Q D cl A RT H0 av nL Γ0 nA ρ0 α0 pc (E, L, K, pd, cs, ss) := by
  intro ρ α Γ P ws tys H locs ls lv st hk hn hΓ hρ
  obtain ⟨hE, h0, hL, hl, hst, hq, hP, hK, hPw, hD, hS, hT⟩ := hk
  dsimp only at hE h0 hL hl hst hq hP
  unfold ka_ast at h
  split at h
  · rename_i a ni di n d K2
    split at h
    · rename_i r g e1
      split at h
      · rename_i f hf
        split at h
        · rename_i hc
          simp only [Bool.and_eq_true] at hc
          obtain ⟨⟨⟨⟨c1, c2⟩, c3⟩, c4⟩, c5⟩ := hc
          have c3 := of_decide_eq_true c3
          have c4 := of_decide_eq_true c4
          have c5 := of_decide_eq_true c5
          cases h
          obtain ⟨va, st0, rfl, hlta, hva, hst0⟩ := ka_stk.uncons hst
          obtain ⟨vi, st1, rfl, hlti, ⟨x, rfl, exi⟩, hst1⟩ := ka_stk.uncons hst0
          obtain ⟨v, st', rfl, hlt, hv, hst'⟩ := ka_stk.uncons hst1
          obtain ⟨rfl, hΓ1, hR1, -⟩ := ka_knd.ok e1 hE hv
          obtain ⟨k0, e0, w1, g', w2, w3⟩ := hT _ _ hΓ1
          rw [hR1] at w2
          cases w2
          have hba := hE.at a
          obtain ⟨g1, ci, fty, fts, lo, hi⟩ := g
          obtain ⟨ft, flo, fhi⟩ := f
          obtain ⟨at1, an, ad⟩ := a
          dsimp only at c1 c2 c3 c4 c5 hf w3 hba
          subst c3
          have go : ∀ (e' : va_E) (H1 : Heap) (locs1 : List Loc), ka_e RT Γ P tys (α n) r e' → va_P D cl (ws.set k0 (α n, e')) H1 → va_D A (ws.set k0 (α n, e')) → va_S A H0 H1 locs1 → W p l e R s m args below meth c H1 locs1 cs ss Q (F0 m (pc + 1) ls st') := fun e' H1 locs1 u0 u1 u2 u3 =>
            k ρ α Γ P _ tys H1 locs1 ls lv st' ⟨hE, h0, hL, hl, hst', hq, hP, hK, u1, u2, u3, ka_T.set w1 hT (fun _ _ _ hp => hp) (fun r1 hr1 => by
              rw [hΓ1] at hr1
              cases hr1
              exact u0)⟩ hn hΓ hρ
          unfold ka_ask at c1
          split at c1
          · obtain ⟨rfl, rfl⟩ := of_decide_eq_true c1
            obtain ⟨cA, N, t0, h2, rfl, w4, w5, w6, w7⟩ := w3
            obtain ⟨y, rfl, ey⟩ := hva
            obtain ⟨i1, i2⟩ := ka_ix.ok c2 hE exi w5
            dsimp only at ey
            exact va_iast hx hb hK hPw hD hS k0 t0 w1 w4 i1 hd (fun H1 locs1 u1 u2 u3 => go _ H1 locs1 ⟨_, hR1, cA, N, t0, _, rfl, w4, w5, w6, fun f1 hf1 j hj => by
              dsimp only at hf1
              rw [hf] at hf1
              cases hf1
              exact ka_updB (w7 _ hf j hj) (by rw [ka_nb.int] at c4 c5; dsimp only at c4 c5 ⊢; omega)⟩ u1 u2 u3)
          · obtain ⟨rfl, hty⟩ := of_decide_eq_true c1
            obtain ⟨cA, N, t0, h2, rfl, w4, w5, w6, w7⟩ := w3
            obtain ⟨y, rfl, ey⟩ := hva
            obtain ⟨i1, i2⟩ := ka_ix.ok c2 hE exi w5
            dsimp only at ey
            rcases hty with rfl | rfl
            · have hnb := ka_nb.byte (lo := ka_lo E (1, an, ad)) (hi := ka_hi E (1, an, ad)) (x := y) (by omega) (by omega)
              exact va_bast hx hb hK hPw hD hS k0 t0 w1 w4 i1 hd (fun H1 locs1 u1 u2 u3 => go _ H1 locs1 ⟨_, hR1, cA, N, t0, _, rfl, w4, w5, w6, fun f1 hf1 j hj => by
                dsimp only at hf1
                rw [hf] at hf1
                cases hf1
                exact ka_updB (w7 _ hf j hj) (by dsimp only; omega)⟩ u1 u2 u3)
            · have hnb := ka_nb.boolean (lo := ka_lo E (1, an, ad)) (hi := ka_hi E (1, an, ad)) (x := y) (by omega) (by omega)
              exact va_zast hx hb hK hPw hD hS k0 t0 w1 w4 i1 hd (fun H1 locs1 u1 u2 u3 => go _ H1 locs1 ⟨_, hR1, cA, N, t0, _, rfl, w4, w5, w6, fun f1 hf1 j hj => by
                dsimp only at hf1
                rw [hf] at hf1
                cases hf1
                exact ka_updB (w7 _ hf j hj) (by dsimp only; omega)⟩ u1 u2 u3)
          · obtain ⟨rfl, rfl⟩ := of_decide_eq_true c1
            obtain ⟨cA, N, t0, h2, rfl, w4, w5, w6, w7⟩ := w3
            obtain ⟨y, rfl, ey⟩ := hva
            obtain ⟨i1, i2⟩ := ka_ix.ok c2 hE exi w5
            dsimp only at ey
            have hnb := ka_nb.short (lo := ka_lo E (1, an, ad)) (hi := ka_hi E (1, an, ad)) (x := y) (by omega) (by omega)
            exact va_sast hx hb hK hPw hD hS k0 t0 w1 w4 i1 hd (fun H1 locs1 u1 u2 u3 => go _ H1 locs1 ⟨_, hR1, cA, N, t0, _, rfl, w4, w5, w6, fun f1 hf1 j hj => by
              dsimp only at hf1
              rw [hf] at hf1
              cases hf1
              exact ka_updB (w7 _ hf j hj) (by dsimp only; omega)⟩ u1 u2 u3)
          · obtain ⟨rfl, rfl⟩ := of_decide_eq_true c1
            obtain ⟨cA, N, t0, h2, rfl, w4, w5, w6, w7⟩ := w3
            obtain ⟨y, rfl, ey⟩ := hva
            obtain ⟨i1, i2⟩ := ka_ix.ok c2 hE exi w5
            dsimp only at ey
            exact va_last hx hb hK hPw hD hS k0 t0 w1 w4 i1 hd (fun H1 locs1 u1 u2 u3 => go _ H1 locs1 ⟨_, hR1, cA, N, t0, _, rfl, w4, w5, w6, fun f1 hf1 j hj => by
              dsimp only at hf1
              rw [hf] at hf1
              cases hf1
              have w8 := w7 _ hf j hj
              unfold vp_updL
              split
              · rw [ka_nb.long] at c4 c5
                dsimp only at c4 c5 ⊢
                omega
              · exact w8⟩ u1 u2 u3)
          · cases c1
        · cases h
      · cases h
    · cases h
  · cases h
set_option maxHeartbeats 4000000 in
theorem ka_asq.ok (h : ka_asq RT cl E K pd = some (K', pd')) (hx : p.tables.exec = Jvm.exec) (hb : c.code = cc) (hd : decode cc pc = .ok (.aastore, 1))
    (k : ka_J p l e R s m args below meth c Q D cl A RT H0 av nL Γ0 nA ρ0 α0 (pc + 1) (E, L, K', pd', cs, ss)) : ka_J p l e R s m args below meth c Q D cl A RT H0 av nL Γ0 nA ρ0 α0 pc (E, L, K, pd, cs, ss) := by
  intro ρ α Γ P ws tys H locs ls lv st hk hn hΓ hρ
  obtain ⟨hE, h0, hL, hl, hst, hq, hP, hK, hPw, hD, hS, hT⟩ := hk
  dsimp only at hE h0 hL hl hst hq hP
  unfold ka_asq at h
  split at h
  · rename_i na da ni di n d K2
    split at h
    · rename_i r c0 fty fts lo hi r2 ci rst e1 e2
      split at h
      · rename_i f z hf hz
        split at h
        · rename_i hc
          simp only [Bool.and_eq_true, decide_eq_true_eq] at hc
          obtain ⟨⟨⟨⟨c1, rfl⟩, c3⟩, c4⟩, c5⟩ := hc
          cases h
          obtain ⟨va, st0, rfl, hlta, hva, hst0⟩ := ka_stk.uncons hst
          obtain ⟨vi, st1, rfl, hlti, ⟨x, rfl, exi⟩, hst1⟩ := ka_stk.uncons hst0
          obtain ⟨v, st', rfl, hlt, hv, hst'⟩ := ka_stk.uncons hst1
          have hba := hE.at (3, na, da)
          have hbi := hE.at (1, ni, di)
          have ht : ka_t Γ f va := hva.write c3 (by dsimp only at hba ⊢; omega) (by dsimp only at hba ⊢; omega)
          obtain ⟨rfl, hΓ1, hR1, -⟩ := ka_knd.ok e1 hE hv
          obtain ⟨rfl, hΓ2, hR2, -⟩ := ka_knd.ok e2 hE hva
          obtain ⟨k0, e0, w1, g', w2, w3⟩ := hT _ _ hΓ1
          rw [hR1] at w2
          cases w2
          obtain ⟨cA, N, t0, h2, rfl, w4, w5, w6, w7⟩ := w3
          obtain ⟨k2, e2', v1, g2, v2, v3⟩ := hT _ _ hΓ2
          rw [hR2] at v2
          cases v2
          obtain ⟨fs2, rfl, -⟩ := v3
          obtain ⟨i1, i2⟩ := ka_ix.ok c1 hE exi w5
          refine va_astq hx hb hK hPw hD hS k0 t0 k2 ci w1 w4 v1 hz i1 hd (fun H1 locs1 u1 u2 u3 => ?_)
          by_cases hcst : ka_lo E (1, ni, di) = ka_hi E (1, ni, di)
          · rw [if_pos hcst] at k
            refine k ρ α Γ (fun a i => P a i ∧ ¬ (a = α n ∧ i = (ka_lo E (1, ni, di)).toNat)) _ tys H1 locs1 ls lv st' ⟨hE, h0, hL, hl, hst', ka_unp.pd hq, ka_unp.P hP, hK, u1, u2, u3, ka_T.set w1 hT (fun b j hbn hp => ⟨hp, fun q => hbn q.1⟩) (fun r1 hr1 => ?_)⟩ hn hΓ hρ
            rw [hΓ1] at hr1
            cases hr1
            refine ⟨_, hR1, cA, N, t0, _, rfl, w4, w5, w6, fun f1 hf1 j hj => ?_⟩
            dsimp only at hf1
            rw [hf] at hf1
            cases hf1
            have hxi : x.toNatClampNeg = (ka_lo E (1, ni, di)).toNat := by
              have h9 : (x.toNatClampNeg : Int) = x.toInt := Int32.cast_toNatClampNeg x (by
                rw [Int32.le_iff_toInt_le]
                have := (vp_in_iff.mp i1).1
                exact this)
              dsimp only at hbi exi
              omega
            by_cases ej : j = x.toNatClampNeg
            · subst ej
              rw [va_up_self]
              exact Or.inr ht
            · rw [va_up_ne _ _ ej]
              rcases w7 _ hf j hj with u | u
              · exact Or.inl ⟨u, fun q => ej (q.2.trans hxi.symm)⟩
              · exact Or.inr u
          · rw [if_neg hcst] at k
            refine k ρ α Γ P _ tys H1 locs1 ls lv st' ⟨hE, h0, hL, hl, hst', hq, hP, hK, u1, u2, u3, ka_T.set w1 hT (fun b j hbn hp => hp) (fun r1 hr1 => ?_)⟩ hn hΓ hρ
            rw [hΓ1] at hr1
            cases hr1
            refine ⟨_, hR1, cA, N, t0, _, rfl, w4, w5, w6, fun f1 hf1 j hj => ?_⟩
            dsimp only at hf1
            rw [hf] at hf1
            cases hf1
            by_cases ej : j = x.toNatClampNeg
            · subst ej
              rw [va_up_self]
              exact Or.inr ht
            · rw [va_up_ne _ _ ej]
              exact w7 _ hf j hj
        · cases h
      · cases h
    · cases h
  · cases h
end KJ
end
section
/-- a field's default value -/
def ka_dft (ty : FieldType) (f : ka_F) : Bool := (match ty with
  | .int => decide (f.1 = 1) | .boolean => decide (f.1 = 1) | .byte => decide (f.1 = 1) | .short => decide (f.1 = 1) | .char => decide (f.1 = 1)
  | .long => decide (f.1 = 2)
  | .object _ => decide (f.1 = 3) | .array _ => decide (f.1 = 3)
  | _ => false) && decide (f.2.1 ≤ 0 ∧ 0 ≤ f.2.2)
theorem ka_dft.ok {Γ : Nat → Option Nat} {ty : FieldType} {f : ka_F} (h : ka_dft ty f = true) : ka_t Γ f (defaultValue ty) := by
  obtain ⟨t, lo, hi⟩ := f
  unfold ka_dft at h
  rw [Bool.and_eq_true] at h
  obtain ⟨h1, h2⟩ := h
  have h2 := of_decide_eq_true h2
  split at h1
  · cases of_decide_eq_true h1; exact ⟨0, rfl, h2.1, h2.2⟩
  · cases of_decide_eq_true h1; exact ⟨0, rfl, h2.1, h2.2⟩
  · cases of_decide_eq_true h1; exact ⟨0, rfl, h2.1, h2.2⟩
  · cases of_decide_eq_true h1; exact ⟨0, rfl, h2.1, h2.2⟩
  · cases of_decide_eq_true h1; exact ⟨0, rfl, h2.1, h2.2⟩
  · cases of_decide_eq_true h1; exact ⟨0, rfl, h2.1, h2.2⟩
  · cases of_decide_eq_true h1; exact Or.inl ⟨rfl, h2.1, h2.2⟩
  · cases of_decide_eq_true h1; exact Or.inl ⟨rfl, h2.1, h2.2⟩
  · cases h1
/-- the world with a new cell -/
theorem ka_T.push {RT : List ka_R} {Γ : Nat → Option Nat} {P P' : Nat → Nat → Prop} {tys tys' : List (ClassId × FieldType)} {ws : va_W} {q r : Nat} {e' : va_E} (hT : ∀ a r : Nat, Γ a = some r → ∃ (k : Nat) (e : va_E), ws[k]? = some (a, e) ∧ ka_e RT Γ P tys a r e) (hq : Γ q = none) (hP : ∀ b j, P b j → P' b j) (ht : ∀ (k : Nat) (z : ClassId × FieldType), tys[k]? = some z → tys'[k]? = some z) (hne : ka_e RT (va_up Γ q (some r)) P' tys' q r e') : ∀ a' r' : Nat, va_up Γ q (some r) a' = some r' → ∃ (k : Nat) (e : va_E), (ws ++ [(q, e')])[k]? = some (a', e) ∧ ka_e RT (va_up Γ q (some r)) P' tys' a' r' e := by
  intro a' r' hr
  by_cases ea : a' = q
  · subst ea
    rw [va_up_self] at hr
    cases hr
    exact ⟨ws.length, e', by simp, hne⟩
  · rw [va_up_ne _ _ ea] at hr
    obtain ⟨k, e, g1, g2⟩ := hT a' r' hr
    refine ⟨k, e, ?_, g2.ext (fun b r2 h => ?_) (fun j h => hP a' j h) ht⟩
    · rw [List.getElem?_append_left (List.getElem?_eq_some_iff.mp g1).1]
      exact g1
    · rw [va_up_ne]
      · exact h
      · intro hbq
        rw [hbq, hq] at h
        cases h
/-- a new cell's address is new -/
theorem ka_new_addr {RT : List ka_R} {Γ : Nat → Option Nat} {P : Nat → Nat → Prop} {tys : List (ClassId × FieldType)} {A : Nat → Prop} {ws : va_W} {q : Nat} {e' : va_E} (hT : ∀ a r : Nat, Γ a = some r → ∃ (k : Nat) (e : va_E), ws[k]? = some (a, e) ∧ ka_e RT Γ P tys a r e) (hD : va_D A (ws ++ [(q, e')])) : Γ q = none := by
  cases hq : Γ q with
  | none => rfl
  | some r =>
    obtain ⟨k, e, g1, -⟩ := hT q r hq
    have hl : k < ws.length := (List.getElem?_eq_some_iff.mp g1).1
    have h1 : (ws ++ [(q, e')])[k]? = some (q, e) := by rw [List.getElem?_append_left hl]; exact g1
    have h2 : (ws ++ [(q, e')])[ws.length]? = some (q, e') := by simp
    have := hD.1 k ws.length _ _ h1 h2 rfl
    omega
/-- where the default isn't what is asked for -/
def ka_due (TY : Nat → FieldType) : Nat → List ka_F → List Nat
  | _, [] => []
  | k, f :: fs => if ka_dft (TY k) f = true then ka_due TY (k + 1) fs else k :: ka_due TY (k + 1) fs
theorem ka_due.ok {TY : Nat → FieldType} : ∀ (fs : List ka_F) (k j : Nat) (f : ka_F), fs[j]? = some f → k + j ∉ ka_due TY k fs → ka_dft (TY (k + j)) f = true
  | [], _, j, _, h, _ => by simp at h
  | f1 :: fs, k, 0, f, h, hn => by
    cases h
    unfold ka_due at hn
    split at hn
    · assumption
    · exact absurd List.mem_cons_self hn
  | f1 :: fs, k, j + 1, f, h, hn => by
    have h1 : fs[j]? = some f := by simpa using h
    have h2 : k + 1 + j ∉ ka_due TY (k + 1) fs := by
      intro q
      apply hn
      unfold ka_due
      have e : k + (j + 1) = k + 1 + j := by omega
      rw [e]
      split
      · exact q
      · exact List.mem_cons_of_mem _ q
    have := ka_due.ok fs (k + 1) j f h1 h2
    have e : k + (j + 1) = k + 1 + j := by omega
    rw [e]
    exact this
/-- a class's own links to classes of which it makes objects: the index, the class, the kind -/
def ka_NL (cl : List vw_C) (own : String) (Ts : List Jvm.Cond) (NL : List (Nat × Nat × Nat)) : Prop := ∀ q ∈ NL, ∃ z : vw_C, cl[q.2.1]? = some z ∧ Jvm.Cond.classLink own q.1 z.1 ∈ Ts ∧ Jvm.Cond.instantiable z.1 z.2.2 ∈ Ts ∧ Jvm.Cond.initialized z.1 ∈ Ts
def ka_nw (RT : List ka_R) (cl : List vw_C) (TY : Nat → Nat → FieldType) (NL : List (Nat × Nat × Nat)) (RC RS ix : Nat) (E : ka_E) (K : List ka_V) (pd : List (Nat × List Nat)) (cs ss : Nat) : Option (ka_E × List ka_V × List (Nat × List Nat) × Nat × Nat) := match ka_find NL ix with
  | some (ci, r) => match RT[r]?, cl[ci]? with
    | some (0, ci', _, fts, _, _), some z => if ci' = ci ∧ fts.length = z.2.2 ∧ cs + 1 ≤ RC ∧ ss + z.2.2 ≤ RS then some (E ++ [((r : Int) + 1, (r : Int) + 1)], (3, E.length, 0) :: K, (E.length, ka_due (TY ci) 0 fts) :: pd, cs + 1, ss + z.2.2) else none
    | _, _ => none
  | none => none
section KK
variable {p : Program} {l : Launch} {e : Env} {R : Room} {s : State} {m : MethodId} {args : Array Value} {below : List Frame} {meth : Method} {c : Code} {Q : State → Prop}
variable {cc : ByteArray} {nL : Nat} {D : va_G} {cl : List vw_C} {A : Nat → Prop} {RT : List ka_R} {av : List Nat} {H0 : Heap}
variable {Γ0 : Nat → Option Nat} {nA : Nat} {ρ0 : Nat → Int} {α0 : Nat → Nat}
variable {E E' : ka_E} {L K K' : List ka_V} {pd pd' : List (Nat × List Nat)} {cs ss cs' ss' pc : Nat} {TY : Nat → Nat → FieldType} {Ts : List Jvm.Cond} {own : String} {NL : List (Nat × Nat × Nat)} {RC RS : Nat}
/-- the checker's state with a new cell -/
theorem ka_J.cell {ρ : Nat → Int} {α : Nat → Nat} {Γ : Nat → Option Nat} {P : Nat → Nat → Prop} {ws : va_W} {tys tys' : List (ClassId × FieldType)} {H H1 : Heap} {locs locs1 : List Loc} {ls : Array Slot} {lv : List (Nat × Value)} {st st' : List Value} {q r : Nat} {js : List Nat} {e' : va_E}
    (k : ka_J p l e R s m args below meth c Q D cl A RT H0 av nL Γ0 nA ρ0 α0 pc (E ++ [((r : Int) + 1, (r : Int) + 1)], L, (3, E.length, 0) :: K', (E.length, js) :: pd, cs, ss)) (hk : ka_ok D cl A RT s H0 av nL E L K pd ρ α Γ P ws tys H locs ls lv st) (hn : nA ≤ E.length) (hΓ : ∀ b r, Γ0 b = some r → Γ b = some r) (hρ : ∀ k, k < nA → ρ k = ρ0 k ∧ α k = α0 k)
    (hst' : ka_stk ρ α Γ E.length K' st') (hK1 : va_K D cl tys' s) (u1 : va_P D cl (ws ++ [(q, e')]) H1) (u2 : va_D A (ws ++ [(q, e')])) (u3 : va_S A H0 H1 locs1) (ht : ∀ (k : Nat) (z : ClassId × FieldType), tys[k]? = some z → tys'[k]? = some z)
    (hne : ka_e RT (va_up Γ q (some r)) (fun a j => P a j ∨ (a = q ∧ j ∈ js)) tys' q r e') : W p l e R s m args below meth c H1 locs1 cs ss Q (F0 m pc ls (.ref q :: st')) := by
  obtain ⟨hE, h0, hL, hl, hst, hq, hP, hK, hPw, hD, hS, hT⟩ := hk
  have hnew := ka_new_addr hT u2
  have g1 : ∀ k, k < E.length → va_up ρ E.length ((r : Int) + 1) k = ρ k := fun k h => va_up_ne _ _ (Nat.ne_of_lt h)
  have g2 : ∀ k, k < E.length → va_up α E.length q k = α k := fun k h => va_up_ne _ _ (Nat.ne_of_lt h)
  have g3 : ∀ b r', Γ b = some r' → va_up Γ q (some r) b = some r' := fun b r' h => by
    rw [va_up_ne]
    · exact h
    · intro z
      rw [z, hnew] at h
      cases h
  have g4 : E.length ≤ (E ++ [((r : Int) + 1, (r : Int) + 1)]).length := by simp
  refine k (va_up ρ E.length ((r : Int) + 1)) (va_up α E.length q) (va_up Γ q (some r)) (fun a j => P a j ∨ (a = q ∧ j ∈ js)) _ tys' H1 locs1 ls lv (.ref q :: st') ⟨hE.push (Int.le_refl _) (Int.le_refl _), ⟨Nat.lt_of_lt_of_le h0.1 g4, by rw [g1 0 h0.1]; exact h0.2⟩, hL.ext g1 g2 g3 g4, hl, ⟨by simp, Or.inr ⟨r, ?_, ?_, ?_⟩, ka_stk.ext g1 g2 g3 g4 hst'⟩, ?_, ?_, hK1, u1, u2, u3, ka_T.push hT hnew (fun _ _ h => Or.inl h) ht hne⟩ (Nat.le_trans hn g4) (fun b r' h => g3 b r' (hΓ b r' h)) (fun k h => ⟨(g1 k (Nat.lt_of_lt_of_le h hn)).trans (hρ k h).1, (g2 k (Nat.lt_of_lt_of_le h hn)).trans (hρ k h).2⟩)
  · dsimp only; rw [va_up_self]
  · dsimp only; rw [va_up_self, va_up_self]
  · dsimp only; rw [va_up_self]; omega
  · intro z hz
    rcases List.mem_cons.mp hz with rfl | hz
    · exact ⟨by simp, r, by dsimp only; rw [va_up_self, va_up_self], by dsimp only; rw [va_up_self]⟩
    · exact hq.ext g1 g2 g3 g4 z hz
  · intro a j hp
    rcases hp with hp | ⟨rfl, hp⟩
    · rcases hP a j hp with ⟨z, z1, z2, z3⟩ | ⟨r', z1, z2⟩
      · exact Or.inl ⟨z, List.mem_cons_of_mem _ z1, by rw [g2 _ (hq z z1).1]; exact z2, z3⟩
      · exact Or.inr ⟨r', g3 _ _ z1, z2⟩
    · exact Or.inl ⟨_, List.mem_cons_self, by dsimp only; rw [va_up_self], hp⟩
set_option maxHeartbeats 4000000 in
theorem ka_nw.ok {ix : Nat} (h : ka_nw RT cl TY NL RC RS ix E K pd cs ss = some (E', K', pd', cs', ss')) (hx : p.tables.exec = Jvm.exec) (hb : c.code = cc) (hown : s.vm.findClass own = some m.cls) (hts : ∀ w ∈ Ts, w.before args s = true) (hCL : ka_CL cl TY Ts) (hNL : ka_NL cl own Ts NL) (hRC : RC ≤ R.cells) (hRS : RS ≤ R.slots) (hA : ∀ q, H0.size ≤ q → A q) (hd : decode cc pc = .ok (.new ix, 3))
    (k : ka_J p l e R s m args below meth c Q D cl A RT H0 av nL Γ0 nA ρ0 α0 (pc + 3) (E', L, K', pd', cs', ss')) : ka_J p l e R s m args below meth c Q D cl A RT H0 av nL Γ0 nA ρ0 α0 pc (E, L, K, pd, cs, ss) := by
  intro ρ α Γ P ws tys H locs ls lv st hk hn hΓ hρ
  have hst : ka_stk ρ α Γ E.length K st := hk.2.2.2.2.1
  obtain ⟨hK, hPw, hD, hS, hT⟩ := hk.2.2.2.2.2.2.2
  unfold ka_nw at h
  split at h
  · rename_i ci r e1
    split at h
    · rename_i ci' fty fts lo hi z hR1 hz
      split at h
      · rename_i hc
        obtain ⟨rfl, c2, c3, c4⟩ := hc
        cases h
        obtain ⟨z', z1, z2, z3, z4⟩ := hNL _ (ka_find.mem e1)
        dsimp only at z1
        rw [hz] at z1
        cases z1
        obtain ⟨q1, q2, q3, q4⟩ := hCL _ _ hz
        refine va_new (fs := (List.range z.2.2).map (fun j => defaultValue (TY ci' j))) hx hb hts q1 (TY ci') q2 hown (hts _ z2) (hts _ z3) (hts _ z4) hK hPw hD hS hA hz (fun j hj => ?_) (by omega) (by omega) hd (fun q H1 u1 u2 u3 => ?_)
        · simp [vp_V, hj]
        · refine ka_J.cell k hk hn hΓ hρ hst hK u1 u2 u3 (fun _ _ h => h) ⟨_, hR1, _, rfl, by simp [c2], fun j f v hf hv => ?_⟩
          dsimp only at hf
          have hj : j < z.2.2 := by rw [← c2]; exact (List.getElem?_eq_some_iff.mp hf).1
          have hv1 : v = defaultValue (TY ci' j) := by
            simp [hj] at hv
            exact hv.symm
          subst hv1
          by_cases hd : j ∈ ka_due (TY ci') 0 fts
          · exact Or.inl (Or.inr ⟨rfl, hd⟩)
          · have := ka_due.ok (TY := TY ci') fts 0 j f hf (by simpa using hd)
            rw [Nat.zero_add] at this
            exact Or.inr (ka_dft.ok this)
      · cases h
    · cases h
  · cases h
end KK
end
