/-! ===== what the executor's states say of the machine's ===== -/
def kc_env (ρ : Nat → Int) (E : kc_E) : Prop := ∀ n : Nat, (E.getD n (0, 0)).1 ≤ ρ n ∧ ρ n ≤ (E.getD n (0, 0)).2
def kc_v (ρ : Nat → Int) (β : Nat → Nat) (N : Nat) (a : kc_V) (v : Value) : Prop := match a.1 with
  | 1 => ∃ x : Int32, v = .int x ∧ x.toInt = ρ a.2.1 + a.2.2
  | 2 => ∃ x : Int64, v = .long x ∧ x.toInt = ρ a.2.1 + a.2.2
  | 3 => (v = .null ∧ ρ a.2.1 + a.2.2 = 0) ∨ ∃ r : Nat, v = .ref (β r) ∧ 1 ≤ r ∧ r ≤ N ∧ ρ a.2.1 + a.2.2 = (r : Int)
  | 5 => v = .ref (β 0)
  | _ => False
def kc_t (β : Nat → Nat) (N : Nat) (f : kc_F) (v : Value) : Prop := match f.1 with
  | 1 => ∃ x : Int32, v = .int x ∧ f.2.1 ≤ x.toInt ∧ x.toInt ≤ f.2.2
  | 2 => ∃ x : Int64, v = .long x ∧ f.2.1 ≤ x.toInt ∧ x.toInt ≤ f.2.2
  | 3 => (v = .null ∧ f.2.1 ≤ 0 ∧ 0 ≤ f.2.2) ∨ ∃ r : Nat, v = .ref (β r) ∧ 1 ≤ r ∧ r ≤ N ∧ f.2.1 ≤ (r : Int) ∧ (r : Int) ≤ f.2.2
  | _ => False
theorem kc_env.at {ρ : Nat → Int} {E : kc_E} (h : kc_env ρ E) (a : kc_V) : kc_lo E a ≤ ρ a.2.1 + a.2.2 ∧ ρ a.2.1 + a.2.2 ≤ kc_hi E a := by
  have := h a.2.1
  unfold kc_lo kc_hi
  omega
theorem kc_env.push {ρ : Nat → Int} {E : kc_E} (h : kc_env ρ E) {lo hi z : Int} (h1 : lo ≤ z) (h2 : z ≤ hi) : kc_env (va_up ρ E.length z) (E ++ [(lo, hi)]) := by
  intro n
  by_cases e : n = E.length
  · subst e
    simp [va_up, h1, h2]
  · by_cases l : n < E.length
    · have := h n
      simp only [va_up, if_neg e, List.getD_eq_getElem?_getD, List.getElem?_append_left l] at this ⊢
      exact this
    · have hn : E.length + 1 ≤ n := by omega
      have := h n
      rw [List.getD_eq_getElem?_getD, List.getElem?_eq_none (by omega)] at this
      rw [List.getD_eq_getElem?_getD, List.getElem?_eq_none (by simp; omega)]
      simp only [va_up, if_neg e]
      exact this
theorem kc_v.ext {ρ ρ' : Nat → Int} {β β' : Nat → Nat} {N N' : Nat} {a : kc_V} {v : Value} {n : Nat} (h : kc_v ρ β N a v) (ha : a.2.1 < n) (h1 : ∀ k, k < n → ρ' k = ρ k) (h2 : ∀ k, k ≤ N → β' k = β k) (h3 : N ≤ N') : kc_v ρ' β' N' a v := by
  obtain ⟨t, k, d⟩ := a
  unfold kc_v at h ⊢
  dsimp only at h ha ⊢
  rw [h1 k ha]
  split at h
  · exact h
  · exact h
  · rcases h with h | ⟨r, e1, e2, e3, e4⟩
    · exact Or.inl h
    · exact Or.inr ⟨r, by rw [h2 r e3]; exact e1, e2, Nat.le_trans e3 h3, e4⟩
  · rw [h2 0 (Nat.zero_le _)]; exact h
  · exact h
theorem kc_t.ext {β β' : Nat → Nat} {N N' : Nat} {f : kc_F} {v : Value} (h : kc_t β N f v) (h2 : ∀ k, k ≤ N → β' k = β k) (h3 : N ≤ N') : kc_t β' N' f v := by
  obtain ⟨t, lo, hi⟩ := f
  unfold kc_t at h ⊢
  dsimp only at h ⊢
  split at h
  · exact h
  · exact h
  · rcases h with h | ⟨r, e1, e2, e3, e4⟩
    · exact Or.inl h
    · exact Or.inr ⟨r, by rw [h2 r e3]; exact e1, e2, Nat.le_trans e3 h3, e4⟩
  · exact h
/-- what is read gets a symbol of its own -/
theorem kc_t.read {β : Nat → Nat} {N : Nat} {f : kc_F} {v : Value} (h : kc_t β N f v) : ∃ z : Int, f.2.1 ≤ z ∧ z ≤ f.2.2 ∧ ∀ (ρ : Nat → Int) (n : Nat) (d : Int), ρ n + d = z → kc_v ρ β N (f.1, n, d) v := by
  obtain ⟨t, lo, hi⟩ := f
  unfold kc_t at h
  dsimp only at h ⊢
  split at h
  · obtain ⟨x, rfl, h1, h2⟩ := h
    exact ⟨x.toInt, h1, h2, fun ρ n d e => ⟨x, rfl, by dsimp only; omega⟩⟩
  · obtain ⟨x, rfl, h1, h2⟩ := h
    exact ⟨x.toInt, h1, h2, fun ρ n d e => ⟨x, rfl, by dsimp only; omega⟩⟩
  · rcases h with ⟨rfl, h1, h2⟩ | ⟨r, rfl, e2, e3, h1, h2⟩
    · exact ⟨0, h1, h2, fun ρ n d e => Or.inl ⟨rfl, by dsimp only; omega⟩⟩
    · exact ⟨(r : Int), h1, h2, fun ρ n d e => Or.inr ⟨r, rfl, e2, e3, by dsimp only; omega⟩⟩
  · exact absurd h id
/-- what is written lies within bounds -/
theorem kc_v.write {ρ : Nat → Int} {β : Nat → Nat} {N : Nat} {a : kc_V} {v : Value} (h : kc_v ρ β N a v) (h5 : a.1 ≠ 5) {f : kc_F} (ht : f.1 = a.1) (h1 : f.2.1 ≤ ρ a.2.1 + a.2.2) (h2 : ρ a.2.1 + a.2.2 ≤ f.2.2) : kc_t β N f v := by
  obtain ⟨t, lo, hi⟩ := f
  obtain ⟨t', n, d⟩ := a
  dsimp only at ht h1 h2 h5
  subst ht
  unfold kc_v at h
  unfold kc_t
  dsimp only at h ⊢
  split at h
  · obtain ⟨x, rfl, e⟩ := h
    exact ⟨x, rfl, by omega, by omega⟩
  · obtain ⟨x, rfl, e⟩ := h
    exact ⟨x, rfl, by omega, by omega⟩
  · rcases h with ⟨rfl, e⟩ | ⟨r, rfl, e2, e3, e⟩
    · exact Or.inl ⟨rfl, by omega, by omega⟩
    · exact Or.inr ⟨r, rfl, e2, e3, by omega, by omega⟩
  · exact absurd rfl h5
  · exact absurd h id
theorem kc_sub.ok {β : Nat → Nat} {N : Nat} {f g : kc_F} {v : Value} (h : kc_sub f g = true) (hv : kc_t β N f v) : kc_t β N g v := by
  obtain ⟨t, lo, hi⟩ := f
  obtain ⟨t', lo', hi'⟩ := g
  obtain ⟨h1, h2, h3⟩ := of_decide_eq_true h
  dsimp only at h1 h2 h3
  subst h1
  unfold kc_t at hv ⊢
  dsimp only at hv ⊢
  split at hv
  · obtain ⟨x, rfl, e1, e2⟩ := hv
    exact ⟨x, rfl, by omega, by omega⟩
  · obtain ⟨x, rfl, e1, e2⟩ := hv
    exact ⟨x, rfl, by omega, by omega⟩
  · rcases hv with ⟨rfl, e1, e2⟩ | ⟨r, rfl, e2, e3, e4, e5⟩
    · exact Or.inl ⟨rfl, by omega, by omega⟩
    · exact Or.inr ⟨r, rfl, e2, e3, by omega, by omega⟩
  · exact absurd hv id
def kc_loc (ρ : Nat → Int) (β : Nat → Nat) (N : Nat) (n : Nat) (L : List kc_V) (lv : List (Nat × Value)) : Prop := ∀ (i : Nat) (a : kc_V), L[i]? = some a → a.1 ≠ 0 → a.2.1 < n ∧ ∃ v : Value, (i, v) ∈ lv ∧ kc_v ρ β N a v
def kc_stk (ρ : Nat → Int) (β : Nat → Nat) (N : Nat) (n : Nat) : List kc_V → List Value → Prop
  | [], [] => True
  | a :: L, v :: st => a.2.1 < n ∧ kc_v ρ β N a v ∧ kc_stk ρ β N n L st
  | _, _ => False
theorem kc_loc.ext {ρ ρ' : Nat → Int} {β β' : Nat → Nat} {N N' : Nat} {n n' : Nat} {L : List kc_V} {lv : List (Nat × Value)} (h : kc_loc ρ β N n L lv) (h1 : ∀ k, k < n → ρ' k = ρ k) (h2 : ∀ k, k ≤ N → β' k = β k) (h3 : N ≤ N') (hn : n ≤ n') : kc_loc ρ' β' N' n' L lv := fun i a ha ht => by
  obtain ⟨g1, v, g2, g3⟩ := h i a ha ht
  exact ⟨Nat.lt_of_lt_of_le g1 hn, v, g2, g3.ext g1 h1 h2 h3⟩
theorem kc_stk.ext {ρ ρ' : Nat → Int} {β β' : Nat → Nat} {N N' : Nat} {n n' : Nat} (h1 : ∀ k, k < n → ρ' k = ρ k) (h2 : ∀ k, k ≤ N → β' k = β k) (h3 : N ≤ N') (hn : n ≤ n') : ∀ {L : List kc_V} {st : List Value}, kc_stk ρ β N n L st → kc_stk ρ' β' N' n' L st
  | [], [], _ => trivial
  | _ :: _, _ :: _, h => ⟨Nat.lt_of_lt_of_le h.1 hn, h.2.1.ext h.1 h1 h2 h3, kc_stk.ext h1 h2 h3 hn h.2.2⟩
  | [], _ :: _, h => absurd h id
  | _ :: _, [], h => absurd h id
theorem kc_cat1 {ρ : Nat → Int} {β : Nat → Nat} {N : Nat} {a : kc_V} {v : Value} (h : kc_v ρ β N a v) (ha : a.1 ≠ 2) : v.category = 1 := by
  obtain ⟨t, n, d⟩ := a
  unfold kc_v at h
  dsimp only at h ha
  split at h
  · obtain ⟨x, rfl, -⟩ := h; rfl
  · exact absurd rfl ha
  · rcases h with ⟨rfl, -⟩ | ⟨r, rfl, -⟩ <;> rfl
  · subst h; rfl
  · exact absurd h id
theorem kc_cat2 {ρ : Nat → Int} {β : Nat → Nat} {N : Nat} {n : Nat} {d : Int} {v : Value} (h : kc_v ρ β N (2, n, d) v) : v.category = 2 := by
  obtain ⟨x, rfl, -⟩ := h; rfl
-- numbers
theorem kc_i32 (x : Int32) : -2147483648 ≤ x.toInt ∧ x.toInt ≤ 2147483647 := by
  have h1 := x.le_toInt
  have h2 := x.toInt_lt
  omega
theorem kc_i64 (x : Int64) : -9223372036854775808 ≤ x.toInt ∧ x.toInt ≤ 9223372036854775807 := by
  have h1 := x.le_toInt
  have h2 := x.toInt_lt
  omega
theorem kc_add32 {x y : Int32} (h1 : -2147483648 ≤ x.toInt + y.toInt) (h2 : x.toInt + y.toInt ≤ 2147483647) : (x + y).toInt = x.toInt + y.toInt := by
  rw [Int32.toInt_add]
  exact Int.bmod_eq_of_le (by omega) (by omega)
theorem kc_sub32 {x y : Int32} (h1 : -2147483648 ≤ x.toInt - y.toInt) (h2 : x.toInt - y.toInt ≤ 2147483647) : (x - y).toInt = x.toInt - y.toInt := by
  rw [Int32.toInt_sub]
  exact Int.bmod_eq_of_le (by omega) (by omega)
theorem kc_mul32 {x y : Int32} (h1 : -2147483648 ≤ x.toInt * y.toInt) (h2 : x.toInt * y.toInt ≤ 2147483647) : (x * y).toInt = x.toInt * y.toInt := by
  rw [Int32.toInt_mul]
  exact Int.bmod_eq_of_le (by omega) (by omega)
/-- a cell, and what the executor says of it -/
def kc_e (ρ : Nat → Int) (β : Nat → Nat) (N n : Nat) (tys : List (ClassId × FieldType)) (g : kc_G) (e : va_E) : Prop := match g.1 with
  | 0 => ∃ fs : List Value, e = .inr (g.2.1, fs) ∧ fs.length = g.2.2.2.2.2.2.length ∧ ∀ (j : Nat) (a : kc_V) (v : Value), g.2.2.2.2.2.2[j]? = some a → fs[j]? = some v → a.2.1 < n ∧ kc_v ρ β N a v
  | 1 => ∃ (cA : ClassId) (t0 : Nat) (h : Nat → Int32), e = .inl (cA, g.2.2.2.1, .inl h) ∧ tys[t0]? = some (cA, g.2.2.1) ∧ ∀ j : Nat, j < g.2.2.2.1 → kc_t β N (g.2.2.2.2.2.1.getD j g.2.2.2.2.1) (.int (h j))
  | 2 => ∃ (cA : ClassId) (t0 : Nat) (h : Nat → Int64), e = .inl (cA, g.2.2.2.1, .inr (.inl h)) ∧ tys[t0]? = some (cA, .long) ∧ ∀ j : Nat, j < g.2.2.2.1 → kc_t β N (g.2.2.2.2.2.1.getD j g.2.2.2.2.1) (.long (h j))
  | 3 => ∃ (cA : ClassId) (t0 : Nat) (h : Nat → Option Nat), e = .inl (cA, g.2.2.2.1, .inr (.inr (.inr (.inr h)))) ∧ tys[t0]? = some (cA, g.2.2.1) ∧ ∀ j : Nat, j < g.2.2.2.1 → kc_t β N (g.2.2.2.2.2.1.getD j g.2.2.2.2.1) (va_rf (h j))
  | _ => False
theorem kc_e.ext {ρ ρ' : Nat → Int} {β β' : Nat → Nat} {N N' n n' : Nat} {tys tys' : List (ClassId × FieldType)} {g : kc_G} {e : va_E} (h : kc_e ρ β N n tys g e) (h1 : ∀ k, k < n → ρ' k = ρ k) (h2 : ∀ k, k ≤ N → β' k = β k) (h3 : N ≤ N') (hn : n ≤ n') (ht : ∀ (k : Nat) (q : ClassId × FieldType), tys[k]? = some q → tys'[k]? = some q) : kc_e ρ' β' N' n' tys' g e := by
  unfold kc_e at h ⊢
  split at h
  · obtain ⟨fs, e1, e2, e4⟩ := h
    exact ⟨fs, e1, e2, fun j a v ha hv => ⟨Nat.lt_of_lt_of_le (e4 j a v ha hv).1 hn, (e4 j a v ha hv).2.ext (e4 j a v ha hv).1 h1 h2 h3⟩⟩
  · obtain ⟨cA, t0, k, e1, e2, e4⟩ := h
    exact ⟨cA, t0, k, e1, ht _ _ e2, fun j hj => (e4 j hj).ext h2 h3⟩
  · obtain ⟨cA, t0, k, e1, e2, e4⟩ := h
    exact ⟨cA, t0, k, e1, ht _ _ e2, fun j hj => (e4 j hj).ext h2 h3⟩
  · obtain ⟨cA, t0, k, e1, e2, e4⟩ := h
    exact ⟨cA, t0, k, e1, ht _ _ e2, fun j hj => (e4 j hj).ext h2 h3⟩
  · exact h
/-- the cells, in their order -/
def kc_C (ρ : Nat → Int) (β : Nat → Nat) (n : Nat) (tys : List (ClassId × FieldType)) (Hs : List kc_G) (ws : va_W) : Prop := ws.length = Hs.length ∧ ∀ (k : Nat) (g : kc_G), Hs[k]? = some g → ∃ e : va_E, ws[k]? = some (β (k + 1), e) ∧ kc_e ρ β Hs.length n tys g e
theorem kc_C.ext {ρ ρ' : Nat → Int} {β : Nat → Nat} {n n' : Nat} {tys : List (ClassId × FieldType)} {Hs : List kc_G} {ws : va_W} (h : kc_C ρ β n tys Hs ws) (h1 : ∀ k, k < n → ρ' k = ρ k) (hn : n ≤ n') : kc_C ρ' β n' tys Hs ws := ⟨h.1, fun k g hk => by
  obtain ⟨e, e1, e2⟩ := h.2 k g hk
  exact ⟨e, e1, e2.ext h1 (fun _ _ => rfl) (Nat.le_refl _) hn (fun _ _ q => q)⟩⟩
/-- the world -/
def kc_W (D : va_G) (cl : List vw_C) (A : Nat → Prop) (s : State) (H0 : Heap) (ρ : Nat → Int) (β : Nat → Nat) (n : Nat) (Hs : List kc_G) (ws : va_W) (tys : List (ClassId × FieldType)) (H : Heap) (locs : List Loc) : Prop :=
  va_K D cl tys s ∧ va_P D cl ws H ∧ va_D A ws ∧ va_S A H0 H locs ∧ kc_C ρ β n tys Hs ws
/-- the first nA symbols and nB cells are as they were at a method's start, or at a loop's head -/
def kc_ag (nA : Nat) (ρ0 : Nat → Int) (nB : Nat) (β0 : Nat → Nat) (n N : Nat) (ρ : Nat → Int) (β : Nat → Nat) : Prop := nA ≤ n ∧ nB ≤ N ∧ (∀ k, k < nA → ρ k = ρ0 k) ∧ ∀ k, k ≤ nB → β k = β0 k
theorem kc_ag.ext {nA nB n N n' N' : Nat} {ρ0 ρ ρ' : Nat → Int} {β0 β β' : Nat → Nat} (h : kc_ag nA ρ0 nB β0 n N ρ β) (h1 : ∀ k, k < n → ρ' k = ρ k) (h2 : ∀ k, k ≤ N → β' k = β k) (hn : n ≤ n') (hN : N ≤ N') : kc_ag nA ρ0 nB β0 n' N' ρ' β' :=
  ⟨Nat.le_trans h.1 hn, Nat.le_trans h.2.1 hN, fun k hk => (h1 k (Nat.lt_of_lt_of_le hk h.1)).trans (h.2.2.1 k hk), fun k hk => (h2 k (Nat.le_trans hk h.2.1)).trans (h.2.2.2 k hk)⟩
section KA
variable {p : Program} {l : Launch} {e : Env} {R : Room} {s : State} {m : MethodId} {args : Array Value} {below : List Frame} {meth : Method} {c : Code} {Q : State → Prop}
variable {cc : ByteArray} {nL : Nat} {D : va_G} {cl : List vw_C} {A : Nat → Prop} {H0 : Heap}
/-- a state of the executor, and the machine's -/
def kc_ok (D : va_G) (cl : List vw_C) (A : Nat → Prop) (s : State) (H0 : Heap) (nL : Nat) (E : kc_E) (L K : List kc_V) (Hs : List kc_G) (ρ : Nat → Int) (β : Nat → Nat) (ws : va_W) (tys : List (ClassId × FieldType)) (H : Heap) (locs : List Loc) (ls : Array Slot) (lv : List (Nat × Value)) (st : List Value) : Prop :=
  kc_env ρ E ∧ (0 < E.length ∧ ρ 0 = 0) ∧ kc_loc ρ β Hs.length E.length L lv ∧ lv_has ls nL lv ∧ kc_stk ρ β Hs.length E.length K st ∧ kc_W D cl A s H0 ρ β E.length Hs ws tys H locs
/-- from every such state the machine comes to Q -/
def kc_J (p : Program) (l : Launch) (e : Env) (R : Room) (s : State) (m : MethodId) (args : Array Value) (below : List Frame) (meth : Method) (c : Code) (Q : State → Prop) (D : va_G) (cl : List vw_C) (A : Nat → Prop) (H0 : Heap) (nL : Nat) (nA : Nat) (ρ0 : Nat → Int) (nB : Nat) (β0 : Nat → Nat) (pc : Nat) (S : kc_S) : Prop :=
  ∀ (ρ : Nat → Int) (β : Nat → Nat) (ws : va_W) (tys : List (ClassId × FieldType)) (H : Heap) (locs : List Loc) (ls : Array Slot) (lv : List (Nat × Value)) (st : List Value),
    kc_ok D cl A s H0 nL S.1 S.2.1 S.2.2.1 S.2.2.2.1 ρ β ws tys H locs ls lv st → kc_ag nA ρ0 nB β0 S.1.length S.2.2.2.1.length ρ β → W p l e R s m args below meth c H locs S.2.2.2.2.1 S.2.2.2.2.2 Q (F0 m pc ls st)
/-- a value that comes, with the bounds as they then are -/
def kc_r (E : kc_E) (ρ : Nat → Int) (β : Nat → Nat) (N : Nat) (E' : kc_E) (a : kc_V) (v : Value) : Prop := ∃ ρ' : Nat → Int, (∀ k, k < E.length → ρ' k = ρ k) ∧ kc_env ρ' E' ∧ E.length ≤ E'.length ∧ a.2.1 < E'.length ∧ kc_v ρ' β N a v
variable {nA : Nat} {ρ0 : Nat → Int} {nB : Nat} {β0 : Nat → Nat}
variable {E E' : kc_E} {L L' K K' : List kc_V} {Hs : List kc_G} {cs ss pc : Nat} {ρ ρ' : Nat → Int} {β : Nat → Nat} {ws : va_W} {tys : List (ClassId × FieldType)} {H : Heap} {locs : List Loc} {ls ls' : Array Slot} {lv lv' : List (Nat × Value)} {st st' : List Value} {a : kc_V} {v : Value}
theorem kc_J.mv (k : kc_J p l e R s m args below meth c Q D cl A H0 nL nA ρ0 nB β0 pc (E', L', K', Hs, cs, ss)) (hk : kc_ok D cl A s H0 nL E L K Hs ρ β ws tys H locs ls lv st) (hg : kc_ag nA ρ0 nB β0 E.length Hs.length ρ β)
    (g1 : ∀ k, k < E.length → ρ' k = ρ k) (g3 : kc_env ρ' E') (g4 : E.length ≤ E'.length) (hL : kc_loc ρ' β Hs.length E'.length L' lv') (hl : lv_has ls' nL lv') (hK : kc_stk ρ' β Hs.length E'.length K' st') : W p l e R s m args below meth c H locs cs ss Q (F0 m pc ls' st') := by
  obtain ⟨hE, h0, -, -, -, w1, w2, w3, w4, w5⟩ := hk
  exact k ρ' β ws tys H locs ls' lv' st' ⟨g3, ⟨Nat.lt_of_lt_of_le h0.1 g4, by rw [g1 0 h0.1]; exact h0.2⟩, hL, hl, hK, w1, w2, w3, w4, w5.ext g1 g4⟩ (hg.ext g1 (fun _ _ => rfl) g4 (Nat.le_refl _))
theorem kc_J.res (k : kc_J p l e R s m args below meth c Q D cl A H0 nL nA ρ0 nB β0 pc (E', L, a :: K', Hs, cs, ss)) (hk : kc_ok D cl A s H0 nL E L K Hs ρ β ws tys H locs ls lv st) (hg : kc_ag nA ρ0 nB β0 E.length Hs.length ρ β)
    (hK : kc_stk ρ β Hs.length E.length K' st') (hr : kc_r E ρ β Hs.length E' a v) : W p l e R s m args below meth c H locs cs ss Q (F0 m pc ls (v :: st')) := by
  obtain ⟨ρ', g1, g3, g4, g5, g6⟩ := hr
  exact kc_J.mv k hk hg g1 g3 g4 (hk.2.2.1.ext g1 (fun _ _ => rfl) (Nat.le_refl _) g4) hk.2.2.2.1 ⟨g5, g6, kc_stk.ext g1 (fun _ _ => rfl) (Nat.le_refl _) g4 hK⟩
theorem kc_J.go (k : kc_J p l e R s m args below meth c Q D cl A H0 nL nA ρ0 nB β0 pc (E, L, K', Hs, cs, ss)) (hk : kc_ok D cl A s H0 nL E L K Hs ρ β ws tys H locs ls lv st) (hg : kc_ag nA ρ0 nB β0 E.length Hs.length ρ β)
    (hK : kc_stk ρ β Hs.length E.length K' st') : W p l e R s m args below meth c H locs cs ss Q (F0 m pc ls st') :=
  kc_J.mv k hk hg (fun _ _ => rfl) hk.1 (Nat.le_refl _) hk.2.2.1 hk.2.2.2.1 hK
theorem kc_r.old {N : Nat} (hE : kc_env ρ E) (ha : a.2.1 < E.length) (hv : kc_v ρ β N a v) : kc_r E ρ β N E a v := ⟨ρ, fun _ _ => rfl, hE, Nat.le_refl _, ha, hv⟩
theorem kc_r.new {N t : Nat} {lo hi z : Int} (hE : kc_env ρ E) (h1 : lo ≤ z) (h2 : z ≤ hi) (hv : ∀ (ρ : Nat → Int) (n : Nat) (d : Int), ρ n + d = z → kc_v ρ β N (t, n, d) v) : kc_r E ρ β N (E ++ [(lo, hi)]) (t, E.length, 0) v :=
  ⟨va_up ρ E.length z, fun k h => va_up_ne _ _ (Nat.ne_of_lt h), hE.push h1 h2, by simp, by simp, hv _ _ _ (by rw [va_up_self]; omega)⟩
theorem kc_mk.ok {N t : Nat} {lo hi z : Int} (hE : kc_env ρ E) (h0 : 0 < E.length ∧ ρ 0 = 0) (h1 : lo ≤ z) (h2 : z ≤ hi) (hv : ∀ (ρ : Nat → Int) (n : Nat) (d : Int), ρ n + d = z → kc_v ρ β N (t, n, d) v) : kc_r E ρ β N (kc_mk E t lo hi).1 (kc_mk E t lo hi).2 v := by
  unfold kc_mk
  by_cases e : lo = hi
  · rw [if_pos e]
    exact kc_r.old hE h0.1 (hv _ _ _ (by omega))
  · rw [if_neg e]
    exact kc_r.new hE h1 h2 hv
theorem kc_mk.i {N : Nat} {lo hi : Int} {x : Int32} (hE : kc_env ρ E) (h0 : 0 < E.length ∧ ρ 0 = 0) (h1 : lo ≤ x.toInt) (h2 : x.toInt ≤ hi) : kc_r E ρ β N (kc_mk E 1 lo hi).1 (kc_mk E 1 lo hi).2 (.int x) := kc_mk.ok hE h0 h1 h2 (fun _ _ _ e => ⟨x, rfl, by dsimp only; omega⟩)
theorem kc_mk.lg {N : Nat} {lo hi : Int} {x : Int64} (hE : kc_env ρ E) (h0 : 0 < E.length ∧ ρ 0 = 0) (h1 : lo ≤ x.toInt) (h2 : x.toInt ≤ hi) : kc_r E ρ β N (kc_mk E 2 lo hi).1 (kc_mk E 2 lo hi).2 (.long x) := kc_mk.ok hE h0 h1 h2 (fun _ _ _ e => ⟨x, rfl, by dsimp only; omega⟩)
theorem kc_rd.ok {N : Nat} {f : kc_F} (hE : kc_env ρ E) (h0 : 0 < E.length ∧ ρ 0 = 0) (h : kc_t β N f v) : kc_r E ρ β N (kc_rd E f).1 (kc_rd E f).2 v := by
  obtain ⟨z, h1, h2, h3⟩ := h.read
  exact kc_mk.ok hE h0 h1 h2 h3
end KA
