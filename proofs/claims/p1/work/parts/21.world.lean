/-- a cell of a kind; P: what is not yet laid -/
def ka_e (RT : List ka_R) (Γ : Nat → Option Nat) (P : Nat → Nat → Prop) (tys : List (ClassId × FieldType)) (a r : Nat) (e : va_E) : Prop := ∃ g : ka_R, RT[r]? = some g ∧ match g.1 with
  | 0 => ∃ fs : List Value, e = .inr (g.2.1, fs) ∧ fs.length = g.2.2.2.1.length ∧ ∀ (j : Nat) (f : ka_F) (v : Value), g.2.2.2.1[j]? = some f → fs[j]? = some v → P a j ∨ ka_t Γ f v
  | 1 => ∃ (cA : ClassId) (n t0 : Nat) (h : Nat → Int32), e = .inl (cA, n, .inl h) ∧ tys[t0]? = some (cA, g.2.2.1) ∧ g.2.2.2.2.1 ≤ n ∧ n ≤ g.2.2.2.2.2 ∧ ∀ f : ka_F, g.2.2.2.1[0]? = some f → ∀ j : Nat, j < n → f.2.1 ≤ (h j).toInt ∧ (h j).toInt ≤ f.2.2
  | 2 => ∃ (cA : ClassId) (n t0 : Nat) (h : Nat → Int64), e = .inl (cA, n, .inr (.inl h)) ∧ tys[t0]? = some (cA, .long) ∧ g.2.2.2.2.1 ≤ n ∧ n ≤ g.2.2.2.2.2 ∧ ∀ f : ka_F, g.2.2.2.1[0]? = some f → ∀ j : Nat, j < n → f.2.1 ≤ (h j).toInt ∧ (h j).toInt ≤ f.2.2
  | 3 => ∃ (cA : ClassId) (n t0 : Nat) (h : Nat → Option Nat), e = .inl (cA, n, .inr (.inr (.inr (.inr h)))) ∧ tys[t0]? = some (cA, g.2.2.1) ∧ g.2.2.2.2.1 ≤ n ∧ n ≤ g.2.2.2.2.2 ∧ ∀ f : ka_F, g.2.2.2.1[0]? = some f → ∀ j : Nat, j < n → P a j ∨ ka_t Γ f (va_rf (h j))
  | _ => False
theorem ka_e.ext {RT : List ka_R} {Γ Γ' : Nat → Option Nat} {P P' : Nat → Nat → Prop} {tys tys' : List (ClassId × FieldType)} {a r : Nat} {e : va_E} (h : ka_e RT Γ P tys a r e) (h3 : ∀ b r, Γ b = some r → Γ' b = some r) (hp : ∀ j, P a j → P' a j) (ht : ∀ (k : Nat) (q : ClassId × FieldType), tys[k]? = some q → tys'[k]? = some q) : ka_e RT Γ' P' tys' a r e := by
  obtain ⟨g, h1, h2⟩ := h
  refine ⟨g, h1, ?_⟩
  split at h2
  · obtain ⟨fs, e1, e2, e4⟩ := h2
    exact ⟨fs, e1, e2, fun j f v hf hv => (e4 j f v hf hv).elim (fun q => Or.inl (hp j q)) (fun q => Or.inr (q.ext h3))⟩
  · obtain ⟨cA, n, t0, k, e1, e2, e4⟩ := h2
    exact ⟨cA, n, t0, k, e1, ht _ _ e2, e4⟩
  · obtain ⟨cA, n, t0, k, e1, e2, e4⟩ := h2
    exact ⟨cA, n, t0, k, e1, ht _ _ e2, e4⟩
  · obtain ⟨cA, n, t0, k, e1, e2, e4, e5, e6⟩ := h2
    exact ⟨cA, n, t0, k, e1, ht _ _ e2, e4, e5, fun f hf j hj => (e6 f hf j hj).elim (fun q => Or.inl (hp j q)) (fun q => Or.inr (q.ext h3))⟩
  · exact h2
/-- the world -/
def ka_W (D : va_G) (cl : List vw_C) (A : Nat → Prop) (RT : List ka_R) (s : State) (H0 : Heap) (Γ : Nat → Option Nat) (P : Nat → Nat → Prop) (ws : va_W) (tys : List (ClassId × FieldType)) (H : Heap) (locs : List Loc) : Prop :=
  va_K D cl tys s ∧ va_P D cl ws H ∧ va_D A ws ∧ va_S A H0 H locs ∧ ∀ a r : Nat, Γ a = some r → ∃ (k : Nat) (e : va_E), ws[k]? = some (a, e) ∧ ka_e RT Γ P tys a r e
/-- what is not yet laid: by the symbols of this method, or of those that called it (kinds in av) -/
def ka_P (α : Nat → Nat) (Γ : Nat → Option Nat) (av : List Nat) (pend : List (Nat × List Nat)) (P : Nat → Nat → Prop) : Prop := ∀ a j : Nat, P a j → (∃ q ∈ pend, α q.1 = a ∧ j ∈ q.2) ∨ ∃ r : Nat, Γ a = some r ∧ r ∈ av
/-- the symbols of what is not yet laid are cells -/
def ka_pd (ρ : Nat → Int) (α : Nat → Nat) (Γ : Nat → Option Nat) (n : Nat) (pd : List (Nat × List Nat)) : Prop := ∀ q ∈ pd, q.1 < n ∧ ∃ r : Nat, Γ (α q.1) = some r ∧ ρ q.1 = (r : Int) + 1
theorem ka_pd.ext {ρ ρ' : Nat → Int} {α α' : Nat → Nat} {Γ Γ' : Nat → Option Nat} {n n' : Nat} {pd : List (Nat × List Nat)} (h : ka_pd ρ α Γ n pd) (h1 : ∀ k, k < n → ρ' k = ρ k) (h2 : ∀ k, k < n → α' k = α k) (h3 : ∀ b r, Γ b = some r → Γ' b = some r) (hn : n ≤ n') : ka_pd ρ' α' Γ' n' pd := fun q hq => by
  obtain ⟨g1, r, g2, g3⟩ := h q hq
  exact ⟨Nat.lt_of_lt_of_le g1 hn, r, by rw [h2 _ g1]; exact h3 _ _ g2, by rw [h1 _ g1]; exact g3⟩
section KA
variable {p : Program} {l : Launch} {e : Env} {R : Room} {s : State} {m : MethodId} {args : Array Value} {below : List Frame} {meth : Method} {c : Code} {Q : State → Prop}
variable {cc : ByteArray} {nL : Nat} {D : va_G} {cl : List vw_C} {A : Nat → Prop} {RT : List ka_R} {av : List Nat} {H0 : Heap}
/-- a state of the checker, and the machine's -/
def ka_ok (D : va_G) (cl : List vw_C) (A : Nat → Prop) (RT : List ka_R) (s : State) (H0 : Heap) (av : List Nat) (nL : Nat) (E : ka_E) (L K : List ka_V) (pd : List (Nat × List Nat)) (ρ : Nat → Int) (α : Nat → Nat) (Γ : Nat → Option Nat) (P : Nat → Nat → Prop) (ws : va_W) (tys : List (ClassId × FieldType)) (H : Heap) (locs : List Loc) (ls : Array Slot) (lv : List (Nat × Value)) (st : List Value) : Prop :=
  ka_env ρ E ∧ (0 < E.length ∧ ρ 0 = 0) ∧ ka_loc ρ α Γ E.length L lv ∧ lv_has ls nL lv ∧ ka_stk ρ α Γ E.length K st ∧ ka_pd ρ α Γ E.length pd ∧ ka_P α Γ av pd P ∧ ka_W D cl A RT s H0 Γ P ws tys H locs
/-- from every such state the machine comes to Q; the first nA symbols are the method's own arguments -/
def ka_J (p : Program) (l : Launch) (e : Env) (R : Room) (s : State) (m : MethodId) (args : Array Value) (below : List Frame) (meth : Method) (c : Code) (Q : State → Prop) (D : va_G) (cl : List vw_C) (A : Nat → Prop) (RT : List ka_R) (H0 : Heap) (av : List Nat) (nL : Nat) (Γ0 : Nat → Option Nat) (nA : Nat) (ρ0 : Nat → Int) (α0 : Nat → Nat) (pc : Nat) (S : ka_S) : Prop :=
  ∀ (ρ : Nat → Int) (α : Nat → Nat) (Γ : Nat → Option Nat) (P : Nat → Nat → Prop) (ws : va_W) (tys : List (ClassId × FieldType)) (H : Heap) (locs : List Loc) (ls : Array Slot) (lv : List (Nat × Value)) (st : List Value),
    ka_ok D cl A RT s H0 av nL S.1 S.2.1 S.2.2.1 S.2.2.2.1 ρ α Γ P ws tys H locs ls lv st → nA ≤ S.1.length → (∀ b r, Γ0 b = some r → Γ b = some r) → (∀ k, k < nA → ρ k = ρ0 k ∧ α k = α0 k) → W p l e R s m args below meth c H locs S.2.2.2.2.1 S.2.2.2.2.2 Q (F0 m pc ls st)
/-- a value that comes, with the bounds as they then are -/
def ka_r (E : ka_E) (ρ : Nat → Int) (α : Nat → Nat) (Γ : Nat → Option Nat) (E' : ka_E) (a : ka_V) (v : Value) : Prop := ∃ (ρ' : Nat → Int) (α' : Nat → Nat), (∀ k, k < E.length → ρ' k = ρ k) ∧ (∀ k, k < E.length → α' k = α k) ∧ ka_env ρ' E' ∧ E.length ≤ E'.length ∧ a.2.1 < E'.length ∧ ka_v ρ' α' Γ a v
theorem ka_P.ext {ρ : Nat → Int} {α α' : Nat → Nat} {Γ : Nat → Option Nat} {av : List Nat} {pd : List (Nat × List Nat)} {P : Nat → Nat → Prop} {n : Nat} (h : ka_P α Γ av pd P) (hq : ka_pd ρ α Γ n pd) (h2 : ∀ k, k < n → α' k = α k) : ka_P α' Γ av pd P := fun a j hp => by
  rcases h a j hp with ⟨q, g1, g2, g3⟩ | g
  · exact Or.inl ⟨q, g1, by rw [h2 _ (hq q g1).1]; exact g2, g3⟩
  · exact Or.inr g
variable {Γ0 : Nat → Option Nat} {nA : Nat} {ρ0 : Nat → Int} {α0 : Nat → Nat}
theorem ka_J.res {E E' : ka_E} {L K K' : List ka_V} {pd : List (Nat × List Nat)} {cs ss pc : Nat} {a : ka_V} {v : Value} {ρ : Nat → Int} {α : Nat → Nat} {Γ : Nat → Option Nat} {P : Nat → Nat → Prop} {ws : va_W} {tys : List (ClassId × FieldType)} {H : Heap} {locs : List Loc} {ls : Array Slot} {lv : List (Nat × Value)} {st st' : List Value}
    (k : ka_J p l e R s m args below meth c Q D cl A RT H0 av nL Γ0 nA ρ0 α0 pc (E', L, a :: K', pd, cs, ss)) (hk : ka_ok D cl A RT s H0 av nL E L K pd ρ α Γ P ws tys H locs ls lv st) (hn : nA ≤ E.length) (hΓ : ∀ b r, Γ0 b = some r → Γ b = some r) (hρ : ∀ k, k < nA → ρ k = ρ0 k ∧ α k = α0 k)
    (hK : ka_stk ρ α Γ E.length K' st') (hr : ka_r E ρ α Γ E' a v) : W p l e R s m args below meth c H locs cs ss Q (F0 m pc ls (v :: st')) := by
  obtain ⟨hE, h0, hL, hl, hst, hq, hP, hW⟩ := hk
  obtain ⟨ρ', α', g1, g2, g3, g4, g5, g6⟩ := hr
  exact k ρ' α' Γ P ws tys H locs ls lv (v :: st') ⟨g3, ⟨Nat.lt_of_lt_of_le h0.1 g4, by rw [g1 0 h0.1]; exact h0.2⟩, hL.ext g1 g2 (fun _ _ h => h) g4, hl, ⟨g5, g6, ka_stk.ext g1 g2 (fun _ _ h => h) g4 hK⟩, hq.ext g1 g2 (fun _ _ h => h) g4, hP.ext hq g2, hW⟩ (Nat.le_trans hn g4) hΓ (fun k h => ⟨(g1 k (Nat.lt_of_lt_of_le h hn)).trans (hρ k h).1, (g2 k (Nat.lt_of_lt_of_le h hn)).trans (hρ k h).2⟩)
theorem ka_r.old {E : ka_E} {ρ : Nat → Int} {α : Nat → Nat} {Γ : Nat → Option Nat} {a : ka_V} {v : Value} (hE : ka_env ρ E) (ha : a.2.1 < E.length) (hv : ka_v ρ α Γ a v) : ka_r E ρ α Γ E a v := ⟨ρ, α, fun _ _ => rfl, fun _ _ => rfl, hE, Nat.le_refl _, ha, hv⟩
theorem ka_r.new {E : ka_E} {ρ : Nat → Int} {α : Nat → Nat} {Γ : Nat → Option Nat} {t : Nat} {v : Value} {lo hi z : Int} (b : Nat) (hE : ka_env ρ E) (h1 : lo ≤ z) (h2 : z ≤ hi) (hv : ∀ (ρ : Nat → Int) (α : Nat → Nat) (n : Nat), ρ n = z → α n = b → ka_v ρ α Γ (t, n, 0) v) : ka_r E ρ α Γ (E ++ [(lo, hi)]) (t, E.length, 0) v :=
  ⟨va_up ρ E.length z, va_up α E.length b, fun k h => va_up_ne _ _ (Nat.ne_of_lt h), fun k h => va_up_ne _ _ (Nat.ne_of_lt h), hE.push h1 h2, by simp, by simp, hv _ _ _ (va_up_self _ _ _) (va_up_self _ _ _)⟩
/-- a number within bounds: as a constant, if they are one -/
def ka_mk (E : ka_E) (t : Nat) (lo hi : Int) : ka_E × ka_V := if lo = hi then (E, (t, 0, lo)) else (E ++ [(lo, hi)], (t, E.length, 0))
theorem ka_mk.i {E : ka_E} {ρ : Nat → Int} {α : Nat → Nat} {Γ : Nat → Option Nat} {lo hi : Int} {x : Int32} (hE : ka_env ρ E) (h0 : 0 < E.length ∧ ρ 0 = 0) (h1 : lo ≤ x.toInt) (h2 : x.toInt ≤ hi) : ka_r E ρ α Γ (ka_mk E 1 lo hi).1 (ka_mk E 1 lo hi).2 (.int x) := by
  unfold ka_mk
  by_cases e : lo = hi
  · rw [if_pos e]
    exact ka_r.old hE h0.1 ⟨x, rfl, by dsimp only; omega⟩
  · rw [if_neg e]
    exact ka_r.new 0 hE h1 h2 (fun ρ α n e1 _ => ⟨x, rfl, by dsimp only; omega⟩)
theorem ka_mk.lg {E : ka_E} {ρ : Nat → Int} {α : Nat → Nat} {Γ : Nat → Option Nat} {lo hi : Int} {x : Int64} (hE : ka_env ρ E) (h0 : 0 < E.length ∧ ρ 0 = 0) (h1 : lo ≤ x.toInt) (h2 : x.toInt ≤ hi) : ka_r E ρ α Γ (ka_mk E 2 lo hi).1 (ka_mk E 2 lo hi).2 (.long x) := by
  unfold ka_mk
  by_cases e : lo = hi
  · rw [if_pos e]
    exact ka_r.old hE h0.1 ⟨x, rfl, by dsimp only; omega⟩
  · rw [if_neg e]
    exact ka_r.new 0 hE h1 h2 (fun ρ α n e1 _ => ⟨x, rfl, by dsimp only; omega⟩)
end KA
def ka_any (E : ka_E) : ka_E × ka_V := ka_mk E 1 (-2147483648) 2147483647
def ka_anyl (E : ka_E) : ka_E × ka_V := ka_mk E 2 (-9223372036854775808) 9223372036854775807
def ka_iadd (E : ka_E) (a b : ka_V) : ka_E × ka_V :=
  if (-2147483648) ≤ ka_lo E a + ka_lo E b ∧ ka_hi E a + ka_hi E b ≤ 2147483647 then
    (if ka_lo E b = ka_hi E b then (E, (1, a.2.1, a.2.2 + ka_lo E b)) else if ka_lo E a = ka_hi E a then (E, (1, b.2.1, b.2.2 + ka_lo E a)) else ka_mk E 1 (ka_lo E a + ka_lo E b) (ka_hi E a + ka_hi E b))
  else ka_any E
def ka_isub (E : ka_E) (a b : ka_V) : ka_E × ka_V :=
  if (-2147483648) ≤ ka_lo E a - ka_hi E b ∧ ka_hi E a - ka_lo E b ≤ 2147483647 then
    (if ka_lo E b = ka_hi E b then (E, (1, a.2.1, a.2.2 - ka_lo E b)) else if a.2.1 = b.2.1 then (E, (1, 0, a.2.2 - b.2.2)) else ka_mk E 1 (ka_lo E a - ka_hi E b) (ka_hi E a - ka_lo E b))
  else ka_any E
section KB
variable {E : ka_E} {ρ : Nat → Int} {α : Nat → Nat} {Γ : Nat → Option Nat} {a b : ka_V} {x y : Int32}
theorem ka_iadd.ok (hE : ka_env ρ E) (h0 : 0 < E.length ∧ ρ 0 = 0) (ha : a.2.1 < E.length) (hb : b.2.1 < E.length) (ea : x.toInt = ρ a.2.1 + a.2.2) (eb : y.toInt = ρ b.2.1 + b.2.2) : ka_r E ρ α Γ (ka_iadd E a b).1 (ka_iadd E a b).2 (.int (x + y)) := by
  have h1 := hE.at a
  have h2 := hE.at b
  unfold ka_iadd
  by_cases c : (-2147483648) ≤ ka_lo E a + ka_lo E b ∧ ka_hi E a + ka_hi E b ≤ 2147483647
  · rw [if_pos c]
    have es : (x + y).toInt = x.toInt + y.toInt := ka_add32 (by omega) (by omega)
    by_cases c1 : ka_lo E b = ka_hi E b
    · rw [if_pos c1]
      exact ka_r.old hE ha ⟨x + y, rfl, by dsimp only; omega⟩
    · rw [if_neg c1]
      by_cases c2 : ka_lo E a = ka_hi E a
      · rw [if_pos c2]
        exact ka_r.old hE hb ⟨x + y, rfl, by dsimp only; omega⟩
      · rw [if_neg c2]
        exact ka_mk.i hE h0 (by omega) (by omega)
  · rw [if_neg c]
    exact ka_mk.i hE h0 (ka_i32 _).1 (ka_i32 _).2
theorem ka_isub.ok (hE : ka_env ρ E) (h0 : 0 < E.length ∧ ρ 0 = 0) (ha : a.2.1 < E.length) (ea : x.toInt = ρ a.2.1 + a.2.2) (eb : y.toInt = ρ b.2.1 + b.2.2) : ka_r E ρ α Γ (ka_isub E a b).1 (ka_isub E a b).2 (.int (x - y)) := by
  have h1 := hE.at a
  have h2 := hE.at b
  unfold ka_isub
  by_cases c : (-2147483648) ≤ ka_lo E a - ka_hi E b ∧ ka_hi E a - ka_lo E b ≤ 2147483647
  · rw [if_pos c]
    have es : (x - y).toInt = x.toInt - y.toInt := ka_sub32 (by omega) (by omega)
    by_cases c1 : ka_lo E b = ka_hi E b
    · rw [if_pos c1]
      exact ka_r.old hE ha ⟨x - y, rfl, by dsimp only; omega⟩
    · rw [if_neg c1]
      by_cases c2 : a.2.1 = b.2.1
      · rw [if_pos c2]
        rw [c2] at ea
        exact ka_r.old hE h0.1 ⟨x - y, rfl, by dsimp only; omega⟩
      · rw [if_neg c2]
        exact ka_mk.i hE h0 (by omega) (by omega)
  · rw [if_neg c]
    exact ka_mk.i hE h0 (ka_i32 _).1 (ka_i32 _).2
end KB
