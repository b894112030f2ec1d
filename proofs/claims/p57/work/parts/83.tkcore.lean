/-! ===== what states over a typed heap say of the machine's ===== -/
/-- the script's address, the texts' addresses, the cells: address and kind -/
abbrev tk_B : Type := Nat × (Nat → Nat) × List (Nat × Nat)
def tk_vn (B : tk_B) (t : Nat) (z : Int) (v : Value) : Prop := match t with
  | 1 => ∃ x : Int32, v = .int x ∧ x.toInt = z
  | 2 => ∃ x : Int64, v = .long x ∧ x.toInt = z
  | 5 => v = .ref B.1
  | 6 => v = .ref (B.2.1 z.toNat)
  | t => 10 ≤ t ∧ ((v = .null ∧ z = 0) ∨ ∃ j a : Nat, v = .ref a ∧ B.2.2[j]? = some (a, t - 10) ∧ z = (j : Int) + 1)
theorem tk_vn.ref {B : tk_B} {t : Nat} {z : Int} {v : Value} (h : 10 ≤ t) : tk_vn B t z v ↔ ((v = .null ∧ z = 0) ∨ ∃ j a : Nat, v = .ref a ∧ B.2.2[j]? = some (a, t - 10) ∧ z = (j : Int) + 1) := by
  unfold tk_vn
  split
  · omega
  · omega
  · omega
  · omega
  · exact ⟨fun q => q.2, fun q => ⟨h, q⟩⟩
def tk_v (ρ : Nat → Int) (B : tk_B) (a : tk_V) (v : Value) : Prop := tk_vn B a.1 (ρ a.2.1 + a.2.2) v
/-- more cells -/
def tk_le (B B' : tk_B) : Prop := B'.1 = B.1 ∧ B'.2.1 = B.2.1 ∧ ∃ tl : List (Nat × Nat), B'.2.2 = B.2.2 ++ tl
theorem tk_le.rf (B : tk_B) : tk_le B B := ⟨rfl, rfl, [], by simp⟩
theorem tk_le.tr {A B C : tk_B} (h1 : tk_le A B) (h2 : tk_le B C) : tk_le A C := by
  obtain ⟨a1, a2, x, a3⟩ := h1
  obtain ⟨b1, b2, y, b3⟩ := h2
  exact ⟨b1.trans a1, b2.trans a2, x ++ y, by rw [b3, a3, List.append_assoc]⟩
theorem tk_le.at {B B' : tk_B} (h : tk_le B B') {j : Nat} {q : Nat × Nat} (hq : B.2.2[j]? = some q) : B'.2.2[j]? = some q := by
  obtain ⟨-, -, tl, e⟩ := h
  rw [e, List.getElem?_append_left (List.getElem?_eq_some_iff.mp hq).1]
  exact hq
theorem tk_vn.up {B B' : tk_B} (hB : tk_le B B') {t : Nat} {z : Int} {v : Value} (h : tk_vn B t z v) : tk_vn B' t z v := by
  unfold tk_vn at h ⊢
  split at h
  · exact h
  · exact h
  · rw [hB.1]; exact h
  · rw [hB.2.1]; exact h
  · obtain ⟨h1, h2⟩ := h
    refine ⟨h1, ?_⟩
    rcases h2 with h2 | ⟨j, a, e1, e2, e3⟩
    · exact Or.inl h2
    · exact Or.inr ⟨j, a, e1, hB.at e2, e3⟩
theorem tk_vn.cat1 {B : tk_B} {t : Nat} {z : Int} {v : Value} (h : tk_vn B t z v) (ht : t ≠ 2) : v.category = 1 := by
  unfold tk_vn at h
  split at h
  · obtain ⟨x, rfl, -⟩ := h; rfl
  · exact absurd rfl ht
  · subst h; rfl
  · subst h; rfl
  · rcases h.2 with ⟨rfl, -⟩ | ⟨j, a, rfl, -⟩ <;> rfl
theorem tk_vn.cat2 {B : tk_B} {z : Int} {v : Value} (h : tk_vn B 2 z v) : v.category = 2 := by
  obtain ⟨x, rfl, -⟩ := h; rfl
def tk_loc (ρ : Nat → Int) (B : tk_B) (n : Nat) (L : List tk_V) (lv : List (Nat × Value)) : Prop := ∀ (i : Nat) (a : tk_V), L[i]? = some a → a.1 ≠ 0 → a.2.1 < n ∧ ∃ v : Value, (i, v) ∈ lv ∧ tk_v ρ B a v
def tk_stk (ρ : Nat → Int) (B : tk_B) (n : Nat) : List tk_V → List Value → Prop
  | [], [] => True
  | a :: L, v :: st => a.2.1 < n ∧ tk_v ρ B a v ∧ tk_stk ρ B n L st
  | _, _ => False
theorem tk_v.ext {ρ ρ' : Nat → Int} {B B' : tk_B} {n : Nat} {a : tk_V} {v : Value} (h : tk_v ρ B a v) (ha : a.2.1 < n) (h1 : ∀ k, k < n → ρ' k = ρ k) (hB : tk_le B B') : tk_v ρ' B' a v := by
  unfold tk_v
  rw [h1 _ ha]
  exact tk_vn.up hB h
theorem tk_loc.ext {ρ ρ' : Nat → Int} {B B' : tk_B} {n n' : Nat} {L : List tk_V} {lv : List (Nat × Value)} (h : tk_loc ρ B n L lv) (h1 : ∀ k, k < n → ρ' k = ρ k) (hB : tk_le B B') (hn : n ≤ n') : tk_loc ρ' B' n' L lv := fun i a ha ht => by
  obtain ⟨g1, v, g2, g3⟩ := h i a ha ht
  exact ⟨Nat.lt_of_lt_of_le g1 hn, v, g2, g3.ext g1 h1 hB⟩
theorem tk_stk.ext {ρ ρ' : Nat → Int} {B B' : tk_B} {n n' : Nat} (h1 : ∀ k, k < n → ρ' k = ρ k) (hB : tk_le B B') (hn : n ≤ n') : ∀ {L : List tk_V} {st : List Value}, tk_stk ρ B n L st → tk_stk ρ' B' n' L st
  | [], [], _ => trivial
  | _ :: _, _ :: _, h => ⟨Nat.lt_of_lt_of_le h.1 hn, h.2.1.ext h.1 h1 hB, tk_stk.ext h1 hB hn h.2.2⟩
  | [], _ :: _, h => absurd h id
  | _ :: _, [], h => absurd h id
theorem tk_stk.uncons {ρ : Nat → Int} {B : tk_B} {n : Nat} {a : tk_V} {K : List tk_V} {st : List Value} (h : tk_stk ρ B n (a :: K) st) : ∃ (v : Value) (st' : List Value), st = v :: st' ∧ a.2.1 < n ∧ tk_v ρ B a v ∧ tk_stk ρ B n K st' := by
  cases st with
  | nil => exact absurd h id
  | cons v st' => exact ⟨v, st', rfl, h.1, h.2.1, h.2.2⟩
/-- what stands at a place of a cell -/
def tk_pl (e : va_E) (j : Nat) : Option Value := match e with
  | .inr o => o.2[j]?
  | .inl a => if j < a.2.1 then (match a.2.2 with
    | .inl h => some (.int (h j))
    | .inr (.inl h) => some (.long (h j))
    | .inr (.inr (.inr (.inr h))) => some (va_rf (h j))
    | _ => none) else none
/-- what a place may hold -/
def tk_t (B : tk_B) (f : tk_F) (v : Value) : Prop := ∃ z : Int, f.2.1 ≤ z ∧ z ≤ f.2.2 ∧ tk_vn B f.1 z v
theorem tk_t.up {B B' : tk_B} (hB : tk_le B B') {f : tk_F} {v : Value} (h : tk_t B f v) : tk_t B' f v := by
  obtain ⟨z, h1, h2, h3⟩ := h
  exact ⟨z, h1, h2, h3.up hB⟩
/-- a cell, as its kind says -/
def tk_e (tys : List (ClassId × FieldType)) (B : tk_B) (g : tk_G) (e : va_E) : Prop := match g.1 with
  | 0 => ∃ fs : List Value, e = .inr (g.2.1, fs) ∧ fs.length = g.2.2.2.2.2.2.1.length ∧ ∀ (j : Nat) (al : List tk_F) (v : Value), g.2.2.2.2.2.2.1[j]? = some al → fs[j]? = some v → ∃ f ∈ al, tk_t B f v
  | 1 => ∃ (cA : ClassId) (t0 : Nat) (h : Nat → Int32), e = .inl (cA, g.2.2.2.1, .inl h) ∧ tys[t0]? = some (cA, g.2.2.1) ∧ ∀ j : Nat, j < g.2.2.2.1 → tk_t B (g.2.2.2.2.2.1.getD j g.2.2.2.2.1) (.int (h j))
  | 2 => ∃ (cA : ClassId) (t0 : Nat) (h : Nat → Int64), e = .inl (cA, g.2.2.2.1, .inr (.inl h)) ∧ tys[t0]? = some (cA, .long) ∧ ∀ j : Nat, j < g.2.2.2.1 → tk_t B (g.2.2.2.2.2.1.getD j g.2.2.2.2.1) (.long (h j))
  | 3 => ∃ (cA : ClassId) (t0 : Nat) (h : Nat → Option Nat), e = .inl (cA, g.2.2.2.1, .inr (.inr (.inr (.inr h)))) ∧ tys[t0]? = some (cA, g.2.2.1) ∧ ∀ j : Nat, j < g.2.2.2.1 → tk_t B (g.2.2.2.2.2.1.getD j g.2.2.2.2.1) (va_rf (h j))
  | _ => False
theorem tk_e.up {B B' : tk_B} (hB : tk_le B B') {tys tys' : List (ClassId × FieldType)} (ht : ∀ (k : Nat) (q : ClassId × FieldType), tys[k]? = some q → tys'[k]? = some q) {g : tk_G} {e : va_E} (h : tk_e tys B g e) : tk_e tys' B' g e := by
  unfold tk_e at h ⊢
  split at h
  · obtain ⟨fs, e1, e2, e3⟩ := h
    refine ⟨fs, e1, e2, fun j al v ha hv => ?_⟩
    obtain ⟨f, hf, h2⟩ := e3 j al v ha hv
    exact ⟨f, hf, h2.up hB⟩
  · obtain ⟨cA, t0, k, e1, e2, e4⟩ := h
    exact ⟨cA, t0, k, e1, ht _ _ e2, fun j hj => (e4 j hj).up hB⟩
  · obtain ⟨cA, t0, k, e1, e2, e4⟩ := h
    exact ⟨cA, t0, k, e1, ht _ _ e2, fun j hj => (e4 j hj).up hB⟩
  · obtain ⟨cA, t0, k, e1, e2, e4⟩ := h
    exact ⟨cA, t0, k, e1, ht _ _ e2, fun j hj => (e4 j hj).up hB⟩
  · exact h
/-- all cells -/
def tk_C (KT : Nat → tk_G) (tys : List (ClassId × FieldType)) (B : tk_B) (ws : va_W) : Prop := ws.length = B.2.2.length ∧ ∀ (j a κ : Nat), B.2.2[j]? = some (a, κ) → ∃ e : va_E, ws[j]? = some (a, e) ∧ tk_e tys B (KT κ) e
/-- a fact: the cell with number zo holds at zi what tv, zv say -/
def tk_fa (B : tk_B) (ws : va_W) (to : Nat) (zo zi : Int) (tv : Nat) (zv : Int) : Prop := ∃ (j a : Nat) (e : va_E) (w : Value), 10 ≤ to ∧ B.2.2[j]? = some (a, to - 10) ∧ zo = (j : Int) + 1 ∧ ws[j]? = some (a, e) ∧ 0 ≤ zi ∧ tk_pl e zi.toNat = some w ∧ tk_vn B tv zv w
def tk_mem (ρ : Nat → Int) (B : tk_B) (n : Nat) (ws : va_W) (M : tk_M) : Prop := ∀ f ∈ M, (f.1.2.1 < n ∧ f.2.1.2.1 < n ∧ f.2.2.2.1 < n) ∧ tk_fa B ws f.1.1 (ρ f.1.2.1 + f.1.2.2) (ρ f.2.1.2.1 + f.2.1.2.2) f.2.2.1 (ρ f.2.2.2.1 + f.2.2.2.2)
theorem tk_mem.ext {ρ ρ' : Nat → Int} {B : tk_B} {n n' : Nat} {ws : va_W} {M : tk_M} (h : tk_mem ρ B n ws M) (h1 : ∀ k, k < n → ρ' k = ρ k) (hn : n ≤ n') : tk_mem ρ' B n' ws M := fun f hf => by
  obtain ⟨⟨a1, a2, a3⟩, a4⟩ := h f hf
  refine ⟨⟨by omega, by omega, by omega⟩, ?_⟩
  rw [h1 _ a1, h1 _ a2, h1 _ a3]
  exact a4
theorem tk_mem.nil {ρ : Nat → Int} {B : tk_B} {n : Nat} {ws : va_W} : tk_mem ρ B n ws [] := fun _ h => absurd h List.not_mem_nil
theorem tk_mem.cons {ρ : Nat → Int} {B : tk_B} {n : Nat} {ws : va_W} {f : tk_V × tk_V × tk_V} {M : tk_M} (h1 : (f.1.2.1 < n ∧ f.2.1.2.1 < n ∧ f.2.2.2.1 < n) ∧ tk_fa B ws f.1.1 (ρ f.1.2.1 + f.1.2.2) (ρ f.2.1.2.1 + f.2.1.2.2) f.2.2.1 (ρ f.2.2.2.1 + f.2.2.2.2)) (h : tk_mem ρ B n ws M) : tk_mem ρ B n ws (f :: M) := fun g hg => by
  rcases List.mem_cons.mp hg with rfl | hg
  · exact h1
  · exact h g hg
/-- places that may be written: kind, from, to -/
def tk_iF (F : List (Nat × Nat × Nat)) (κ i : Nat) : Bool := F.any (fun q => Nat.beq q.1 κ && Nat.ble q.2.1 i && Nat.ble i q.2.2)
/-- what is not among them is as it was -/
def tk_fr (F : List (Nat × Nat × Nat)) (B0 : tk_B) (ws0 ws : va_W) : Prop := ∀ (j a κ : Nat), B0.2.2[j]? = some (a, κ) → ∃ e0 e : va_E, ws0[j]? = some (a, e0) ∧ ws[j]? = some (a, e) ∧ ∀ i : Nat, tk_iF F κ i = false → tk_pl e i = tk_pl e0 i
def tk_W (D : va_G) (cl : List vw_C) (A : Nat → Prop) (s : State) (H0 : Heap) (KT : Nat → tk_G) (F : List (Nat × Nat × Nat)) (B0 : tk_B) (ws0 : va_W) (B : tk_B) (ws : va_W) (tys : List (ClassId × FieldType)) (H : Heap) (locs : List Loc) (cs : Nat) : Prop :=
  va_K D cl tys s ∧ va_P D cl ws H ∧ va_D A ws ∧ va_S A H0 H locs ∧ tk_C KT tys B ws ∧ tk_fr F B0 ws0 ws ∧ tk_le B0 B ∧ B.2.2.length ≤ B0.2.2.length + cs
def tk_ag (nA : Nat) (ρ0 : Nat → Int) (n : Nat) (ρ : Nat → Int) : Prop := nA ≤ n ∧ ∀ k, k < nA → ρ k = ρ0 k
theorem tk_ag.ext {nA n n' : Nat} {ρ0 ρ ρ' : Nat → Int} (h : tk_ag nA ρ0 n ρ) (h1 : ∀ k, k < n → ρ' k = ρ k) (hn : n ≤ n') : tk_ag nA ρ0 n' ρ' := ⟨Nat.le_trans h.1 hn, fun k hk => (h1 k (Nat.lt_of_lt_of_le hk h.1)).trans (h.2 k hk)⟩
section TB
variable {p : Program} {l : Launch} {e : Env} {R : Room} {s : State} {m : MethodId} {args : Array Value} {below : List Frame} {meth : Method} {c : Code} {Q : State → Prop}
variable {cc : ByteArray} {nL : Nat} {D : va_G} {cl : List vw_C} {A : Nat → Prop} {H0 : Heap} {KT : Nat → tk_G} {F : List (Nat × Nat × Nat)} {B0 : tk_B} {ws0 : va_W}
/-- a state of the executor, and the machine's -/
def tk_ok (D : va_G) (cl : List vw_C) (A : Nat → Prop) (s : State) (H0 : Heap) (KT : Nat → tk_G) (F : List (Nat × Nat × Nat)) (B0 : tk_B) (ws0 : va_W) (nL : Nat) (S : tk_S) (ρ : Nat → Int) (B : tk_B) (ws : va_W) (tys : List (ClassId × FieldType)) (H : Heap) (locs : List Loc) (ls : Array Slot) (lv : List (Nat × Value)) (st : List Value) : Prop :=
  tk_env ρ S.1 ∧ (0 < S.1.length ∧ ρ 0 = 0) ∧ tk_loc ρ B S.1.length S.2.1 lv ∧ lv_has ls nL lv ∧ tk_stk ρ B S.1.length S.2.2.1 st ∧ tk_mem ρ B S.1.length ws S.2.2.2.1 ∧ tk_W D cl A s H0 KT F B0 ws0 B ws tys H locs S.2.2.2.2.1
/-- from every such state the machine comes to Q -/
def tk_J (p : Program) (l : Launch) (e : Env) (R : Room) (s : State) (m : MethodId) (args : Array Value) (below : List Frame) (meth : Method) (c : Code) (Q : State → Prop) (D : va_G) (cl : List vw_C) (A : Nat → Prop) (H0 : Heap) (KT : Nat → tk_G) (F : List (Nat × Nat × Nat)) (B0 : tk_B) (ws0 : va_W) (nL : Nat) (nA : Nat) (ρ0 : Nat → Int) (pc : Nat) (S : tk_S) : Prop :=
  ∀ (ρ : Nat → Int) (B : tk_B) (ws : va_W) (tys : List (ClassId × FieldType)) (H : Heap) (locs : List Loc) (ls : Array Slot) (lv : List (Nat × Value)) (st : List Value),
    tk_ok D cl A s H0 KT F B0 ws0 nL S ρ B ws tys H locs ls lv st → tk_ag nA ρ0 S.1.length ρ → W p l e R s m args below meth c H locs S.2.2.2.2.1 S.2.2.2.2.2 Q (F0 m pc ls st)
variable {nA : Nat} {ρ0 : Nat → Int}
variable {E E' : tk_E} {L L' K K' : List tk_V} {M M' : tk_M} {cs ss pc : Nat} {ρ ρ' : Nat → Int} {B : tk_B} {ws : va_W} {tys : List (ClassId × FieldType)} {H : Heap} {locs : List Loc} {ls ls' : Array Slot} {lv lv' : List (Nat × Value)} {st st' : List Value} {a : tk_V} {v : Value}
/-- new symbols, locals, stack, facts, over the same heap -/
theorem tk_J.mv (k : tk_J p l e R s m args below meth c Q D cl A H0 KT F B0 ws0 nL nA ρ0 pc (E', L', K', M', cs, ss)) (hk : tk_ok D cl A s H0 KT F B0 ws0 nL (E, L, K, M, cs, ss) ρ B ws tys H locs ls lv st) (hg : tk_ag nA ρ0 E.length ρ)
    (g1 : ∀ k, k < E.length → ρ' k = ρ k) (g3 : tk_env ρ' E') (g4 : E.length ≤ E'.length) (hL : tk_loc ρ' B E'.length L' lv') (hl : lv_has ls' nL lv') (hK : tk_stk ρ' B E'.length K' st') (hM : tk_mem ρ' B E'.length ws M') : W p l e R s m args below meth c H locs cs ss Q (F0 m pc ls' st') := by
  obtain ⟨hE, h0, -, -, -, -, hW⟩ := hk
  exact k ρ' B ws tys H locs ls' lv' st' ⟨g3, ⟨Nat.lt_of_lt_of_le h0.1 g4, by rw [g1 0 h0.1]; exact h0.2⟩, hL, hl, hK, hM, hW⟩ (hg.ext g1 g4)
/-- a number comes onto the stack -/
theorem tk_J.res {q : tk_E × tk_P} {t : Nat} {z : Int} (k : tk_J p l e R s m args below meth c Q D cl A H0 KT F B0 ws0 nL nA ρ0 pc (q.1, L, (t, q.2) :: K', M, cs, ss)) (hk : tk_ok D cl A s H0 KT F B0 ws0 nL (E, L, K, M, cs, ss) ρ B ws tys H locs ls lv st) (hg : tk_ag nA ρ0 E.length ρ)
    (hK : tk_stk ρ B E.length K' st') (hr : tk_r E ρ q z) (hv : tk_vn B t z v) : W p l e R s m args below meth c H locs cs ss Q (F0 m pc ls (v :: st')) := by
  obtain ⟨ρ', g1, g3, g4, g5, g6⟩ := hr
  exact tk_J.mv k hk hg g1 g3 g4 (hk.2.2.1.ext g1 (tk_le.rf B) g4) hk.2.2.2.1 ⟨g5, by unfold tk_v; dsimp only; rw [g6]; exact hv, tk_stk.ext g1 (tk_le.rf B) g4 hK⟩ (hk.2.2.2.2.2.1.ext g1 g4)
theorem tk_J.go (k : tk_J p l e R s m args below meth c Q D cl A H0 KT F B0 ws0 nL nA ρ0 pc (E, L, K', M, cs, ss)) (hk : tk_ok D cl A s H0 KT F B0 ws0 nL (E, L, K, M, cs, ss) ρ B ws tys H locs ls lv st) (hg : tk_ag nA ρ0 E.length ρ)
    (hK : tk_stk ρ B E.length K' st') : W p l e R s m args below meth c H locs cs ss Q (F0 m pc ls st') :=
  tk_J.mv k hk hg (fun _ _ => rfl) hk.1 (Nat.le_refl _) hk.2.2.1 hk.2.2.2.1 hK hk.2.2.2.2.2.1
end TB
theorem tk_load.of {L : List tk_V} {t i : Nat} {a : tk_V} (h : tk_load L t i = some a) : L[i]? = some a ∧ a.1 = t := by
  unfold tk_load at h
  split at h
  · split at h
    · rename_i hq
      cases h; exact ⟨by assumption, tk_bq hq⟩
    · cases h
  · cases h
theorem tk_loadr.of {L : List tk_V} {i : Nat} {a : tk_V} (h : tk_loadr L i = some a) : L[i]? = some a ∧ (10 ≤ a.1 ∨ a.1 = 5 ∨ a.1 = 6) := by
  unfold tk_loadr at h
  split at h
  · split at h
    · rename_i hq
      cases h
      unfold tk_isr at hq
      rw [Bool.or_eq_true, Bool.or_eq_true] at hq
      refine ⟨by assumption, ?_⟩
      rcases hq with (hq | hq) | hq
      · exact Or.inl (Nat.le_of_ble_eq_true hq)
      · exact Or.inr (Or.inl (tk_bq hq))
      · exact Or.inr (Or.inr (tk_bq hq))
    · cases h
  · cases h
theorem tk_st1.at {L : List tk_V} {i j : Nat} {a b : tk_V} (h : (tk_st1 L i a)[j]? = some b) (hb : b.1 ≠ 0) : (j = i ∧ b = a) ∨ (j ≠ i ∧ L[j]? = some b ∧ (j + 1 = i → b.1 ≠ 2)) := by
  unfold tk_st1 at h
  by_cases e : j = i
  · subst e
    left
    refine ⟨rfl, ?_⟩
    have hz : ∀ Z : List tk_V, (Z.set j a)[j]? = some b → b = a := by
      intro Z hZ
      rw [List.getElem?_set_self'] at hZ
      cases hq : Z[j]? with
      | none => rw [hq] at hZ; cases hZ
      | some z => rw [hq] at hZ; cases hZ; rfl
    exact hz _ h
  · rw [List.getElem?_set_ne (Ne.symm e)] at h
    right
    refine ⟨e, ?_⟩
    split at h
    · exact ⟨h, fun q => by omega⟩
    · rename_i i2
      split at h
      · rename_i b2 hb2
        split at h
        · rename_i h2
          by_cases e2 : j = i2
          · subst e2
            rw [List.getElem?_set_self'] at h
            rw [hb2] at h
            cases h
            exact absurd rfl hb
          · rw [List.getElem?_set_ne (Ne.symm e2)] at h
            exact ⟨h, fun q => by omega⟩
        · rename_i h2
          refine ⟨h, fun q => ?_⟩
          have : j = i2 := by omega
          subst this
          rw [hb2] at h
          cases h
          intro q2
          rw [q2] at h2
          exact h2 rfl
      · rename_i hb2
        refine ⟨h, fun q => ?_⟩
        have : j = i2 := by omega
        subst this
        rw [hb2] at h
        cases h
theorem tk_loc.st1 {ρ : Nat → Int} {B : tk_B} {n i : Nat} {L : List tk_V} {lv : List (Nat × Value)} {a : tk_V} {v : Value} (h : tk_loc ρ B n L lv) (ha : a.2.1 < n) (hv : tk_v ρ B a v) : tk_loc ρ B n (tk_st1 L i a) ((i, v) :: lv.filter (fun q => !(q.1 == i) && !(q.1 + 1 == i && q.2.category == 2))) := by
  intro j b hj hb
  rcases tk_st1.at hj hb with ⟨e1, e2⟩ | ⟨e1, e2, e3⟩
  · subst e1; subst e2
    exact ⟨ha, v, List.mem_cons_self, hv⟩
  · obtain ⟨g1, w, g2, g3⟩ := h j b e2 hb
    refine ⟨g1, w, List.mem_cons_of_mem _ (List.mem_filter.mpr ⟨g2, ?_⟩), g3⟩
    by_cases q : j + 1 = i
    · have := tk_vn.cat1 g3 (e3 q)
      simp [e1, this]
    · simp [e1, q]
theorem tk_loc.st2 {ρ : Nat → Int} {B : tk_B} {n i : Nat} {L : List tk_V} {lv : List (Nat × Value)} {a : tk_V} {v : Value} (h : tk_loc ρ B n L lv) (ha : a.2.1 < n) (hv : tk_v ρ B a v) : tk_loc ρ B n ((tk_st1 L i a).set (i + 1) (0, 0, 0)) ((i, v) :: lv.filter (fun q => !(q.1 == i) && (!(q.1 == i + 1) && !(q.1 + 1 == i && q.2.category == 2)))) := by
  intro j b hj hb
  have hji : j ≠ i + 1 := by
    intro q
    subst q
    rw [List.getElem?_set_self'] at hj
    cases hq : (tk_st1 L i a)[i + 1]? with
    | none => rw [hq] at hj; cases hj
    | some z => rw [hq] at hj; cases hj; exact hb rfl
  rw [List.getElem?_set_ne (Ne.symm hji)] at hj
  rcases tk_st1.at hj hb with ⟨e1, e2⟩ | ⟨e1, e2, e3⟩
  · subst e1; subst e2
    exact ⟨ha, v, List.mem_cons_self, hv⟩
  · obtain ⟨g1, w, g2, g3⟩ := h j b e2 hb
    refine ⟨g1, w, List.mem_cons_of_mem _ (List.mem_filter.mpr ⟨g2, ?_⟩), g3⟩
    by_cases q : j + 1 = i
    · have := tk_vn.cat1 g3 (e3 q)
      simp [e1, hji, this]
    · simp [e1, hji, q]
-- ints and longs
theorem tk_R1 (x : Int32) : tk_Rl 1 ≤ x.toInt ∧ x.toInt ≤ tk_Rh 1 := kc_i32 x
theorem tk_R2 (x : Int64) : tk_Rl 2 ≤ x.toInt ∧ x.toInt ≤ tk_Rh 2 := kc_i64 x
theorem tk_add64 {x y : Int64} (h1 : -9223372036854775808 ≤ x.toInt + y.toInt) (h2 : x.toInt + y.toInt ≤ 9223372036854775807) : (x + y).toInt = x.toInt + y.toInt := by
  rw [Int64.toInt_add]
  exact Int.bmod_eq_of_le (by omega) (by omega)
theorem tk_sub64 {x y : Int64} (h1 : -9223372036854775808 ≤ x.toInt - y.toInt) (h2 : x.toInt - y.toInt ≤ 9223372036854775807) : (x - y).toInt = x.toInt - y.toInt := by
  rw [Int64.toInt_sub]
  exact Int.bmod_eq_of_le (by omega) (by omega)
theorem tk_mul64 {x y : Int64} (h1 : -9223372036854775808 ≤ x.toInt * y.toInt) (h2 : x.toInt * y.toInt ≤ 9223372036854775807) : (x * y).toInt = x.toInt * y.toInt := by
  rw [Int64.toInt_mul]
  exact Int.bmod_eq_of_le (by omega) (by omega)
section TC
variable {ρ : Nat → Int} {E : tk_E} {a b : tk_P} {x y : Int32}
theorem tk_iadd (h : tk_env ρ E) (h0 : 0 < E.length ∧ ρ 0 = 0) (ha : a.1 < E.length) (hb : b.1 < E.length) (ex : x.toInt = ρ a.1 + a.2) (ey : y.toInt = ρ b.1 + b.2) : tk_r E ρ (tk_add 1 E a b) (x + y).toInt := tk_add.ok h h0 ha hb ex ey (tk_R1 _) (fun h1 h2 => kc_add32 h1 h2)
theorem tk_isub (h : tk_env ρ E) (h0 : 0 < E.length ∧ ρ 0 = 0) (ha : a.1 < E.length) (hb : b.1 < E.length) (ex : x.toInt = ρ a.1 + a.2) (ey : y.toInt = ρ b.1 + b.2) : tk_r E ρ (tk_sub 1 E a b) (x - y).toInt := tk_sub.ok h h0 ha hb ex ey (tk_R1 _) (fun h1 h2 => kc_sub32 h1 h2)
theorem tk_imul (h : tk_env ρ E) (h0 : 0 < E.length ∧ ρ 0 = 0) (ex : x.toInt = ρ a.1 + a.2) (ey : y.toInt = ρ b.1 + b.2) : tk_r E ρ (tk_mul 1 E a b) (x * y).toInt := tk_mul.ok h h0 ex ey (tk_R1 _) (fun h1 h2 h3 => kc_mul32 (by have := Int.mul_nonneg h1 h2; omega) h3)
theorem tk_idiv (h : tk_env ρ E) (h0 : 0 < E.length ∧ ρ 0 = 0) (ex : x.toInt = ρ a.1 + a.2) (ey : y.toInt = ρ b.1 + b.2) : tk_r E ρ (tk_div 1 E a b) (x / y).toInt := by
  refine tk_div.ok h h0 ex ey (tk_R1 _) (fun h1 h2 => ?_)
  obtain ⟨j, hj, e1, e2⟩ := kc_nn h1
  obtain ⟨k, hk, e3, e4⟩ := kc_nn (x := y) (by omega)
  rw [e1, e3, pk_div hj (by omega) hk, nI_toInt (Nat.lt_of_le_of_lt (Nat.div_le_self _ _) hj), nI_toInt hj, nI_toInt hk]
  rfl
theorem tk_irem (h : tk_env ρ E) (h0 : 0 < E.length ∧ ρ 0 = 0) (hb : b.1 < E.length) (ex : x.toInt = ρ a.1 + a.2) (ey : y.toInt = ρ b.1 + b.2) : tk_r E ρ (tk_rem 1 E a b) (x - x / y * y).toInt := by
  refine tk_rem.ok h h0 hb ex ey (tk_R1 _) (fun h1 h2 => ?_)
  obtain ⟨j, hj, e1, e2⟩ := kc_nn h1
  obtain ⟨k, hk, e3, e4⟩ := kc_nn (x := y) (by omega)
  have : j % k < k := Nat.mod_lt _ (by omega)
  rw [e1, e3, pk_rem hj (by omega) hk, nI_toInt (by omega), nI_toInt hj, nI_toInt hk]
  rfl
theorem tk_and32 (x y : Int32) (h : 0 ≤ x.toInt) : 0 ≤ (x &&& y).toInt ∧ (x &&& y).toInt ≤ x.toInt := by
  rw [Int32.and_comm]
  exact kc_and_le y x h
theorem tk_iand (h : tk_env ρ E) (h0 : 0 < E.length ∧ ρ 0 = 0) (hb : b.1 < E.length) (ex : x.toInt = ρ a.1 + a.2) (ey : y.toInt = ρ b.1 + b.2) : tk_r E ρ (tk_and 1 E a b) (x &&& y).toInt :=
  tk_and.ok h h0 hb ex ey (tk_R1 _) (fun _ => by rw [Int32.ofInt_toInt, Int32.ofInt_toInt]) (fun h1 => tk_and32 x y h1) (fun h1 => kc_and_le x y h1)
theorem tk_shift {o : Nat} (h : tk_env ρ E) (h0 : 0 < E.length ∧ ρ 0 = 0) (ex : x.toInt = ρ a.1 + a.2) (ey : y.toInt = ρ b.1 + b.2) : tk_r E ρ (tk_shi o E a b) (tk_bit o x y).toInt := by
  have hA := h.at a
  have hB := h.at b
  rw [← ex] at hA
  rw [← ey] at hB
  unfold tk_shi
  split
  · rename_i hc
    rw [Bool.and_eq_true] at hc
    have c1 := tk_con.eq hc.1
    have c2 := tk_con.eq hc.2
    refine tk_r.old h h0.1 ?_
    dsimp only
    rw [h0.2, show tk_lo E a = x.toInt by omega, show tk_lo E b = y.toInt by omega, Int32.ofInt_toInt, Int32.ofInt_toInt]
    omega
  · split
    · split
      · rename_i hc
        obtain ⟨g1, g2⟩ := tk_or_le (x := x) (y := y) (by omega) (by omega) hA.2 hB.2
        exact tk_mk.ok h h0 g1 g2
      · exact tk_any.ok h h0 (tk_R1 _)
    · exact tk_any.ok h h0 (tk_R1 _)
    · split
      · rename_i hc
        obtain ⟨c0, c3, c4⟩ := hc
        rw [Bool.and_eq_true] at c0
        have c1 := tk_con.eq c0.1
        have c2 := of_decide_eq_true c0.2
        have e1 : x = 1 := by
          apply Int32.toInt_inj.mp
          show x.toInt = 1
          omega
        have hy := tk_shl1 ⟨y.toInt.toNat, by omega⟩
        dsimp only at hy
        rw [show ((y.toInt.toNat : Nat) : Int) = y.toInt by omega, Int32.ofInt_toInt] at hy
        show tk_r E ρ _ (x <<< (y &&& 31)).toInt
        rw [e1, hy]
        have mono : ∀ p q : Nat, p ≤ q → (2 : Int) ^ p ≤ (2 : Int) ^ q := fun p q hpq => by
          have := Nat.pow_le_pow_right (show 0 < 2 by decide) hpq
          have c1 : ((2 ^ p : Nat) : Int) = (2 : Int) ^ p := by simp
          have c2 : ((2 ^ q : Nat) : Int) = (2 : Int) ^ q := by simp
          omega
        exact tk_mk.ok h h0 (mono _ _ (by omega)) (mono _ _ (by omega))
      · exact tk_any.ok h h0 (tk_R1 _)
    · show tk_r E ρ _ (x >>> (y &&& 31)).toInt
      split
      · have es := tk_shr x (y &&& 31)
        have hpos : ∀ n : Nat, (0 : Int) < 2 ^ n := fun n => Int.pow_pos (by decide)
        split
        · rename_i hc
          obtain ⟨c1, c2, c3⟩ := hc
          have c1 := tk_con.eq c1
          have hn := tk_shrN ⟨y.toInt.toNat, by omega⟩
          dsimp only at hn
          rw [show ((y.toInt.toNat : Nat) : Int) = y.toInt by omega, Int32.ofInt_toInt] at hn
          rw [hn, BitVec.toNat_ofNat, Nat.mod_eq_of_lt (by omega)] at es
          rw [es, show (tk_lo E b).toNat = y.toInt.toNat by omega]
          exact tk_mk.ok h h0 (Int.ediv_le_ediv (hpos _) hA.1) (Int.ediv_le_ediv (hpos _) hA.2)
        · rw [es]
          refine tk_mk.ok h h0 (Int.ediv_nonneg (by omega) (Int.le_of_lt (hpos _))) ?_
          have := Int.ediv_le_self (a := x.toInt) (2 ^ ((y &&& 31).toBitVec.smod 32).toNat) (by omega)
          omega
      · exact tk_any.ok h h0 (tk_R1 _)
    · exact tk_any.ok h h0 (tk_R1 _)
end TC
