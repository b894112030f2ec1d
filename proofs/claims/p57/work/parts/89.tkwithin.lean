/-! ===== a state that is one of a wider one's ===== -/
/-- 0 a + c, 1 a + b + c, 2 a - b + c -/
abbrev tk_Lx : Type := Nat × Nat × Nat × Int
/-- a wider state: new symbols, locals, stack, facts; a value that rises (or falls) from round to round -/
abbrev tk_A : Type := tk_E × List tk_V × List tk_V × tk_M × tk_P × Bool
def tk_lx (ρ : Nat → Int) (x : tk_Lx) : Int := match x.1 with
  | 0 => ρ x.2.1 + x.2.2.2
  | 1 => ρ x.2.1 + ρ x.2.2.1 + x.2.2.2
  | _ => ρ x.2.1 - ρ x.2.2.1 + x.2.2.2
def tk_lxB (E : tk_E) (x : tk_Lx) : Int × Int := match x.1 with
  | 0 => ((tk_at E x.2.1).1 + x.2.2.2, (tk_at E x.2.1).2.1 + x.2.2.2)
  | 1 => ((tk_B1 E x.2.1 x.2.2.1).1 + x.2.2.2, (tk_B1 E x.2.1 x.2.2.1).2 + x.2.2.2)
  | _ => ((tk_B2 E x.2.1 x.2.2.1).1 + x.2.2.2, (tk_B2 E x.2.1 x.2.2.1).2 + x.2.2.2)
/-- a number of the wider state, in the narrower -/
def tk_sb (n0 : Nat) (xs : List tk_Lx) (b : tk_P) : Option tk_P := if Nat.ble (b.1 + 1) n0 = true then some b else match xs[b.1 - n0]? with
  | some (0, a, _, c) => some (a, c + b.2)
  | _ => none
def tk_pos (k : Nat) : List tk_V → List tk_V → Option tk_P
  | b :: bs, a :: as => if (Nat.beq b.2.1 k && decide (b.2.2 = 0) && !(Nat.beq b.1 0)) = true then some a.2 else tk_pos k bs as
  | _, _ => none
def tk_posM (n0 : Nat) (xs : List tk_Lx) (E : tk_E) (M : tk_M) (k : Nat) : tk_M → Option tk_P
  | [] => none
  | f :: fs => if (Nat.beq f.2.2.2.1 k && decide (f.2.2.2.2 = 0)) = true then (match tk_sb n0 xs f.1.2, tk_sb n0 xs f.2.1.2 with
    | some po, some pi => (tk_mf E (f.1.1, po) (f.2.1.1, pi) M).map (fun v => v.2)
    | _, _ => none) else tk_posM n0 xs E M k fs
def tk_ld (n0 : Nat) (xs : List tk_Lx) (e : tk_N) : Option tk_Lx := match tk_sb n0 xs (e.2.2.2.1, 0), tk_sb n0 xs (e.2.2.2.2.1, 0) with
  | some pa, some pb => if Nat.beq e.2.2.1 1 = true then some (1, pa.1, pb.1, e.2.2.2.2.2 + pa.2 + pb.2) else some (2, pa.1, pb.1, e.2.2.2.2.2 + pa.2 - pb.2)
  | _, _ => none
def tk_sy1 (E : tk_E) (x : tk_Lx) : Nat → tk_Lx
  | 0 => x
  | k + 1 => match E[k]? with
    | some e => if (Nat.beq e.2.2.1 x.1 && Nat.beq e.2.2.2.1 x.2.1 && Nat.beq e.2.2.2.2.1 x.2.2.1) = true then (0, k, 0, x.2.2.2 - e.2.2.2.2.2) else tk_sy1 E x k
    | none => x
def tk_sy (E : tk_E) (x : tk_Lx) : tk_Lx := if (Nat.beq x.1 1 || Nat.beq x.1 2) = true then tk_sy1 E x E.length else x
def tk_le2 (E : tk_E) (n0 : Nat) (xs : List tk_Lx) (e : tk_N) : Option tk_Lx := match tk_ld n0 xs e with
  | some x => some x
  | none => tk_ld n0 (xs.map (tk_sy E)) e
def tk_w1 (n0 : Nat) (o : tk_S) (w : tk_A) (xs : List tk_Lx) (k : Nat) (e : tk_N) : Option tk_Lx :=
  if Nat.beq e.2.2.1 0 = true then
    (match tk_pos k w.2.1 o.2.1 with
    | some p => some (0, p.1, 0, p.2)
    | none => match tk_pos k w.2.2.1 o.2.2.1 with
      | some p => some (0, p.1, 0, p.2)
      | none => (tk_posM n0 xs o.1 o.2.2.2.1 k w.2.2.2.1).map (fun p => (0, p.1, 0, p.2)))
  else tk_le2 o.1 n0 xs e
def tk_ww (n0 : Nat) (o : tk_S) (w : tk_A) : Nat → tk_E → List tk_Lx → Option (List tk_Lx)
  | _, [], xs => some xs
  | k, e :: es, xs => match tk_w1 n0 o w xs k e with
    | some x => tk_ww n0 o w (k + 1) es (xs ++ [x])
    | none => none
def tk_lxq (x y : tk_Lx) : Bool := Nat.beq x.1 y.1 && Nat.beq x.2.1 y.2.1 && Nat.beq x.2.2.1 y.2.2.1 && decide (x.2.2.2 = y.2.2.2)
def tk_wB (n0 : Nat) (E : tk_E) (xs : List tk_Lx) : Nat → tk_E → List tk_Lx → Bool
  | _, [], [] => true
  | k, e :: es, x :: ys => decide (e.1 ≤ (tk_lxB E x).1 ∧ (tk_lxB E x).2 ≤ e.2.1) && (Nat.beq e.2.2.1 0 || (Nat.ble e.2.2.1 2 && Nat.ble (e.2.2.2.1 + 1) k && Nat.ble (e.2.2.2.2.1 + 1) k && (match tk_le2 E n0 xs e with
    | some y => tk_lxq x y
    | none => false))) && tk_wB n0 E xs (k + 1) es ys
  | _, _, _ => false
def tk_sV (n0 : Nat) (xs : List tk_Lx) (E : tk_E) (a b : tk_V) : Bool := match tk_sb n0 xs b.2 with
  | some p => tk_eqv E a (b.1, p)
  | none => false
def tk_sL (n0 : Nat) (xs : List tk_Lx) (E : tk_E) : List tk_V → List tk_V → Bool
  | [], [] => true
  | a :: as, b :: bs => (Nat.beq b.1 0 || tk_sV n0 xs E a b) && tk_sL n0 xs E as bs
  | _, _ => false
def tk_sK (n0 : Nat) (xs : List tk_Lx) (E : tk_E) : List tk_V → List tk_V → Bool
  | [], [] => true
  | a :: as, b :: bs => tk_sV n0 xs E a b && tk_sK n0 xs E as bs
  | _, _ => false
def tk_sM (n0 : Nat) (xs : List tk_Lx) (E : tk_E) (M : tk_M) (f : tk_V × tk_V × tk_V) : Bool := match tk_sb n0 xs f.1.2, tk_sb n0 xs f.2.1.2 with
  | some po, some pi => (match tk_mf E (f.1.1, po) (f.2.1.1, pi) M with
    | some v => tk_sV n0 xs E v f.2.2
    | none => false)
  | _, _ => false
/-- is o one of the states of w (over n0 old symbols)? then what w's new symbols are -/
def tk_wi (n0 cs ss : Nat) (w : tk_A) (o : tk_S) : Option (List tk_Lx) := match tk_ww n0 o w n0 w.1 [] with
  | some xs => if (tk_wB n0 o.1 xs n0 w.1 xs && tk_sL n0 xs o.1 o.2.1 w.2.1 && tk_sK n0 xs o.1 o.2.2.1 w.2.2.1 && w.2.2.2.1.all (tk_sM n0 xs o.1 o.2.2.2.1) && Nat.ble o.2.2.2.2.1 cs && Nat.ble o.2.2.2.2.2 ss) = true then some xs else none
  | none => none
theorem tk_lxB.ok {ρ : Nat → Int} {E : tk_E} (hE : tk_env ρ E) (x : tk_Lx) : (tk_lxB E x).1 ≤ tk_lx ρ x ∧ tk_lx ρ x ≤ (tk_lxB E x).2 := by
  unfold tk_lxB tk_lx
  split
  · have h1 := (hE x.2.1).1
    have h2 := (hE x.2.1).2.1
    exact ⟨by dsimp only; omega, by dsimp only; omega⟩
  · obtain ⟨h1, h2⟩ := tk_B1.ok hE x.2.1 x.2.2.1
    exact ⟨by dsimp only; omega, by dsimp only; omega⟩
  · obtain ⟨h1, h2⟩ := tk_B2.ok hE x.2.1 x.2.2.1
    exact ⟨by dsimp only; omega, by dsimp only; omega⟩
/-- the numbers of the wider state's symbols -/
def tk_rw (n0 : Nat) (xs : List tk_Lx) (ρ : Nat → Int) : Nat → Int := fun k => if k < n0 then ρ k else match xs[k - n0]? with
  | some x => tk_lx ρ x
  | none => 0
theorem tk_rw.lt {n0 : Nat} {xs : List tk_Lx} {ρ : Nat → Int} {k : Nat} (h : k < n0) : tk_rw n0 xs ρ k = ρ k := if_pos h
theorem tk_rw.ge {n0 : Nat} {xs : List tk_Lx} {ρ : Nat → Int} {k : Nat} {x : tk_Lx} (h : n0 ≤ k) (hx : xs[k - n0]? = some x) : tk_rw n0 xs ρ k = tk_lx ρ x := by
  unfold tk_rw
  rw [if_neg (by omega), hx]
theorem tk_sb.ok {n0 : Nat} {xs : List tk_Lx} {ρ : Nat → Int} {b p : tk_P} (h : tk_sb n0 xs b = some p) : tk_rw n0 xs ρ b.1 + b.2 = ρ p.1 + p.2 ∧ b.1 < n0 + xs.length := by
  unfold tk_sb at h
  split at h
  · rename_i hc
    cases h
    have hc : b.1 < n0 := Nat.le_of_ble_eq_true hc
    exact ⟨by rw [tk_rw.lt hc], by omega⟩
  · rename_i hc
    have hc : n0 ≤ b.1 := by
      apply Nat.le_of_not_lt
      intro q
      exact hc (Nat.ble_eq_true_of_le q)
    split at h
    · rename_i a x c hx
      cases h
      have := (List.getElem?_eq_some_iff.mp hx).1
      refine ⟨?_, by omega⟩
      rw [tk_rw.ge hc hx]
      show ρ a + c + b.2 = ρ a + (c + b.2)
      omega
    · cases h
theorem tk_ld.ok {n0 : Nat} {xs : List tk_Lx} {ρ : Nat → Int} {e : tk_N} {x : tk_Lx} (h : tk_ld n0 xs e = some x) (ho : e.2.2.1 = 1 ∨ e.2.2.1 = 2) : tk_lx ρ x = tk_o e.2.2.1 (tk_rw n0 xs ρ e.2.2.2.1) (tk_rw n0 xs ρ e.2.2.2.2.1) + e.2.2.2.2.2 := by
  unfold tk_ld at h
  split at h
  · rename_i pa pb h1 h2
    have g1 := (tk_sb.ok (ρ := ρ) h1).1
    have g2 := (tk_sb.ok (ρ := ρ) h2).1
    dsimp only at g1 g2
    unfold tk_o
    rcases ho with ho | ho
    · rw [ho] at h ⊢
      rw [if_pos (show Nat.beq 1 1 = true from rfl)] at h ⊢
      cases h
      show ρ pa.1 + ρ pb.1 + (e.2.2.2.2.2 + pa.2 + pb.2) = _
      omega
    · rw [ho] at h ⊢
      rw [if_neg (by decide)] at h ⊢
      cases h
      show ρ pa.1 - ρ pb.1 + (e.2.2.2.2.2 + pa.2 - pb.2) = _
      omega
  · cases h
theorem tk_sy1.ok {ρ : Nat → Int} {E : tk_E} (hE : tk_env ρ E) {x : tk_Lx} (hx : x.1 = 1 ∨ x.1 = 2) : ∀ k : Nat, tk_lx ρ (tk_sy1 E x k) = tk_lx ρ x
  | 0 => rfl
  | k + 1 => by
    unfold tk_sy1
    split
    · rename_i e he
      split
      · rename_i hc
        rw [Bool.and_eq_true, Bool.and_eq_true] at hc
        obtain ⟨⟨c1, c2⟩, c3⟩ := hc
        have y1 := tk_bq c1
        have y2 := tk_bq c2
        have y3 := tk_bq c3
        have h1 := hE k
        rw [show tk_at E k = e by unfold tk_at; rw [List.getD_eq_getElem?_getD, he]; rfl] at h1
        obtain ⟨-, -, -, h2, h3⟩ := h1
        obtain ⟨o, a, b, d⟩ := x
        dsimp only at y1 y2 y3 hx
        show ρ k + (d - e.2.2.2.2.2) = tk_lx ρ (o, a, b, d)
        rcases hx with rfl | rfl
        · have := h2 y1
          rw [y2, y3] at this
          show _ = ρ a + ρ b + d
          omega
        · have := h3 y1
          rw [y2, y3] at this
          show _ = ρ a - ρ b + d
          omega
      · exact tk_sy1.ok hE hx k
    · rfl
theorem tk_sy.ok {ρ : Nat → Int} {E : tk_E} (hE : tk_env ρ E) (x : tk_Lx) : tk_lx ρ (tk_sy E x) = tk_lx ρ x := by
  unfold tk_sy
  split
  · rename_i hc
    rw [Bool.or_eq_true] at hc
    exact tk_sy1.ok hE (by
      rcases hc with hc | hc
      · exact Or.inl (tk_bq hc)
      · exact Or.inr (tk_bq hc)) _
  · rfl
theorem tk_rw.sy {n0 : Nat} {xs : List tk_Lx} {ρ : Nat → Int} {E : tk_E} (hE : tk_env ρ E) (k : Nat) : tk_rw n0 (xs.map (tk_sy E)) ρ k = tk_rw n0 xs ρ k := by
  unfold tk_rw
  split
  · rfl
  · rw [List.getElem?_map]
    cases xs[k - n0]? with
    | none => rfl
    | some x => exact tk_sy.ok hE x
theorem tk_le2.ok {n0 : Nat} {xs : List tk_Lx} {ρ : Nat → Int} {E : tk_E} {e : tk_N} {x : tk_Lx} (hE : tk_env ρ E) (h : tk_le2 E n0 xs e = some x) (ho : e.2.2.1 = 1 ∨ e.2.2.1 = 2) : tk_lx ρ x = tk_o e.2.2.1 (tk_rw n0 xs ρ e.2.2.2.1) (tk_rw n0 xs ρ e.2.2.2.2.1) + e.2.2.2.2.2 := by
  unfold tk_le2 at h
  split at h
  · rename_i y hy
    cases h
    exact tk_ld.ok hy ho
  · have := tk_ld.ok (ρ := ρ) h ho
    rw [tk_rw.sy hE, tk_rw.sy hE] at this
    exact this
theorem tk_lxq.ok {x y : tk_Lx} (h : tk_lxq x y = true) : x = y := by
  unfold tk_lxq at h
  simp only [Bool.and_eq_true] at h
  obtain ⟨a, b, c, d⟩ := x
  obtain ⟨a', b', c', d'⟩ := y
  cases tk_bq h.1.1.1
  cases tk_bq h.1.1.2
  cases tk_bq h.1.2
  cases of_decide_eq_true h.2
  rfl
theorem tk_wB.ok {n0 : Nat} {E : tk_E} {xs : List tk_Lx} {ρ : Nat → Int} (hE : tk_env ρ E) : ∀ {es : tk_E} {ys : List tk_Lx} {k : Nat}, tk_wB n0 E xs k es ys = true → es.length = ys.length ∧ ∀ (j : Nat) (e : tk_N) (y : tk_Lx), es[j]? = some e → ys[j]? = some y → tk_dv (tk_rw n0 xs ρ) (k + j) e (tk_lx ρ y)
  | [], [], k, _ => ⟨rfl, fun j e y h => by simp at h⟩
  | e :: es, x :: ys, k, h => by
    unfold tk_wB at h
    rw [Bool.and_eq_true, Bool.and_eq_true] at h
    obtain ⟨⟨h1, h2⟩, h3⟩ := h
    obtain ⟨g1, g2⟩ := tk_wB.ok hE h3
    have h1 := of_decide_eq_true h1
    have hb := tk_lxB.ok hE x
    refine ⟨by rw [List.length_cons, List.length_cons, g1], fun j e1 y1 he hy => ?_⟩
    cases j with
    | zero =>
      cases he
      cases hy
      rw [Bool.or_eq_true] at h2
      rcases h2 with h2 | h2
      · have h2 := tk_bq h2
        refine ⟨by omega, by omega, fun q => ?_, fun q => ?_, fun q => ?_⟩
        · omega
        · omega
        · omega
      · simp only [Bool.and_eq_true] at h2
        obtain ⟨⟨⟨c1, c2⟩, c3⟩, c4⟩ := h2
        have c1 := Nat.le_of_ble_eq_true c1
        have c2 : e.2.2.2.1 < k := Nat.le_of_ble_eq_true c2
        have c3 : e.2.2.2.2.1 < k := Nat.le_of_ble_eq_true c3
        split at c4
        · rename_i y hy2
          have hxy := tk_lxq.ok c4
          subst hxy
          refine ⟨by omega, by omega, fun _ => ⟨by omega, by omega⟩, fun q => ?_, fun q => ?_⟩
          · have := tk_le2.ok (ρ := ρ) hE hy2 (Or.inl q)
            rw [q] at this
            exact this
          · have := tk_le2.ok (ρ := ρ) hE hy2 (Or.inr q)
            rw [q] at this
            exact this
        · cases c4
    | succ j =>
      have := g2 j e1 y1 (by simpa using he) (by simpa using hy)
      rw [show k + (j + 1) = k + 1 + j by omega]
      exact this
  | [], _ :: _, _, h => by cases h
  | _ :: _, [], _, h => by cases h
theorem tk_eqv.ty {E : tk_E} {i j : tk_V} (h : tk_eqv E i j = true) : i.1 = j.1 := by
  unfold tk_eqv at h
  rw [Bool.or_eq_true] at h
  rcases h with h | h
  · rw [tk_veq.ok h]
  · simp only [Bool.and_eq_true] at h
    exact tk_bq h.1.1.1
theorem tk_sV.ok {n0 : Nat} {xs : List tk_Lx} {E : tk_E} {ρ : Nat → Int} {B : tk_B} {a b : tk_V} {v : Value} (hE : tk_env ρ E) (h : tk_sV n0 xs E a b = true) (hv : tk_v ρ B a v) : tk_v (tk_rw n0 xs ρ) B b v ∧ b.2.1 < n0 + xs.length ∧ a.1 = b.1 := by
  unfold tk_sV at h
  split at h
  · rename_i p hp
    have e1 := tk_eqv.ty h
    have e2 := tk_eqv.ok hE h
    obtain ⟨g1, g2⟩ := tk_sb.ok (ρ := ρ) hp
    refine ⟨?_, g2, e1⟩
    unfold tk_v at hv ⊢
    rw [g1, ← e2]
    rw [e1] at hv
    exact hv
  · cases h
theorem tk_sV.ty {n0 : Nat} {xs : List tk_Lx} {E : tk_E} {a b : tk_V} (h : tk_sV n0 xs E a b = true) : a.1 = b.1 := by
  unfold tk_sV at h
  split at h
  · have := tk_eqv.ty h
    exact this
  · cases h
theorem tk_sL.ok {n0 : Nat} {xs : List tk_Lx} {E : tk_E} : ∀ {as bs : List tk_V}, tk_sL n0 xs E as bs = true → ∀ (j : Nat) (b : tk_V), bs[j]? = some b → b.1 ≠ 0 → ∃ a : tk_V, as[j]? = some a ∧ tk_sV n0 xs E a b = true
  | [], [], _, j, b, hb, _ => by simp at hb
  | a :: as, b :: bs, h, j, b1, hb, hn => by
    unfold tk_sL at h
    rw [Bool.and_eq_true, Bool.or_eq_true] at h
    cases j with
    | zero =>
      cases hb
      rcases h.1 with q | q
      · exact absurd (tk_bq q) hn
      · exact ⟨a, rfl, q⟩
    | succ j =>
      obtain ⟨a1, g1, g2⟩ := tk_sL.ok h.2 j b1 (by simpa using hb) hn
      exact ⟨a1, by simpa using g1, g2⟩
  | [], _ :: _, h, _, _, _, _ => by cases h
  | _ :: _, [], h, _, _, _, _ => by cases h
theorem tk_sK.ok {n0 : Nat} {xs : List tk_Lx} {E : tk_E} {ρ : Nat → Int} {B : tk_B} {n : Nat} (hE : tk_env ρ E) : ∀ {as bs : List tk_V} {st : List Value}, tk_sK n0 xs E as bs = true → tk_stk ρ B n as st → tk_stk (tk_rw n0 xs ρ) B (n0 + xs.length) bs st
  | [], [], st, _, hs => by
    cases st with
    | nil => trivial
    | cons _ _ => exact absurd hs id
  | a :: as, b :: bs, st, h, hs => by
    unfold tk_sK at h
    rw [Bool.and_eq_true] at h
    obtain ⟨v, st', rfl, g1, g2, g3⟩ := tk_stk.uncons hs
    obtain ⟨k1, k2, -⟩ := tk_sV.ok hE h.1 g2
    exact ⟨k2, k1, tk_sK.ok hE h.2 g3⟩
  | [], _ :: _, _, h, _ => by cases h
  | _ :: _, [], _, h, _ => by cases h
section TK
variable {p : Program} {l : Launch} {e : Env} {R : Room} {s : State} {m : MethodId} {args : Array Value} {below : List Frame} {meth : Method} {c : Code} {Q : State → Prop}
variable {nL : Nat} {D : va_G} {cl : List vw_C} {A : Nat → Prop} {H0 : Heap} {KT : Nat → tk_G} {F : List (Nat × Nat × Nat)} {B0 : tk_B} {ws0 : va_W}
variable {nA : Nat} {ρ0 : Nat → Int}
/-- a state within the wider one is one of its states -/
theorem tk_wi.ok {n0 cs ss : Nat} {w : tk_A} {o : tk_S} {E0 : tk_E} {xs : List tk_Lx} {ρ : Nat → Int} {B : tk_B} {ws : va_W} {tys : List (ClassId × FieldType)} {H : Heap} {locs : List Loc} {ls : Array Slot} {lv : List (Nat × Value)} {st : List Value}
    (h : tk_wi n0 cs ss w o = some xs) (h0 : 0 < n0) (hE0 : E0.length = n0) (hk : tk_ok D cl A s H0 KT F B0 ws0 nL o ρ B ws tys H locs ls lv st) (hp : ∀ k, k < n0 → tk_dv ρ k (tk_at E0 k) (ρ k)) :
    tk_ok D cl A s H0 KT F B0 ws0 nL (E0 ++ w.1, w.2.1, w.2.2.1, w.2.2.2.1, cs, ss) (tk_rw n0 xs ρ) B ws tys H locs ls lv st ∧ (o.2.2.2.2.1 ≤ cs ∧ o.2.2.2.2.2 ≤ ss) ∧ xs.length = w.1.length := by
  unfold tk_wi at h
  split at h
  · rename_i ys hys
    split at h
    · rename_i hc
      cases h
      simp only [Bool.and_eq_true] at hc
      obtain ⟨⟨⟨⟨⟨c1, c2⟩, c3⟩, c4⟩, c5⟩, c6⟩ := hc
      obtain ⟨hE, hz, hL, hl, hst, hM, hK, hPw, hD, hS, hC, hFr, hLe, hBl⟩ := hk
      obtain ⟨g1, g2⟩ := tk_wB.ok hE c1
      have c5 := Nat.le_of_ble_eq_true c5
      have c6 := Nat.le_of_ble_eq_true c6
      have hlen : (E0 ++ w.1).length = n0 + xs.length := by rw [List.length_append, hE0, g1]
      refine ⟨⟨fun n => ?_, ⟨by dsimp only; rw [hlen]; omega, by rw [tk_rw.lt h0]; exact hz.2⟩, fun i b hb hb0 => ?_, hl, ?_, fun f hf => ?_, hK, hPw, hD, hS, hC, hFr, hLe, by dsimp only; omega⟩, ⟨c5, c6⟩, g1.symm⟩
      · dsimp only
        by_cases q1 : n < n0
        · rw [tk_at.app (by omega), tk_rw.lt q1]
          exact (hp n q1).ext (fun k hk => tk_rw.lt (by omega))
        · by_cases q2 : n < n0 + xs.length
          · have h3 : w.1[n - n0]? = some w.1[n - n0] := List.getElem?_eq_getElem (by omega)
            have h4 : xs[n - n0]? = some xs[n - n0] := List.getElem?_eq_getElem (by omega)
            have h5 := g2 _ _ _ h3 h4
            rw [show n0 + (n - n0) = n by omega] at h5
            rw [tk_rw.ge (by omega) h4]
            have h6 : tk_at (E0 ++ w.1) n = w.1[n - n0] := by
              unfold tk_at
              rw [List.getD_eq_getElem?_getD, List.getElem?_append_right (by omega), hE0, h3]
              rfl
            rw [h6]
            exact h5
          · rw [tk_at.out (by rw [hlen]; omega)]
            have : tk_rw n0 xs ρ n = 0 := by
              unfold tk_rw
              rw [if_neg q1, List.getElem?_eq_none (by omega)]
            rw [this]
            exact tk_dv.bare (Int.le_refl _) (Int.le_refl _)
      · obtain ⟨a, ha, hv⟩ := tk_sL.ok c2 i b hb hb0
        have hne : a.1 ≠ 0 := by
          rw [tk_sV.ty hv]
          exact hb0
        obtain ⟨k1, v, k2, k3⟩ := hL i a ha hne
        obtain ⟨y1, y2, -⟩ := tk_sV.ok hE hv k3
        exact ⟨by dsimp only; rw [hlen]; exact y2, v, k2, y1⟩
      · dsimp only
        rw [hlen]
        exact tk_sK.ok hE c3 hst
      · have hf2 := List.all_eq_true.mp c4 f hf
        unfold tk_sM at hf2
        split at hf2
        · rename_i po pi hpo hpi
          split at hf2
          · rename_i v hmf
            obtain ⟨y1, y2⟩ := tk_sb.ok (ρ := ρ) hpo
            obtain ⟨y3, y4⟩ := tk_sb.ok (ρ := ρ) hpi
            obtain ⟨f', f1, f2, f3, f4⟩ := tk_mf.ok hE hmf
            obtain ⟨-, k4⟩ := hM f' f1
            rw [f2, f3, f4] at k4
            dsimp only at k4
            unfold tk_sV at hf2
            split at hf2
            · rename_i pv hpv
              have e1 := tk_eqv.ty hf2
              have e2 := tk_eqv.ok hE hf2
              obtain ⟨y5, y6⟩ := tk_sb.ok (ρ := ρ) hpv
              refine ⟨⟨by dsimp only; rw [hlen]; exact y2, by dsimp only; rw [hlen]; exact y4, by dsimp only; rw [hlen]; exact y6⟩, ?_⟩
              dsimp only at e1 e2
              rw [y1, y3, y5, ← e2, ← e1]
              exact k4
            · cases hf2
          · cases hf2
        · cases hf2
    · cases h
  · cases h
end TK
