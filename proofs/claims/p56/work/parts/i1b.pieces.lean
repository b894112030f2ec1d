/-! ===== a round by pieces: one state of the law, cut by its call's splits ===== -/
def tm_bd (b : Bool) (f pc : Nat) (q : tp_W) (X : tm_X) : Bool := q.2.any (fun r => match tp_rxs r.1 [X] with
  | some Ys => Ys.all (fun Y => r.2.any (fun a => tm_alt (tm_do tm_tab b 2176 f) a 0 0 pc Y))
  | none => false)
/-- on to the next call -/
def tm_rn : Nat → Nat → tm_X → Option (Nat × Nat × tm_X × tp_W)
  | 0, _, _ => none
  | f + 1, pc, X => if (Nat.beq pc 18 || Nat.beq pc 2176) = true then none else match tm_tab pc with
    | some t => some (f, pc, X, t)
    | none => (match tm_one pc X with
      | some [n] => tm_rn f n.1 n.2
      | _ => none)
def tm_cut {α : Type} (f : Nat → Nat → tp_W → List tm_X → α) (z : α) (q : Nat × tm_X) : α := match tm_rn 200 q.1 q.2 with
  | some r => (match tm_sps r.2.2.2.1 [r.2.2.1] with
    | some Xs => f r.1 r.2.1 r.2.2.2 Xs
    | none => z)
  | none => z
def tm_pf (b : Bool) (j g pc : Nat) (t : tp_W) (Xs : List tm_X) : Bool := match Xs[j]? with
  | some X => tm_bd b g pc t X
  | none => true
def tm_nq (k _g _pc : Nat) (_t : tp_W) (Xs : List tm_X) : Bool := Nat.ble Xs.length k
def tm_pj (b d : Bool) (n j : Nat) : Bool := match tm_ns b d with
  | some ns => (match ns[n]? with
    | some q => tm_cut (tm_pf b j) false q
    | none => false)
  | none => false
def tm_nk (b d : Bool) (n k : Nat) : Bool := match tm_ns b d with
  | some ns => (match ns[n]? with
    | some q => tm_cut (tm_nq k) false q
    | none => false)
  | none => false
theorem tm_rn.ok {b : Bool} : ∀ {f pc : Nat} {X : tm_X} {g pc' : Nat} {X' : tm_X} {t : tp_W}, tm_rn f pc X = some (g, pc', X', t) → (tm_tab pc' = some t ∧ Nat.beq pc' 18 = false ∧ Nat.beq pc' 2176 = false) ∧ (tm_do tm_tab b 2176 (g + 1) 0 0 pc' X' = true → tm_do tm_tab b 2176 f 0 0 pc X = true)
  | 0, _, _, _, _, _, _, h => by cases h
  | f + 1, pc, X, g, pc', X', t, h => by
    unfold tm_rn at h
    split at h
    · cases h
    · rename_i hpc
      rw [Bool.or_eq_true, not_or] at hpc
      split at h
      · rename_i t' ht
        cases h
        exact ⟨⟨ht, Bool.eq_false_iff.mpr hpc.1, Bool.eq_false_iff.mpr hpc.2⟩, fun q => q⟩
      · rename_i ht
        split at h
        · rename_i n hn
          obtain ⟨h1, h2⟩ := tm_rn.ok (b := b) h
          refine ⟨h1, fun q => ?_⟩
          unfold tm_do
          rw [if_neg hpc.1, if_neg hpc.2, ht]
          dsimp only
          rw [hn]
          dsimp only
          rw [List.all_cons, h2 q]
          rfl
        · cases h
theorem tm_cut.ok {b : Bool} {k : Nat} {q : Nat × tm_X} (hk : tm_cut (tm_nq k) false q = true) (h : ∀ j, j < k → tm_cut (tm_pf b j) false q = true) : tm_do tm_tab b 2176 200 0 0 q.1 q.2 = true := by
  unfold tm_cut at hk h
  split at hk
  · rename_i r hr
    obtain ⟨g, pc', X', t⟩ := r
    obtain ⟨⟨h1, h2, h3⟩, h4⟩ := tm_rn.ok (b := b) hr
    refine h4 ?_
    split at hk
    · rename_i Xs hXs
      have hXs : tm_sps t.1 [X'] = some Xs := hXs
      unfold tm_nq at hk
      have hall : Xs.all (tm_bd b g pc' t) = true := List.all_eq_true.mpr (fun X hX => by
        obtain ⟨j, hj⟩ := List.getElem?_of_mem hX
        have h5 := h j (Nat.lt_of_lt_of_le (List.getElem?_eq_some_iff.mp hj).1 (Nat.le_of_ble_eq_true hk))
        rw [hr] at h5
        dsimp only at h5
        rw [hXs] at h5
        dsimp only at h5
        unfold tm_pf at h5
        rw [hj] at h5
        exact h5)
      unfold tm_do
      rw [if_neg (fun q => Bool.false_ne_true (h2.symm.trans q)), if_neg (fun q => Bool.false_ne_true (h3.symm.trans q)), h1]
      dsimp only
      rw [hXs]
      exact hall
    · cases hk
  · cases hk
theorem tm_pj.ok {b d : Bool} {n k : Nat} (hk : tm_nk b d n k = true) (h : ∀ j, j < k → tm_pj b d n j = true) : tm_pc b d n 1 = true := by
  unfold tm_nk at hk
  unfold tm_pj at h
  unfold tm_pc
  split at hk
  · rename_i ns hns
    rw [hns] at h ⊢
    dsimp only at h ⊢
    refine List.all_eq_true.mpr (fun q hq => ?_)
    obtain ⟨i, hi⟩ := List.getElem?_of_mem hq
    rw [List.getElem?_take] at hi
    split at hi
    · rename_i hi1
      have : i = 0 := by omega
      subst this
      rw [List.getElem?_drop, Nat.add_zero] at hi
      rw [hi] at h hk
      exact tm_cut.ok hk h
    · cases hi
  · cases hk
