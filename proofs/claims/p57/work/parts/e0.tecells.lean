/-! ===== the first executor's cells, read as kinds ===== -/
/-- is all that f says also what g says? ks: the cells' kinds -/
def te_f (ks : List Nat) (f : kc_F) (g : tk_F) : Bool := if (Nat.beq f.1 1 || Nat.beq f.1 2) = true then Nat.beq f.1 g.1 && decide (g.2.1 ≤ f.2.1 ∧ f.2.2 ≤ g.2.2)
  else Nat.beq f.1 3 && Nat.ble 10 g.1 && decide (f.2.1 = f.2.2) && (if f.2.1 = 0 then decide (g.2.1 ≤ 0 ∧ 0 ≤ g.2.2) else decide (g.2.1 ≤ 1 ∧ 1000000000 ≤ g.2.2) && decide (ks[(f.2.1 - 1).toNat]? = some (g.1 - 10)))
def te_B (β : Nat → Nat) (i : Nat) : List Nat → List (Nat × Nat)
  | [] => []
  | κ :: ks => (β (i + 1), κ) :: te_B β (i + 1) ks
theorem te_B.at {β : Nat → Nat} : ∀ {ks : List Nat} {i k : Nat}, (te_B β i ks)[k]? = (ks[k]?).map (fun κ => (β (i + k + 1), κ))
  | [], _, _ => rfl
  | κ :: ks, i, 0 => rfl
  | κ :: ks, i, k + 1 => by
    show (te_B β (i + 1) ks)[k]? = (ks[k]?).map _
    rw [te_B.at, show i + 1 + k = i + (k + 1) by omega]
theorem te_B.len {β : Nat → Nat} : ∀ {ks : List Nat} {i : Nat}, (te_B β i ks).length = ks.length
  | [], _ => rfl
  | _ :: ks, i => by
    show (te_B β (i + 1) ks).length + 1 = ks.length + 1
    rw [te_B.len]
/-- a world with these cells behind it -/
def te_U (B : tk_B) (β : Nat → Nat) (ks : List Nat) : tk_B := (B.1, B.2.1, B.2.2 ++ te_B β 0 ks)
theorem te_U.le {B : tk_B} {β : Nat → Nat} {ks : List Nat} : tk_le B (te_U B β ks) := ⟨rfl, rfl, _, rfl⟩
theorem te_f.ok {ks : List Nat} {f : kc_F} {g : tk_F} {β : Nat → Nat} {B : tk_B} {v : Value} (h : te_f ks f g = true) (hv : kc_t β ks.length f v) (hb : B.2.2.length + ks.length ≤ 1000000000) : tk_t (te_U B β ks) g v := by
  unfold te_f at h
  obtain ⟨f1, f2, f3⟩ := f
  obtain ⟨g1, g2, g3⟩ := g
  dsimp only at h
  split at h
  · rename_i hc
    rw [Bool.and_eq_true] at h
    obtain ⟨h1, h2⟩ := h
    have h1 := Nat.eq_of_beq_eq_true h1
    subst h1
    have h2 := of_decide_eq_true h2
    rw [Bool.or_eq_true] at hc
    rcases hc with hc | hc
    · have hc := Nat.eq_of_beq_eq_true hc
      subst hc
      obtain ⟨x, rfl, x1, x2⟩ := hv
      dsimp only at x1 x2
      exact ⟨x.toInt, by dsimp only; omega, by dsimp only; omega, x, rfl, rfl⟩
    · have hc := Nat.eq_of_beq_eq_true hc
      subst hc
      obtain ⟨x, rfl, x1, x2⟩ := hv
      dsimp only at x1 x2
      exact ⟨x.toInt, by dsimp only; omega, by dsimp only; omega, x, rfl, rfl⟩
  · rename_i hc
    rw [Bool.and_eq_true, Bool.and_eq_true, Bool.and_eq_true] at h
    obtain ⟨⟨⟨e3, h1⟩, h2⟩, h3⟩ := h
    have e3 := Nat.eq_of_beq_eq_true e3
    have h1 := Nat.le_of_ble_eq_true h1
    have h2 := of_decide_eq_true h2
    subst h2
    subst e3
    have hv : (v = .null ∧ f2 ≤ 0 ∧ 0 ≤ f2) ∨ ∃ r : Nat, v = .ref (β r) ∧ 1 ≤ r ∧ r ≤ ks.length ∧ f2 ≤ (r : Int) ∧ (r : Int) ≤ f2 := hv
    split at h3
    · rename_i e0
      have h3 := of_decide_eq_true h3
      rcases hv with ⟨rfl, -, -⟩ | ⟨r, -, r1, -, -, r2⟩
      · exact ⟨0, h3.1, h3.2, (tk_vn.ref h1).mpr (Or.inl ⟨rfl, rfl⟩)⟩
      · omega
    · rename_i e0
      rw [Bool.and_eq_true] at h3
      have h4 := of_decide_eq_true h3.1
      have h5 := of_decide_eq_true h3.2
      rcases hv with ⟨-, y1, y2⟩ | ⟨r, rfl, r1, r2, r3, r4⟩
      · omega
      · have er : (f2 - 1).toNat = r - 1 := by omega
        rw [er] at h5
        refine ⟨(B.2.2.length : Int) + r, by dsimp only; omega, by dsimp only; omega, (tk_vn.ref h1).mpr (Or.inr ⟨B.2.2.length + (r - 1), β r, rfl, ?_, by omega⟩)⟩
        show (B.2.2 ++ te_B β 0 ks)[B.2.2.length + (r - 1)]? = _
        rw [List.getElem?_append_right (by omega), show B.2.2.length + (r - 1) - B.2.2.length = r - 1 by omega, te_B.at, h5, show 0 + (r - 1) + 1 = r by omega]
        rfl
def te_fs (ks : List Nat) : List kc_V → List (List tk_F) → Bool
  | [], [] => true
  | (t, n, d) :: vs, al :: als => Nat.beq n 0 && al.any (te_f ks (t, d, d)) && te_fs ks vs als
  | _, _ => false
theorem te_v {ρ : Nat → Int} {β : Nat → Nat} {N t : Nat} {d : Int} {v : Value} (h0 : ρ 0 = 0) (ht : t = 1 ∨ t = 2 ∨ t = 3) (h : kc_v ρ β N (t, 0, d) v) : kc_t β N (t, d, d) v := by
  rcases ht with rfl | rfl | rfl
  · obtain ⟨x, rfl, e⟩ := h
    dsimp only at e
    exact ⟨x, rfl, by dsimp only; omega, by dsimp only; omega⟩
  · obtain ⟨x, rfl, e⟩ := h
    dsimp only at e
    exact ⟨x, rfl, by dsimp only; omega, by dsimp only; omega⟩
  · rcases h with ⟨rfl, e⟩ | ⟨r, rfl, r1, r2, e⟩
    · dsimp only at e
      exact Or.inl ⟨rfl, by dsimp only; omega, by dsimp only; omega⟩
    · dsimp only at e
      exact Or.inr ⟨r, rfl, r1, r2, by dsimp only; omega, by dsimp only; omega⟩
theorem te_fs.ok {ks : List Nat} {ρ : Nat → Int} {β : Nat → Nat} {B : tk_B} {n : Nat} (h0 : ρ 0 = 0) (hb : B.2.2.length + ks.length ≤ 1000000000) : ∀ {vs : List kc_V} {als : List (List tk_F)} {fs : List Value}, te_fs ks vs als = true → fs.length = vs.length → (∀ (j : Nat) (a : kc_V) (v : Value), vs[j]? = some a → fs[j]? = some v → a.2.1 < n ∧ kc_v ρ β ks.length a v) → fs.length = als.length ∧ ∀ (j : Nat) (al : List tk_F) (v : Value), als[j]? = some al → fs[j]? = some v → ∃ f ∈ al, tk_t (te_U B β ks) f v
  | [], [], fs, _, h2, _ => ⟨h2, fun j al v h => by cases h⟩
  | (t, n', d) :: vs, al :: als, [], _, h2, _ => by cases h2
  | (t, n', d) :: vs, al :: als, v0 :: fs, h, h2, h3 => by
    unfold te_fs at h
    rw [Bool.and_eq_true, Bool.and_eq_true] at h
    obtain ⟨⟨c1, c2⟩, c3⟩ := h
    have c1 := Nat.eq_of_beq_eq_true c1
    subst c1
    obtain ⟨g1, g2⟩ := te_fs.ok h0 hb (fs := fs) c3 (by simpa using h2) (fun j a v q1 q2 => h3 (j + 1) a v q1 q2)
    refine ⟨by simp [g1], fun j al' v ha hv => ?_⟩
    cases j with
    | zero =>
      cases ha
      cases hv
      obtain ⟨f, f1, f2⟩ := List.any_eq_true.mp c2
      have hq := (h3 0 (t, 0, d) v0 rfl rfl).2
      refine ⟨f, f1, te_f.ok f2 (te_v h0 ?_ hq) hb⟩
      unfold te_f at f2
      dsimp only at f2
      unfold kc_v at hq
      dsimp only at hq
      split at hq
      · exact Or.inl rfl
      · exact Or.inr (Or.inl rfl)
      · exact Or.inr (Or.inr rfl)
      · exfalso
        revert f2
        simp [Nat.beq]
      · exact absurd hq id
    | succ j => exact g2 j al' v ha hv
  | [], _ :: _, _, h, _, _ => by cases h
  | _ :: _, [], _, h, _, _ => by cases h
def te_es (ks : List Nat) (n : Nat) (gl : List kc_F) (gd : kc_F) (κl : List tk_F) (κd : tk_F) : Bool := (Nat.ble n (max gl.length κl.length) || te_f ks gd κd) && (List.range (max gl.length κl.length)).all (fun j => te_f ks (gl.getD j gd) (κl.getD j κd))
theorem te_es.ok {ks : List Nat} {n j : Nat} {gl : List kc_F} {gd : kc_F} {κl : List tk_F} {κd : tk_F} (h : te_es ks n gl gd κl κd = true) (hj : j < n) : te_f ks (gl.getD j gd) (κl.getD j κd) = true := by
  unfold te_es at h
  rw [Bool.and_eq_true, Bool.or_eq_true] at h
  obtain ⟨h1, h2⟩ := h
  by_cases hm : j < max gl.length κl.length
  · exact List.all_eq_true.mp h2 j (List.mem_range.mpr hm)
  · rcases h1 with h1 | h1
    · have := Nat.le_of_ble_eq_true h1
      omega
    · rw [List.getD_eq_getElem?_getD, List.getD_eq_getElem?_getD, List.getElem?_eq_none (by omega), List.getElem?_eq_none (by omega)]
      exact h1
/-- is a cell of this kind? -/
def te_c (ks : List Nat) (g : kc_G) (κ : tk_G) : Bool := Nat.beq g.1 κ.1 && (match g.1 with
  | 0 => Nat.beq g.2.1 κ.2.1 && te_fs ks g.2.2.2.2.2.2 κ.2.2.2.2.2.2.1
  | 1 => decide (g.2.2.1 = κ.2.2.1) && Nat.beq g.2.2.2.1 κ.2.2.2.1 && te_es ks g.2.2.2.1 g.2.2.2.2.2.1 g.2.2.2.2.1 κ.2.2.2.2.2.1 κ.2.2.2.2.1
  | 2 => Nat.beq g.2.2.2.1 κ.2.2.2.1 && te_es ks g.2.2.2.1 g.2.2.2.2.2.1 g.2.2.2.2.1 κ.2.2.2.2.2.1 κ.2.2.2.2.1
  | 3 => decide (g.2.2.1 = κ.2.2.1) && Nat.beq g.2.2.2.1 κ.2.2.2.1 && te_es ks g.2.2.2.1 g.2.2.2.2.2.1 g.2.2.2.2.1 κ.2.2.2.2.2.1 κ.2.2.2.2.1
  | _ => false)
theorem te_c.ok {ks : List Nat} {g : kc_G} {κ : tk_G} {ρ : Nat → Int} {β : Nat → Nat} {B : tk_B} {n : Nat} {tys : List (ClassId × FieldType)} {e : va_E} (h : te_c ks g κ = true) (h0 : ρ 0 = 0) (hb : B.2.2.length + ks.length ≤ 1000000000) (he : kc_e ρ β ks.length n tys g e) : tk_e tys (te_U B β ks) κ e := by
  unfold te_c at h
  rw [Bool.and_eq_true] at h
  obtain ⟨h1, h⟩ := h
  have h1 := Nat.eq_of_beq_eq_true h1
  unfold kc_e at he
  unfold tk_e
  split at h
  · rename_i e1
    rw [e1] at he h1
    rw [← h1]
    rw [Bool.and_eq_true] at h
    obtain ⟨fs, rfl, f1, f2⟩ := he
    obtain ⟨c1, c2⟩ := te_fs.ok h0 hb h.2 f1 f2
    exact ⟨fs, by rw [Nat.eq_of_beq_eq_true h.1], c1, c2⟩
  · rename_i e1
    rw [e1] at he h1
    rw [← h1]
    rw [Bool.and_eq_true, Bool.and_eq_true] at h
    obtain ⟨⟨c1, c2⟩, c3⟩ := h
    have c1 := of_decide_eq_true c1
    have c2 := Nat.eq_of_beq_eq_true c2
    obtain ⟨cA, t0, q, rfl, g1, g2⟩ := he
    exact ⟨cA, t0, q, by rw [c2], by rw [← c1]; exact g1, fun j hj => te_f.ok (te_es.ok c3 (by rw [c2]; exact hj)) (g2 j (by rw [c2]; exact hj)) hb⟩
  · rename_i e1
    rw [e1] at he h1
    rw [← h1]
    rw [Bool.and_eq_true] at h
    obtain ⟨c2, c3⟩ := h
    have c2 := Nat.eq_of_beq_eq_true c2
    obtain ⟨cA, t0, q, rfl, g1, g2⟩ := he
    exact ⟨cA, t0, q, by rw [c2], g1, fun j hj => te_f.ok (te_es.ok c3 (by rw [c2]; exact hj)) (g2 j (by rw [c2]; exact hj)) hb⟩
  · rename_i e1
    rw [e1] at he h1
    rw [← h1]
    rw [Bool.and_eq_true, Bool.and_eq_true] at h
    obtain ⟨⟨c1, c2⟩, c3⟩ := h
    have c1 := of_decide_eq_true c1
    have c2 := Nat.eq_of_beq_eq_true c2
    obtain ⟨cA, t0, q, rfl, g1, g2⟩ := he
    exact ⟨cA, t0, q, by rw [c2], by rw [← c1]; exact g1, fun j hj => te_f.ok (te_es.ok c3 (by rw [c2]; exact hj)) (g2 j (by rw [c2]; exact hj)) hb⟩
  · cases h
def te_H (KT : Nat → tk_G) (ks : List Nat) : List kc_G → List Nat → Bool
  | [], [] => true
  | g :: Hs, κ :: l => te_c ks g (KT κ) && te_H KT ks Hs l
  | _, _ => false
theorem te_H.ok {KT : Nat → tk_G} {ks : List Nat} : ∀ {Hs : List kc_G} {l : List Nat}, te_H KT ks Hs l = true → Hs.length = l.length ∧ ∀ (k κ : Nat), l[k]? = some κ → ∃ g, Hs[k]? = some g ∧ te_c ks g (KT κ) = true
  | [], [], _ => ⟨rfl, fun k κ h => by cases h⟩
  | g :: Hs, κ :: l, h => by
    unfold te_H at h
    rw [Bool.and_eq_true] at h
    obtain ⟨g1, g2⟩ := te_H.ok h.2
    refine ⟨by simp [g1], fun k κ' hk => ?_⟩
    cases k with
    | zero =>
      cases hk
      exact ⟨g, rfl, h.1⟩
    | succ k => exact g2 k κ' hk
  | [], _ :: _, h => by cases h
  | _ :: _, [], h => by cases h
theorem te_e {tys tys' : List (ClassId × FieldType)} (ht : ∀ (k : Nat) (q : ClassId × FieldType), tys[k]? = some q → ∃ k' : Nat, tys'[k']? = some q) {B : tk_B} {g : tk_G} {e : va_E} (h : tk_e tys B g e) : tk_e tys' B g e := by
  unfold tk_e at h ⊢
  split at h
  · exact h
  all_goals first
    | (obtain ⟨cA, t0, q, e1, e2, e3⟩ := h
       obtain ⟨t1, e4⟩ := ht _ _ e2
       exact ⟨cA, t1, q, e1, e4, e3⟩)
    | exact h
/-- these cells behind a world: all are as their kinds say -/
theorem te_C {KT : Nat → tk_G} {ks : List Nat} {Hs : List kc_G} {ρ : Nat → Int} {β : Nat → Nat} {n : Nat} {tys tys1 : List (ClassId × FieldType)} {ws ws1 : va_W} {B : tk_B} (h : te_H KT ks Hs ks = true) (h0 : ρ 0 = 0) (hb : B.2.2.length + ks.length ≤ 1000000000) (hC : tk_C KT tys B ws) (hC1 : kc_C ρ β n tys1 Hs ws1) : tk_C KT (tys ++ tys1) (te_U B β ks) (ws ++ ws1) := by
  obtain ⟨l1, l2⟩ := te_H.ok h
  obtain ⟨c1, c2⟩ := hC
  obtain ⟨d1, d2⟩ := hC1
  refine ⟨?_, fun j a κ hj => ?_⟩
  · show (ws ++ ws1).length = (B.2.2 ++ te_B β 0 ks).length
    rw [List.length_append, List.length_append, te_B.len, c1, d1, l1]
  · have hj : (B.2.2 ++ te_B β 0 ks)[j]? = some (a, κ) := hj
    by_cases hl : j < B.2.2.length
    · rw [List.getElem?_append_left hl] at hj
      obtain ⟨e, e1, e2⟩ := c2 j a κ hj
      refine ⟨e, by rw [List.getElem?_append_left (by omega)]; exact e1, te_e (fun k q hq => ⟨k, ?_⟩) (e2.up te_U.le (fun _ _ q => q))⟩
      rw [List.getElem?_append_left (List.getElem?_eq_some_iff.mp hq).1]
      exact hq
    · rw [List.getElem?_append_right (by omega), te_B.at] at hj
      cases hk : ks[j - B.2.2.length]? with
      | none => rw [hk] at hj; cases hj
      | some κ' =>
        rw [hk] at hj
        cases hj
        obtain ⟨g, g1, g2⟩ := l2 _ _ hk
        obtain ⟨e, e1, e2⟩ := d2 _ g g1
        rw [l1] at e2
        refine ⟨e, ?_, te_e (fun k q hq => ⟨tys.length + k, ?_⟩) (te_c.ok g2 h0 hb e2)⟩
        · rw [List.getElem?_append_right (by omega), c1, e1, Nat.zero_add]
        · rw [List.getElem?_append_right (by omega), show tys.length + k - tys.length = k by omega]
          exact hq
