section KB
variable {E : kc_E} {ρ : Nat → Int} {β : Nat → Nat} {N : Nat} {a b : kc_V} {x y : Int32}
theorem kc_iadd.ok (hE : kc_env ρ E) (h0 : 0 < E.length ∧ ρ 0 = 0) (ha : a.2.1 < E.length) (hb : b.2.1 < E.length) (ea : x.toInt = ρ a.2.1 + a.2.2) (eb : y.toInt = ρ b.2.1 + b.2.2) : kc_r E ρ β N (kc_iadd E a b).1 (kc_iadd E a b).2 (.int (x + y)) := by
  have h1 := hE.at a
  have h2 := hE.at b
  unfold kc_iadd
  by_cases c : (-2147483648) ≤ kc_lo E a + kc_lo E b ∧ kc_hi E a + kc_hi E b ≤ 2147483647
  · rw [if_pos c]
    have es : (x + y).toInt = x.toInt + y.toInt := kc_add32 (by omega) (by omega)
    by_cases c1 : kc_lo E b = kc_hi E b
    · rw [if_pos c1]
      exact kc_r.old hE ha ⟨x + y, rfl, by dsimp only; omega⟩
    · rw [if_neg c1]
      by_cases c2 : kc_lo E a = kc_hi E a
      · rw [if_pos c2]
        exact kc_r.old hE hb ⟨x + y, rfl, by dsimp only; omega⟩
      · rw [if_neg c2]
        exact kc_mk.i hE h0 (by omega) (by omega)
  · rw [if_neg c]
    exact kc_mk.i hE h0 (kc_i32 _).1 (kc_i32 _).2
theorem kc_isub.ok (hE : kc_env ρ E) (h0 : 0 < E.length ∧ ρ 0 = 0) (ha : a.2.1 < E.length) (ea : x.toInt = ρ a.2.1 + a.2.2) (eb : y.toInt = ρ b.2.1 + b.2.2) : kc_r E ρ β N (kc_isub E a b).1 (kc_isub E a b).2 (.int (x - y)) := by
  have h1 := hE.at a
  have h2 := hE.at b
  unfold kc_isub
  by_cases c : (-2147483648) ≤ kc_lo E a - kc_hi E b ∧ kc_hi E a - kc_lo E b ≤ 2147483647
  · rw [if_pos c]
    have es : (x - y).toInt = x.toInt - y.toInt := kc_sub32 (by omega) (by omega)
    by_cases c1 : kc_lo E b = kc_hi E b
    · rw [if_pos c1]
      exact kc_r.old hE ha ⟨x - y, rfl, by dsimp only; omega⟩
    · rw [if_neg c1]
      by_cases c2 : a.2.1 = b.2.1
      · rw [if_pos c2]
        rw [c2] at ea
        exact kc_r.old hE h0.1 ⟨x - y, rfl, by dsimp only; omega⟩
      · rw [if_neg c2]
        exact kc_mk.i hE h0 (by omega) (by omega)
  · rw [if_neg c]
    exact kc_mk.i hE h0 (kc_i32 _).1 (kc_i32 _).2
end KB
theorem kc_nn {x : Int32} (h : 0 ≤ x.toInt) : ∃ j : Nat, j < 2 ^ 31 ∧ x = nI j ∧ x.toInt = (j : Int) := by
  have h1 : ¬ x < 0 := by
    rw [Int32.lt_iff_toInt_lt]
    have : (0 : Int32).toInt = 0 := rfl
    omega
  obtain ⟨j, hj, e⟩ := nI_of h1
  exact ⟨j, hj, e, by rw [e, nI_toInt hj]⟩
theorem kc_cst {x : Int32} {z : Int} (h : x.toInt = z) : x = Int32.ofInt z := by
  rw [← h]
  exact (Int32.ofInt_toInt x).symm
theorem kc_and_le (x y : Int32) (h : 0 ≤ y.toInt) : 0 ≤ (x &&& y).toInt ∧ (x &&& y).toInt ≤ y.toInt := by
  obtain ⟨j, hj, e, ej⟩ := kc_nn h
  have h1 : (x &&& y).toBitVec.toNat ≤ y.toBitVec.toNat := by
    rw [Int32.toBitVec_and, BitVec.toNat_and]
    exact Nat.and_le_right
  have h2 : y.toBitVec.toNat = j := by rw [e]; exact pk_tn (by omega)
  have h3 : (x &&& y).toInt = ((x &&& y).toBitVec.toNat : Int) := by
    show (x &&& y).toBitVec.toInt = _
    rw [BitVec.toInt_eq_toNat_cond, if_pos (by omega)]
  rw [h3, ej]
  omega
section KC
variable {E : kc_E} {ρ : Nat → Int} {β : Nat → Nat} {N : Nat} {a b : kc_V} {x y : Int32}
theorem kc_imul.ok (hE : kc_env ρ E) (h0 : 0 < E.length ∧ ρ 0 = 0) (ea : x.toInt = ρ a.2.1 + a.2.2) (eb : y.toInt = ρ b.2.1 + b.2.2) : kc_r E ρ β N (kc_imul E a b).1 (kc_imul E a b).2 (.int (x * y)) := by
  have h1 := hE.at a
  have h2 := hE.at b
  unfold kc_imul
  by_cases c : 0 ≤ kc_lo E a ∧ 0 ≤ kc_lo E b ∧ kc_hi E a * kc_hi E b ≤ 2147483647
  · rw [if_pos c]
    have g1 : kc_lo E a * kc_lo E b ≤ x.toInt * y.toInt := Int.mul_le_mul (by omega) (by omega) (by omega) (by omega)
    have g2 : x.toInt * y.toInt ≤ kc_hi E a * kc_hi E b := Int.mul_le_mul (by omega) (by omega) (by omega) (by omega)
    have g3 : 0 ≤ kc_lo E a * kc_lo E b := Int.mul_nonneg (by omega) (by omega)
    have es : (x * y).toInt = x.toInt * y.toInt := kc_mul32 (by omega) (by omega)
    exact kc_mk.i hE h0 (by omega) (by omega)
  · rw [if_neg c]
    exact kc_mk.i hE h0 (kc_i32 _).1 (kc_i32 _).2
theorem kc_idiv.ok (hE : kc_env ρ E) (h0 : 0 < E.length ∧ ρ 0 = 0) (ea : x.toInt = ρ a.2.1 + a.2.2) (eb : y.toInt = ρ b.2.1 + b.2.2) : kc_r E ρ β N (kc_idiv E a b).1 (kc_idiv E a b).2 (.int (x / y)) := by
  have h1 := hE.at a
  have h2 := hE.at b
  unfold kc_idiv
  by_cases c : 0 ≤ kc_lo E a ∧ 0 < kc_lo E b
  · rw [if_pos c]
    obtain ⟨j, hj, ej, ej2⟩ := kc_nn (x := x) (by omega)
    obtain ⟨k, hk, ek, ek2⟩ := kc_nn (x := y) (by omega)
    have es : (x / y).toInt = x.toInt / y.toInt := by
      rw [ej, ek, pk_div hj (by omega) hk, nI_toInt (Nat.lt_of_le_of_lt (Nat.div_le_self _ _) hj), nI_toInt hj, nI_toInt hk]
      exact Int.natCast_ediv j k
    by_cases c1 : kc_lo E b = kc_hi E b
    · rw [if_pos c1]
      have ey : y.toInt = kc_lo E b := by omega
      rw [ey] at es
      exact kc_mk.i hE h0 (by rw [es]; exact Int.ediv_le_ediv c.2 (by omega)) (by rw [es]; exact Int.ediv_le_ediv c.2 (by omega))
    · rw [if_neg c1]
      have g1 : 0 ≤ x.toInt / y.toInt := Int.ediv_nonneg (by omega) (by omega)
      have g2 : x.toInt / y.toInt ≤ x.toInt := Int.ediv_le_self _ (by omega)
      exact kc_mk.i hE h0 (by omega) (by omega)
  · rw [if_neg c]
    exact kc_mk.i hE h0 (kc_i32 _).1 (kc_i32 _).2
theorem kc_irem.ok (hE : kc_env ρ E) (h0 : 0 < E.length ∧ ρ 0 = 0) (ea : x.toInt = ρ a.2.1 + a.2.2) (eb : y.toInt = ρ b.2.1 + b.2.2) : kc_r E ρ β N (kc_irem E a b).1 (kc_irem E a b).2 (.int (x - x / y * y)) := by
  have h1 := hE.at a
  have h2 := hE.at b
  unfold kc_irem
  by_cases c : 0 ≤ kc_lo E a ∧ 0 < kc_lo E b
  · rw [if_pos c]
    obtain ⟨j, hj, ej, ej2⟩ := kc_nn (x := x) (by omega)
    obtain ⟨k, hk, ek, ek2⟩ := kc_nn (x := y) (by omega)
    have h3 : j % k < k := Nat.mod_lt _ (by omega)
    have h4 : j % k ≤ j := Nat.mod_le _ _
    have es : (x - x / y * y).toInt = ((j % k : Nat) : Int) := by
      rw [ej, ek, pk_rem hj (by omega) hk, nI_toInt (by omega)]
    exact kc_mk.i hE h0 (by omega) (by split <;> omega)
  · rw [if_neg c]
    exact kc_mk.i hE h0 (kc_i32 _).1 (kc_i32 _).2
theorem kc_iand.ok (hE : kc_env ρ E) (h0 : 0 < E.length ∧ ρ 0 = 0) (ea : x.toInt = ρ a.2.1 + a.2.2) (eb : y.toInt = ρ b.2.1 + b.2.2) : kc_r E ρ β N (kc_iand E a b).1 (kc_iand E a b).2 (.int (x &&& y)) := by
  have h1 := hE.at a
  have h2 := hE.at b
  unfold kc_iand
  by_cases c : 0 ≤ kc_lo E b
  · rw [if_pos c]
    have g := kc_and_le x y (by omega)
    exact kc_mk.i hE h0 (by omega) (by omega)
  · rw [if_neg c]
    by_cases c1 : 0 ≤ kc_lo E a
    · rw [if_pos c1]
      have g := kc_and_le y x (by omega)
      rw [Int32.and_comm] at g
      exact kc_mk.i hE h0 (by omega) (by omega)
    · rw [if_neg c1]
      exact kc_mk.i hE h0 (kc_i32 _).1 (kc_i32 _).2
theorem kc_con.ok (f : Int32 → Int32 → Int32) (hE : kc_env ρ E) (h0 : 0 < E.length ∧ ρ 0 = 0) (ea : x.toInt = ρ a.2.1 + a.2.2) (eb : y.toInt = ρ b.2.1 + b.2.2) : kc_r E ρ β N (kc_con f E a b).1 (kc_con f E a b).2 (.int (f x y)) := by
  have h1 := hE.at a
  have h2 := hE.at b
  unfold kc_con
  by_cases c : kc_lo E a = kc_hi E a ∧ kc_lo E b = kc_hi E b
  · rw [if_pos c]
    have e1 : x = Int32.ofInt (kc_lo E a) := kc_cst (by omega)
    have e2 : y = Int32.ofInt (kc_lo E b) := kc_cst (by omega)
    refine kc_r.old hE h0.1 ⟨f x y, rfl, ?_⟩
    dsimp only
    rw [← e1, ← e2]
    omega
  · rw [if_neg c]
    exact kc_mk.i hE h0 (kc_i32 _).1 (kc_i32 _).2
end KC
section KD
variable {p : Program} {l : Launch} {e : Env} {R : Room} {s : State} {m : MethodId} {args : Array Value} {below : List Frame} {meth : Method} {c : Code} {H : Heap} {locs : List Loc} {cells slots : Nat} {Q : State → Prop} {cc : ByteArray} {pc : Nat} {ls : Array Slot} {rest : List Value}
variable {E : kc_E} {ρ : Nat → Int} {β : Nat → Nat} {N : Nat} {a b : kc_V} {x y : Int32}
theorem kc_ne0 {y : Int32} (h : y.toInt ≠ 0) : ¬ y = 0 := fun q => h (by rw [q]; rfl)
theorem kc_b32.ok {i : Instr} {r : kc_E × kc_V} (h : kc_b32 i E a b = some r) (hx : p.tables.exec = Jvm.exec) (hb : c.code = cc) (hd : decode cc pc = .ok (i, 1)) (hE : kc_env ρ E) (h0 : 0 < E.length ∧ ρ 0 = 0) (ha : a.2.1 < E.length) (hbl : b.2.1 < E.length) (ea : x.toInt = ρ a.2.1 + a.2.2) (eb : y.toInt = ρ b.2.1 + b.2.2)
    (k : ∀ z : Int32, kc_r E ρ β N r.1 r.2 (.int z) → W p l e R s m args below meth c H locs cells slots Q (F0 m (pc + 1) ls (.int z :: rest))) : W p l e R s m args below meth c H locs cells slots Q (F0 m pc ls (.int y :: .int x :: rest)) := by
  have h1 := hE.at b
  unfold kc_b32 at h
  split at h
  · cases h; exact lv_iadd hx hb hd (k _ (kc_iadd.ok hE h0 ha hbl ea eb))
  · cases h; exact lv_isub hx hb hd (k _ (kc_isub.ok hE h0 ha ea eb))
  · cases h; exact lv_imul hx hb hd (k _ (kc_imul.ok hE h0 ea eb))
  · split at h
    · cases h; exact lv_idiv hx hb hd (kc_ne0 (by omega)) (k _ (kc_idiv.ok hE h0 ea eb))
    · cases h
  · split at h
    · cases h; exact lv_irem hx hb hd (kc_ne0 (by omega)) (k _ (kc_irem.ok hE h0 ea eb))
    · cases h
  · cases h; exact lv_iand hx hb hd (k _ (kc_iand.ok hE h0 ea eb))
  · cases h; exact lv_ior hx hb hd (k _ (kc_con.ok (· ||| ·) hE h0 ea eb))
  · cases h; exact lv_ixor hx hb hd (k _ (kc_con.ok (· ^^^ ·) hE h0 ea eb))
  · cases h; exact lv_ishl hx hb hd (k _ (kc_con.ok (fun x y => x <<< (y &&& 31)) hE h0 ea eb))
  · cases h; exact lv_ishr hx hb hd (k _ (kc_con.ok (fun x y => x >>> (y &&& 31)) hE h0 ea eb))
  · cases h; exact lv_iushr hx hb hd rfl (k _ (kc_con.ok (fun x y => (x.toUInt32 >>> (y.toUInt32 &&& Int32.toUInt32 31)).toInt32) hE h0 ea eb))
  · cases h
end KD

theorem kc_mm.ok {E : kc_E} {ρ : Nat → Int} {β : Nat → Nat} {N n1 n2 : Nat} {d1 d2 : Int} {x y : Int32} (mx : Bool) (hE : kc_env ρ E) (h0 : 0 < E.length ∧ ρ 0 = 0) (ha : n1 < E.length) (hb : n2 < E.length) (ea : x.toInt = ρ n1 + d1) (eb : y.toInt = ρ n2 + d2) : kc_r E ρ β N (kc_mm mx E (1, n1, d1) (1, n2, d2)).1 (kc_mm mx E (1, n1, d1) (1, n2, d2)).2 (.int (if mx = true then (if x < y then y else x) else (if y < x then y else x))) := by
  have h1 := hE.at (1, n1, d1)
  have h2 := hE.at (1, n2, d2)
  dsimp only at h1 h2
  have g1 : x < y ↔ x.toInt < y.toInt := Int32.lt_iff_toInt_lt
  have g2 : y < x ↔ y.toInt < x.toInt := Int32.lt_iff_toInt_lt
  unfold kc_mm
  cases mx with
  | true =>
    dsimp only
    rw [if_pos (show true = true from rfl)]
    by_cases c1 : kc_hi E (1, n2, d2) ≤ kc_lo E (1, n1, d1)
    · rw [if_pos c1, if_neg (fun q => by have := g1.mp q; omega)]
      exact kc_r.old hE ha ⟨x, rfl, ea⟩
    · rw [if_neg c1]
      by_cases c2 : kc_hi E (1, n1, d1) ≤ kc_lo E (1, n2, d2)
      · rw [if_pos c2]
        by_cases c3 : x < y
        · rw [if_pos c3]
          exact kc_r.old hE hb ⟨y, rfl, eb⟩
        · rw [if_neg c3]
          have c4 : ¬ x.toInt < y.toInt := fun q => c3 (g1.mpr q)
          exact kc_r.old hE hb ⟨x, rfl, by dsimp only; omega⟩
      · rw [if_neg c2]
        by_cases c3 : x < y
        · rw [if_pos c3]
          have c4 := g1.mp c3
          exact kc_mk.i hE h0 (by split <;> omega) (by split <;> omega)
        · rw [if_neg c3]
          have c4 : ¬ x.toInt < y.toInt := fun q => c3 (g1.mpr q)
          exact kc_mk.i hE h0 (by split <;> omega) (by split <;> omega)
  | false =>
    dsimp only
    rw [if_neg (show ¬ (false = true) by decide)]
    by_cases c1 : kc_hi E (1, n1, d1) ≤ kc_lo E (1, n2, d2)
    · rw [if_pos c1, if_neg (fun q => by have := g2.mp q; omega)]
      exact kc_r.old hE ha ⟨x, rfl, ea⟩
    · rw [if_neg c1]
      by_cases c2 : kc_hi E (1, n2, d2) ≤ kc_lo E (1, n1, d1)
      · rw [if_pos c2]
        by_cases c3 : y < x
        · rw [if_pos c3]
          exact kc_r.old hE hb ⟨y, rfl, eb⟩
        · rw [if_neg c3]
          have c4 : ¬ y.toInt < x.toInt := fun q => c3 (g2.mpr q)
          exact kc_r.old hE hb ⟨x, rfl, by dsimp only; omega⟩
      · rw [if_neg c2]
        by_cases c3 : y < x
        · rw [if_pos c3]
          have c4 := g2.mp c3
          exact kc_mk.i hE h0 (by split <;> omega) (by split <;> omega)
        · rw [if_neg c3]
          have c4 : ¬ y.toInt < x.toInt := fun q => c3 (g2.mpr q)
          exact kc_mk.i hE h0 (by split <;> omega) (by split <;> omega)
