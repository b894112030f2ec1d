/-! ===== bits of small numbers ===== -/
/-- how many of the n places from m on are not set -/
def tn_z (f : Nat → Bool) : Nat → Nat → Nat
  | _, 0 => 0
  | m, n + 1 => (if f m = true then 0 else 1) + tn_z f (m + 1) n
theorem tn_z.ext {f g : Nat → Bool} : ∀ {n m : Nat}, (∀ j, m ≤ j → j < m + n → f j = g j) → tn_z f m n = tn_z g m n
  | 0, _, _ => rfl
  | n + 1, m, h => by
    show (if f m = true then 0 else 1) + tn_z f (m + 1) n = (if g m = true then 0 else 1) + tn_z g (m + 1) n
    rw [h m (Nat.le_refl _) (by omega), tn_z.ext (fun j h1 h2 => h j (by omega) (by omega))]
theorem tn_z.one {f g : Nat → Bool} {i : Nat} (h : ∀ j, j ≠ i → f j = g j) (hf : f i = false) (hg : g i = true) : ∀ {n m : Nat}, m ≤ i → i < m + n → tn_z f m n = tn_z g m n + 1
  | 0, m, h1, h2 => by omega
  | n + 1, m, h1, h2 => by
    show (if f m = true then 0 else 1) + tn_z f (m + 1) n = (if g m = true then 0 else 1) + tn_z g (m + 1) n + 1
    by_cases e : m = i
    · subst e
      rw [hf, hg, tn_z.ext (f := f) (g := g) (fun j q1 q2 => h j (by omega))]
      simp
      omega
    · rw [h m e, tn_z.one h hf hg (n := n) (m := m + 1) (by omega) (by omega)]
      omega
theorem tn_z.le {f : Nat → Bool} : ∀ {n m : Nat}, tn_z f m n ≤ n
  | 0, _ => Nat.le_refl _
  | n + 1, m => by
    show (if f m = true then 0 else 1) + tn_z f (m + 1) n ≤ n + 1
    have := tn_z.le (f := f) (n := n) (m := m + 1)
    split <;> omega
theorem tn_z.no {f : Nat → Bool} : ∀ {n m : Nat}, (∀ j, m ≤ j → j < m + n → f j = false) → tn_z f m n = n
  | 0, _, _ => rfl
  | n + 1, m, h => by
    show (if f m = true then 0 else 1) + tn_z f (m + 1) n = n + 1
    rw [h m (Nat.le_refl _) (by omega), tn_z.no (fun j h1 h2 => h j (by omega) (by omega))]
    simp
    omega
theorem tn_ofI {u : Int} (h1 : -2147483648 ≤ u) (h2 : u ≤ 2147483647) : (Int32.ofInt u).toInt = u := by
  rw [Int32.toInt_ofInt]
  show Int.bmod u 4294967296 = u
  exact Int.bmod_eq_of_le (by omega) (by omega)
theorem tn_ofN {u : Int} (h1 : 0 ≤ u) (h2 : u ≤ 2147483647) : (Int32.ofInt u).toBitVec.toNat = u.toNat := by
  have h := tn_ofI (u := u) (by omega) h2
  have h3 := tk_tn (x := Int32.ofInt u) (by omega)
  omega
theorem tn_andN {x z : Int32} (hx : 0 ≤ x.toInt) : (x &&& z).toInt = ((x.toBitVec.toNat &&& z.toBitVec.toNat : Nat) : Int) := by
  have h := tk_and32 x z hx
  rw [tk_tn h.1, Int32.toBitVec_and, BitVec.toNat_and]
theorem tn_orN {x z : Int32} (hx : 0 ≤ x.toInt) (hz : 0 ≤ z.toInt) : (x ||| z).toInt = ((x.toBitVec.toNat ||| z.toBitVec.toNat : Nat) : Int) := by
  have h := tk_or_le hx hz (Int.le_refl _) (Int.le_refl _)
  rw [tk_tn h.1, Int32.toBitVec_or, BitVec.toNat_or]
theorem tn_shr {u k : Int} (h1 : 0 ≤ u) (h2 : u ≤ 4095) (h3 : 0 ≤ k) (h4 : k ≤ 11) : (Int32.ofInt u >>> (Int32.ofInt k &&& 31)).toInt = ((u.toNat >>> k.toNat : Nat) : Int) := by
  have e1 := tk_shrN ⟨k.toNat, by omega⟩
  dsimp only at e1
  rw [show ((k.toNat : Nat) : Int) = k by omega] at e1
  rw [tk_shr, e1, tn_ofI (by omega) (by omega), BitVec.toNat_ofNat, Nat.mod_eq_of_lt (by omega), Nat.shiftRight_eq_div_pow]
  have e2 : u = ((u.toNat : Nat) : Int) := by omega
  conv => lhs; rw [e2]
  simp
theorem tn_bit {u k : Int} (h1 : 0 ≤ u) (h2 : u ≤ 4095) (h3 : 0 ≤ k) (h4 : k ≤ 11) : (Int32.ofInt (Int32.ofInt u >>> (Int32.ofInt k &&& 31)).toInt &&& Int32.ofInt 1).toInt = if u.toNat.testBit k.toNat = true then 1 else 0 := by
  rw [Int32.ofInt_toInt, tn_andN (by rw [tn_shr h1 h2 h3 h4]; exact Int.natCast_nonneg _)]
  have e1 := tn_shr h1 h2 h3 h4
  have e2 := tk_tn (x := Int32.ofInt u >>> (Int32.ofInt k &&& 31)) (by rw [e1]; exact Int.natCast_nonneg _)
  have e3 : (Int32.ofInt u >>> (Int32.ofInt k &&& 31)).toBitVec.toNat = u.toNat >>> k.toNat := Int.ofNat.inj (e2.symm.trans e1)
  rw [e3, show (Int32.ofInt 1).toBitVec.toNat = 1 from rfl, Nat.and_one_is_mod, Nat.testBit_eq_decide_div_mod_eq, Nat.shiftRight_eq_div_pow]
  have : u.toNat / 2 ^ k.toNat % 2 < 2 := Nat.mod_lt _ (by decide)
  by_cases q : u.toNat / 2 ^ k.toNat % 2 = 1
  · simp [q]
  · rw [show u.toNat / 2 ^ k.toNat % 2 = 0 by omega]
    simp
theorem tn_shl {k : Int} (h3 : 0 ≤ k) (h4 : k ≤ 30) : (Int32.ofInt 1 <<< (Int32.ofInt k &&& 31)).toInt = (2 : Int) ^ k.toNat := by
  have e1 := tk_shl1 ⟨k.toNat, by omega⟩
  dsimp only at e1
  rw [show ((k.toNat : Nat) : Int) = k by omega] at e1
  exact e1
theorem tn_pw : ∀ k : Fin 13, (2 : Int) ^ (k : Nat) ≤ 4096 ∧ 1 ≤ (2 : Int) ^ (k : Nat) ∧ (2 : Int) ^ (k : Nat) = ((2 ^ (k : Nat) : Nat) : Int) := by decide
/-- all but the place k -/
def tn_clr (r k : Nat) : Nat := r &&& (4294967295 - 2 ^ k)
theorem tn_clrM : ∀ k : Fin 12, (Int32.ofInt ((2 : Int) ^ (k : Nat)) ^^^ Int32.ofInt (-1)).toBitVec.toNat = 4294967295 - 2 ^ (k : Nat) := by decide +kernel
theorem tn_clrB : ∀ k : Fin 12, ∀ j : Fin 12, (4294967295 - 2 ^ (k : Nat)).testBit j = decide (j ≠ k) := by decide +kernel
theorem tn_clr.ok {u k : Int} (h1 : 0 ≤ u) (h2 : u ≤ 4095) (h3 : 0 ≤ k) (h4 : k ≤ 11) : (Int32.ofInt u &&& Int32.ofInt (Int32.ofInt ((2 : Int) ^ k.toNat) ^^^ Int32.ofInt (-1)).toInt).toInt = (tn_clr u.toNat k.toNat : Int) := by
  have e1 := tn_clrM ⟨k.toNat, by omega⟩
  dsimp only at e1
  rw [Int32.ofInt_toInt, tn_andN (by rw [tn_ofI (by omega) (by omega)]; exact h1), tn_ofN h1 (by omega), e1]
  rfl
theorem tn_clr.bit {r k : Nat} (hr : r < 4096) (hk : k < 12) (j : Nat) : (tn_clr r k).testBit j = (r.testBit j && decide (j ≠ k)) := by
  unfold tn_clr
  rw [Nat.testBit_and]
  by_cases hj : j < 12
  · have := tn_clrB ⟨k, hk⟩ ⟨j, hj⟩
    dsimp only at this
    rw [this]
    congr 1
    simp [Fin.ext_iff]
  · have : r.testBit j = false := Nat.testBit_lt_two_pow (Nat.lt_of_lt_of_le hr (by
      have := Nat.pow_le_pow_right (show 0 < 2 by decide) (show 12 ≤ j by omega)
      omega))
    rw [this]
    simp
theorem tn_clr.le (r k : Nat) : tn_clr r k ≤ r := Nat.and_le_left
theorem tn_clr.lt {r k : Nat} (hr : r < 4096) (hk : k < 12) (h : r.testBit k = true) : tn_clr r k < r := by
  have h1 := tn_clr.le r k
  have h2 : tn_clr r k ≠ r := fun q => by
    have h3 := tn_clr.bit hr hk k
    rw [q, h] at h3
    simp at h3
  omega
theorem tn_or {u k : Int} (h1 : 0 ≤ u) (h2 : u ≤ 4095) (h3 : 0 ≤ k) (h4 : k ≤ 11) : (Int32.ofInt u ||| Int32.ofInt ((2 : Int) ^ k.toNat)).toInt = ((u.toNat ||| 2 ^ k.toNat : Nat) : Int) := by
  obtain ⟨p1, p2, p3⟩ := tn_pw ⟨k.toNat, by omega⟩
  dsimp only at p1 p2 p3
  rw [tn_orN (by rw [tn_ofI (by omega) (by omega)]; exact h1) (by rw [tn_ofI (by omega) (by omega)]; omega), tn_ofN h1 (by omega), tn_ofN (by omega) (by omega)]
  congr 2
theorem tn_or.lt {r k : Nat} (hr : r < 4096) (hk : k < 12) : r ||| 2 ^ k < 4096 := Nat.or_lt_two_pow (n := 12) hr (Nat.pow_lt_pow_right (by decide) hk)
theorem tn_or.bit (r k j : Nat) : (r ||| 2 ^ k).testBit j = (r.testBit j || decide (k = j)) := by
  rw [Nat.testBit_or, Nat.testBit_two_pow]
theorem tn_mul {u : Int} (h1 : 0 ≤ u) (h2 : u ≤ 4095) : (Int32.ofInt 12 * Int32.ofInt u).toInt = 12 * u := by
  have e1 : (Int32.ofInt 12).toInt = 12 := rfl
  have e2 := tn_ofI (u := u) (by omega) (by omega)
  rw [kc_mul32 (by rw [e1, e2]; omega) (by rw [e1, e2]; omega), e1, e2]
theorem tn_neg {u : Int} (h1 : -1000 ≤ u) (h2 : u ≤ 1000) : (-(Int32.ofInt u)).toInt = -u := by
  have e2 := tn_ofI (u := u) (by omega) (by omega)
  have e0 : (0 : Int32).toInt = 0 := rfl
  rw [← Int32.zero_sub, kc_sub32 (by rw [e0, e2]; omega) (by rw [e0, e2]; omega), e0, e2]
  omega
/-- a set is not empty: a place of it -/
theorem tn_some {r n : Nat} (hr : r < 2 ^ n) (h : r ≠ 0) : ∃ k, k < n ∧ r.testBit k = true := by
  obtain ⟨k, hk⟩ := Nat.exists_testBit_of_ne_zero h
  refine ⟨k, ?_, hk⟩
  by_cases q : k < n
  · exact q
  · exact absurd hk (by
      rw [Nat.testBit_lt_two_pow (Nat.lt_of_lt_of_le hr (Nat.pow_le_pow_right (by decide) (by omega)))]
      decide)
/-- the last place of a set taken out -/
def tn_low (r : Nat) : Bool := let w := r &&& (r - 1); Nat.beq (tn_z (fun j => w.testBit j) 0 12) (tn_z (fun j => r.testBit j) 0 12 + 1)
theorem tn_lowC : (List.range 4095).all (fun r => tn_low (r + 1)) = true := by decide +kernel
theorem tn_low.ok {r : Nat} (h1 : 1 ≤ r) (h2 : r < 4096) : tn_z (fun j => (r &&& (r - 1)).testBit j) 0 12 = tn_z (fun j => r.testBit j) 0 12 + 1 := by
  have h := List.all_eq_true.mp tn_lowC (r - 1) (List.mem_range.mpr (by omega))
  rw [show r - 1 + 1 = r by omega] at h
  exact Nat.eq_of_beq_eq_true h
theorem tn_andI {u v : Int} (h1 : 0 ≤ u) (h2 : u ≤ 4095) (h3 : 0 ≤ v) (h4 : v ≤ 4095) : (Int32.ofInt u &&& Int32.ofInt v).toInt = ((u.toNat &&& v.toNat : Nat) : Int) := by
  rw [tn_andN (by rw [tn_ofI (by omega) (by omega)]; exact h1), tn_ofN h1 (by omega), tn_ofN h3 (by omega)]
