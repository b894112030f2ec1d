theorem tk_con.eq {E : tk_E} {a : tk_P} (h : tk_con E a = true) : tk_lo E a = tk_hi E a := of_decide_eq_true h
theorem tk_nr.len (r : Nat) (E : tk_E) (s : Nat) (k : Int) : (tk_nr r E s k).length = E.length := by
  unfold tk_nr
  split
  · exact tk_rf.len _ _ _ _
  · exact tk_rh.len _ _ _
  · exact tk_rl.len _ _ _
  · exact tk_rl.len _ _ _
  · exact tk_rh.len _ _ _
theorem tk_nr.ok {r : Nat} {ρ : Nat → Int} {E : tk_E} {s : Nat} {k : Int} (h : tk_env ρ E) (h1 : r ≠ 1) (hr : kc_rel r (ρ s) k) : tk_env ρ (tk_nr r E s k) := by
  unfold kc_rel at hr
  unfold tk_nr
  split at hr
  · exact tk_rf.ok h (by omega) (by omega)
  · exact absurd rfl h1
  · exact tk_rh.ok h (by omega)
  · exact tk_rl.ok h (by omega)
  · exact tk_rl.ok h (by omega)
  · split
    · first | contradiction | (exfalso; simp_all; done)
    · first | contradiction | (exfalso; simp_all; done)
    · first | contradiction | (exfalso; simp_all; done)
    · first | contradiction | (exfalso; simp_all; done)
    · exact tk_rh.ok h (by omega)
theorem tk_cn.len (r : Nat) (E E0 : tk_E) (a b : tk_P) : (tk_cn r E E0 a b).length = E.length := by
  unfold tk_cn
  split
  · rw [tk_rf.len, tk_rf.len]
  · rw [tk_rl.len, tk_rh.len]
  · rw [tk_rh.len, tk_rl.len]
  · rw [tk_rh.len, tk_rl.len]
  · rw [tk_rl.len, tk_rh.len]
theorem tk_cn.ok {r : Nat} {ρ : Nat → Int} {E E0 : tk_E} {a b : tk_P} (h : tk_env ρ E) (ha : tk_lo E0 a ≤ ρ a.1 + a.2 ∧ ρ a.1 + a.2 ≤ tk_hi E0 a) (hb : tk_lo E0 b ≤ ρ b.1 + b.2 ∧ ρ b.1 + b.2 ≤ tk_hi E0 b) (h1 : r ≠ 1) (hr : kc_rel r (ρ a.1 + a.2) (ρ b.1 + b.2)) : tk_env ρ (tk_cn r E E0 a b) := by
  unfold kc_rel at hr
  unfold tk_cn
  split at hr
  · exact tk_rf.ok (tk_rf.ok h (by omega) (by omega)) (by omega) (by omega)
  · exact absurd rfl h1
  · exact tk_rl.ok (tk_rh.ok h (by omega)) (by omega)
  · exact tk_rh.ok (tk_rl.ok h (by omega)) (by omega)
  · exact tk_rh.ok (tk_rl.ok h (by omega)) (by omega)
  · split
    · first | contradiction | (exfalso; simp_all; done)
    · first | contradiction | (exfalso; simp_all; done)
    · first | contradiction | (exfalso; simp_all; done)
    · first | contradiction | (exfalso; simp_all; done)
    · exact tk_rl.ok (tk_rh.ok h (by omega)) (by omega)
theorem tk_dd.ok {r : Nat} {ρ : Nat → Int} {a b : tk_P} (e : a.1 = b.1) (h1 : r ≠ 1) (hr : kc_rel r (ρ a.1 + a.2) (ρ b.1 + b.2)) : tk_dd r a b = true := by
  rw [e] at hr
  unfold kc_rel at hr
  unfold tk_dd
  split at hr
  · exact decide_eq_true (by omega)
  · exact absurd rfl h1
  · exact decide_eq_true (by omega)
  · exact decide_eq_true (by omega)
  · exact decide_eq_true (by omega)
  · split
    · first | contradiction | (exfalso; simp_all; done)
    · first | contradiction | (exfalso; simp_all; done)
    · first | contradiction | (exfalso; simp_all; done)
    · first | contradiction | (exfalso; simp_all; done)
    · exact decide_eq_true (by omega)
theorem kc_rel.shift {r : Nat} {u v u' v' : Int} (h : kc_rel r u v) (e : u - v = u' - v') : kc_rel r u' v' := by
  unfold kc_rel at h ⊢
  split at h <;> omega
/-- a comparison that holds -/
theorem tk_c1.ok {r : Nat} {ρ : Nat → Int} {E : tk_E} {a b : tk_P} (h : tk_env ρ E) (ha : a.1 < E.length) (hb : b.1 < E.length) (h1 : r ≠ 1) (hr : kc_rel r (ρ a.1 + a.2) (ρ b.1 + b.2)) : ∃ (E' : tk_E) (ρ' : Nat → Int), tk_c1 r E a b = some E' ∧ tk_env ρ' E' ∧ (∀ k, k < E.length → ρ' k = ρ k) ∧ E.length ≤ E'.length := by
  unfold tk_c1
  split
  · rename_i e
    rw [if_pos (tk_dd.ok (tk_bq e) h1 hr)]
    exact ⟨E, ρ, rfl, h, fun _ _ => rfl, Nat.le_refl _⟩
  · have hA := h.at a
    have hB := h.at b
    have key : ∃ (E1 : tk_E × Nat) (ρ' : Nat → Int), (if (tk_con E a || tk_con E b) = true then (E, a.1) else (let q := tk_lin E 2 a.1 b.1 0; (tk_nr r q.1 q.2.1 (b.2 - a.2 - q.2.2), q.2.1))) = E1 ∧ tk_env ρ' E1.1 ∧ (∀ k, k < E.length → ρ' k = ρ k) ∧ E.length ≤ E1.1.length := by
      split
      · exact ⟨(E, a.1), ρ, rfl, h, fun _ _ => rfl, Nat.le_refl _⟩
      · obtain ⟨ρ', g1, g2, g3, g4, g5⟩ := tk_lin.ok (c := 0) h (Or.inr rfl) ha hb
        have g5 : ρ' (tk_lin E 2 a.1 b.1 0).2.1 + (tk_lin E 2 a.1 b.1 0).2.2 = ρ a.1 - ρ b.1 + 0 := g5
        refine ⟨_, ρ', rfl, tk_nr.ok g2 h1 (hr.shift (by omega)), g1, ?_⟩
        dsimp only
        rw [tk_nr.len]
        exact g3
    obtain ⟨E1, ρ', k1, k2, k3, k4⟩ := key
    dsimp only at k1 ⊢
    rw [k1]
    have hc : tk_env ρ' (tk_cn r E1.1 E a b) := tk_cn.ok k2 (by rw [k3 _ ha]; exact hA) (by rw [k3 _ hb]; exact hB) h1 (by rw [k3 _ ha, k3 _ hb]; exact hr)
    obtain ⟨t1, t2⟩ := tk_tt.both hc
    rw [tk_em.no t1, if_neg (by decide)]
    exact ⟨_, ρ', rfl, t1, k3, by rw [t2, tk_cn.len]; exact k4⟩
-- arithmetic
theorem tk_any.ok {t : Nat} {ρ : Nat → Int} {E : tk_E} {w : Int} (h : tk_env ρ E) (h0 : 0 < E.length ∧ ρ 0 = 0) (hw : tk_Rl t ≤ w ∧ w ≤ tk_Rh t) : tk_r E ρ (tk_any t E) w := tk_mk.ok h h0 hw.1 hw.2
section TA
variable {t : Nat} {ρ : Nat → Int} {E : tk_E} {a b : tk_P} {u v w : Int}
theorem tk_add.ok (h : tk_env ρ E) (h0 : 0 < E.length ∧ ρ 0 = 0) (ha : a.1 < E.length) (hb : b.1 < E.length) (eu : u = ρ a.1 + a.2) (ev : v = ρ b.1 + b.2) (hw : tk_Rl t ≤ w ∧ w ≤ tk_Rh t) (he : tk_Rl t ≤ u + v → u + v ≤ tk_Rh t → w = u + v) : tk_r E ρ (tk_add t E a b) w := by
  have hA := h.at a
  have hB := h.at b
  unfold tk_add
  split
  · rename_i hc
    have ew := he (by omega) (by omega)
    split
    · rename_i c1
      have c1 := tk_con.eq c1
      exact tk_r.old h ha (by dsimp only; omega)
    · split
      · rename_i c1
        have c1 := tk_con.eq c1
        exact tk_r.old h hb (by dsimp only; omega)
      · have := tk_lin.ok (c := a.2 + b.2) h (Or.inl rfl) ha hb
        rw [show w = tk_o 1 (ρ a.1) (ρ b.1) + (a.2 + b.2) by show w = ρ a.1 + ρ b.1 + (a.2 + b.2); omega]
        exact this
  · exact tk_any.ok h h0 hw
theorem tk_sub.ok (h : tk_env ρ E) (h0 : 0 < E.length ∧ ρ 0 = 0) (ha : a.1 < E.length) (hb : b.1 < E.length) (eu : u = ρ a.1 + a.2) (ev : v = ρ b.1 + b.2) (hw : tk_Rl t ≤ w ∧ w ≤ tk_Rh t) (he : tk_Rl t ≤ u - v → u - v ≤ tk_Rh t → w = u - v) : tk_r E ρ (tk_sub t E a b) w := by
  have hA := h.at a
  have hB := h.at b
  unfold tk_sub
  split
  · rename_i hc
    have ew := he (by omega) (by omega)
    split
    · rename_i c1
      have c1 := tk_con.eq c1
      exact tk_r.old h ha (by dsimp only; omega)
    · split
      · rename_i c1
        have c1 := tk_bq c1
        rw [c1] at eu
        exact tk_r.old h h0.1 (by dsimp only; omega)
      · split
        · rename_i c1
          have c1 := tk_con.eq c1
          exact tk_mk.ok h h0 (by omega) (by omega)
        · have := tk_lin.ok (c := a.2 - b.2) h (Or.inr rfl) ha hb
          rw [show w = tk_o 2 (ρ a.1) (ρ b.1) + (a.2 - b.2) by show w = ρ a.1 - ρ b.1 + (a.2 - b.2); omega]
          exact this
  · exact tk_any.ok h h0 hw
theorem tk_mul.ok (h : tk_env ρ E) (h0 : 0 < E.length ∧ ρ 0 = 0) (eu : u = ρ a.1 + a.2) (ev : v = ρ b.1 + b.2) (hw : tk_Rl t ≤ w ∧ w ≤ tk_Rh t) (he : 0 ≤ u → 0 ≤ v → u * v ≤ tk_Rh t → w = u * v) : tk_r E ρ (tk_mul t E a b) w := by
  have hA := h.at a
  have hB := h.at b
  rw [← eu] at hA
  rw [← ev] at hB
  unfold tk_mul
  split
  · rename_i hc
    obtain ⟨c1, c2, c3⟩ := hc
    have m1 : tk_lo E a * tk_lo E b ≤ u * v := Int.mul_le_mul hA.1 hB.1 c2 (by omega)
    have m2 : u * v ≤ tk_hi E a * tk_hi E b := Int.mul_le_mul hA.2 hB.2 (by omega) (by omega)
    have ew := he (by omega) (by omega) (by omega)
    exact tk_mk.ok h h0 (by omega) (by omega)
  · exact tk_any.ok h h0 hw
theorem tk_div.ok (h : tk_env ρ E) (h0 : 0 < E.length ∧ ρ 0 = 0) (eu : u = ρ a.1 + a.2) (ev : v = ρ b.1 + b.2) (hw : tk_Rl t ≤ w ∧ w ≤ tk_Rh t) (he : 0 ≤ u → 0 < v → w = u / v) : tk_r E ρ (tk_div t E a b) w := by
  have hA := h.at a
  have hB := h.at b
  rw [← eu] at hA
  rw [← ev] at hB
  unfold tk_div
  split
  · rename_i hc
    obtain ⟨c1, c2⟩ := hc
    have ew := he (by omega) (by omega)
    have q0 : 0 ≤ tk_lo E a / tk_hi E b := Int.ediv_nonneg c1 (by omega)
    have q1 : 0 ≤ u / v := Int.ediv_nonneg (by omega) (by omega)
    have m1 : tk_lo E a / tk_hi E b * v ≤ u := by
      have := Int.mul_le_mul_of_nonneg_left hB.2 q0
      have := Int.ediv_mul_le (tk_lo E a) (show tk_hi E b ≠ 0 by omega)
      omega
    have m2 : u / v * tk_lo E b ≤ tk_hi E a := by
      have := Int.mul_le_mul_of_nonneg_left hB.1 q1
      have := Int.ediv_mul_le u (show v ≠ 0 by omega)
      omega
    have l1 := (Int.le_ediv_iff_mul_le (show 0 < v by omega)).mpr m1
    have l2 := (Int.le_ediv_iff_mul_le c2).mpr m2
    exact tk_mk.ok h h0 (by omega) (by omega)
  · exact tk_any.ok h h0 hw
/-- .. and it is at most b + c -/
theorem tk_bw.ok {q : tk_E × tk_P} {c : Int} (h : tk_r E ρ q w) (hb : b.1 < E.length) (hle : w ≤ ρ b.1 + b.2 + c) : tk_r E ρ (tk_bw q b c) w := by
  unfold tk_bw
  split
  · exact h
  · obtain ⟨ρ1, g1, g2, g3, g4, g5⟩ := h
    obtain ⟨ρ2, k1, k2, k3, k4, k5⟩ := tk_lin.ok (c := 0) g2 (Or.inr rfl) g4 (Nat.lt_of_lt_of_le hb g3)
    have k5 : ρ2 (tk_lin q.1 2 q.2.1 b.1 0).2.1 + (tk_lin q.1 2 q.2.1 b.1 0).2.2 = ρ1 q.2.1 - ρ1 b.1 + 0 := k5
    have hb1 := g1 _ hb
    obtain ⟨t1, t2⟩ := tk_tt.both (tk_rh.ok (s := (tk_lin q.1 2 q.2.1 b.1 0).2.1) (l := b.2 + c - q.2.2 - (tk_lin q.1 2 q.2.1 b.1 0).2.2) k2 (by omega))
    refine ⟨ρ2, fun k hk => (k1 k (Nat.lt_of_lt_of_le hk g3)).trans (g1 k hk), t1, ?_, ?_, ?_⟩
    · dsimp only
      rw [t2, tk_rh.len]
      omega
    · dsimp only
      rw [t2, tk_rh.len]
      omega
    · dsimp only
      rw [k1 _ g4]
      exact g5
theorem tk_rem.ok (h : tk_env ρ E) (h0 : 0 < E.length ∧ ρ 0 = 0) (hb : b.1 < E.length) (eu : u = ρ a.1 + a.2) (ev : v = ρ b.1 + b.2) (hw : tk_Rl t ≤ w ∧ w ≤ tk_Rh t) (he : 0 ≤ u → 0 < v → w = u % v) : tk_r E ρ (tk_rem t E a b) w := by
  have hA := h.at a
  have hB := h.at b
  rw [← eu] at hA
  rw [← ev] at hB
  unfold tk_rem
  split
  · rename_i hc
    obtain ⟨c1, c2⟩ := hc
    have ew := he (by omega) (by omega)
    have m1 := Int.emod_nonneg u (show v ≠ 0 by omega)
    have m2 := Int.emod_lt_of_pos u (show 0 < v by omega)
    have m3 : u % v ≤ u := by
      by_cases q : u < v
      · rw [Int.emod_eq_of_lt (by omega) q]
        exact Int.le_refl _
      · omega
    refine tk_bw.ok (tk_mk.ok h h0 (by omega) ?_) hb (by omega)
    split <;> omega
  · exact tk_any.ok h h0 hw
theorem tk_and.ok (h : tk_env ρ E) (h0 : 0 < E.length ∧ ρ 0 = 0) (hb : b.1 < E.length) (eu : u = ρ a.1 + a.2) (ev : v = ρ b.1 + b.2) (hw : tk_Rl t ≤ w ∧ w ≤ tk_Rh t) (hc0 : t = 1 → w = (Int32.ofInt u &&& Int32.ofInt v).toInt) (h1 : 0 ≤ u → 0 ≤ w ∧ w ≤ u) (h2 : 0 ≤ v → 0 ≤ w ∧ w ≤ v) : tk_r E ρ (tk_and t E a b) w := by
  have hA := h.at a
  have hB := h.at b
  rw [← eu] at hA
  rw [← ev] at hB
  unfold tk_and
  split
  · rename_i hc
    simp only [Bool.and_eq_true] at hc
    obtain ⟨⟨c1, c2⟩, c3⟩ := hc
    have c2 := tk_con.eq c2
    have c3 := tk_con.eq c3
    refine tk_r.old h h0.1 ?_
    dsimp only
    rw [h0.2, hc0 (tk_bq c1), show tk_lo E a = u by omega, show tk_lo E b = v by omega]
    omega
  · split
    · have hv := h2 (by omega)
      refine tk_bw.ok (tk_mk.ok h h0 (by omega) ?_) hb (by omega)
      split
      · have hu := h1 (by omega)
        split <;> omega
      · omega
    · split
      · have hu := h1 (by omega)
        exact tk_mk.ok h h0 (by omega) (by omega)
      · exact tk_any.ok h h0 hw
end TA
-- bits of ints
theorem tk_tn {x : Int32} (h : 0 ≤ x.toInt) : x.toInt = (x.toBitVec.toNat : Int) := by
  show x.toBitVec.toInt = _
  have h' : 0 ≤ x.toBitVec.toInt := h
  rw [BitVec.toInt_eq_toNat_cond] at h' ⊢
  split
  · rfl
  · rename_i hc
    rw [if_neg hc] at h'
    have := x.toBitVec.isLt
    omega
theorem tk_ones.lt {n : Int} (h : 0 ≤ n) : n.toNat < 2 ^ (if n = 0 then 0 else n.toNat.log2 + 1) := by
  split
  · subst_vars
    decide
  · exact Nat.lt_log2_self
theorem tk_or_le {x y : Int32} {p q : Int} (hx : 0 ≤ x.toInt) (hy : 0 ≤ y.toInt) (h1 : x.toInt ≤ p) (h2 : y.toInt ≤ q) : 0 ≤ (x ||| y).toInt ∧ (x ||| y).toInt ≤ (if tk_ones p ≤ tk_ones q then tk_ones q else tk_ones p) := by
  have ex := tk_tn hx
  have ey := tk_tn hy
  have lx : x.toBitVec.toNat < 2 ^ 31 := by
    have := x.toInt_lt
    omega
  have ly : y.toBitVec.toNat < 2 ^ 31 := by
    have := y.toInt_lt
    omega
  have en : (x ||| y).toBitVec.toNat = x.toBitVec.toNat ||| y.toBitVec.toNat := by
    rw [Int32.toBitVec_or, BitVec.toNat_or]
  have eo : (x ||| y).toInt = ((x.toBitVec.toNat ||| y.toBitVec.toNat : Nat) : Int) := by
    have hlt : x.toBitVec.toNat ||| y.toBitVec.toNat < 2 ^ 31 := Nat.or_lt_two_pow lx ly
    show (x ||| y).toBitVec.toInt = _
    rw [BitVec.toInt_eq_toNat_cond, if_pos (by rw [en]; omega), en]
  rw [eo]
  refine ⟨by omega, ?_⟩
  have gen : ∀ k : Nat, x.toBitVec.toNat < 2 ^ k → y.toBitVec.toNat < 2 ^ k → ((x.toBitVec.toNat ||| y.toBitVec.toNat : Nat) : Int) ≤ (2 : Int) ^ k - 1 := fun k hk1 hk2 => by
    have h3 : x.toBitVec.toNat ||| y.toBitVec.toNat < 2 ^ k := Nat.or_lt_two_pow hk1 hk2
    have h4 : ((2 ^ k : Nat) : Int) = (2 : Int) ^ k := by simp
    omega
  have cs : ∀ k : Nat, ((2 ^ k : Nat) : Int) = (2 : Int) ^ k := fun k => by simp
  have hp := tk_ones.lt (n := p) (by omega)
  have hq := tk_ones.lt (n := q) (by omega)
  generalize hkp : (if p = 0 then 0 else p.toNat.log2 + 1) = kp at hp
  generalize hkq : (if q = 0 then 0 else q.toNat.log2 + 1) = kq at hq
  have ep : tk_ones p = (2 : Int) ^ kp - 1 := by unfold tk_ones; rw [hkp]
  have eq : tk_ones q = (2 : Int) ^ kq - 1 := by unfold tk_ones; rw [hkq]
  have xp : x.toBitVec.toNat < 2 ^ kp := by omega
  have yq : y.toBitVec.toNat < 2 ^ kq := by omega
  have cp := cs kp
  have cq := cs kq
  rw [ep, eq]
  split
  · rename_i hc
    have hc : 2 ^ kp ≤ 2 ^ kq := by omega
    exact gen kq (Nat.lt_of_lt_of_le xp hc) yq
  · rename_i hc
    have hc : 2 ^ kq ≤ 2 ^ kp := by omega
    exact gen kp xp (Nat.lt_of_lt_of_le yq hc)
theorem tk_shl1 : ∀ n : Fin 31, ((1 : Int32) <<< (Int32.ofInt ((n : Nat) : Int) &&& 31)).toInt = (2 : Int) ^ (n : Nat) := by decide +kernel
theorem tk_shrN : ∀ n : Fin 32, (Int32.ofInt ((n : Nat) : Int) &&& 31).toBitVec.smod 32 = BitVec.ofNat 32 (n : Nat) := by decide +kernel
theorem tk_shr (x y : Int32) : (x >>> y).toInt = x.toInt / 2 ^ (y.toBitVec.smod 32).toNat := by
  show (x >>> y).toBitVec.toInt = _
  rw [Int32.toBitVec_shiftRight]
  show (x.toBitVec.sshiftRight (y.toBitVec.smod 32).toNat).toInt = _
  rw [BitVec.toInt_sshiftRight, Int.shiftRight_eq_div_pow]
  rfl
