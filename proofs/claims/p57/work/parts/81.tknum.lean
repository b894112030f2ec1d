/-! ===== what the symbols say ===== -/
def tk_dv (ρ : Nat → Int) (n : Nat) (e : tk_N) (z : Int) : Prop := e.1 ≤ z ∧ z ≤ e.2.1 ∧ (e.2.2.1 = 1 ∨ e.2.2.1 = 2 → e.2.2.2.1 < n ∧ e.2.2.2.2.1 < n) ∧ (e.2.2.1 = 1 → z = ρ e.2.2.2.1 + ρ e.2.2.2.2.1 + e.2.2.2.2.2) ∧ (e.2.2.1 = 2 → z = ρ e.2.2.2.1 - ρ e.2.2.2.2.1 + e.2.2.2.2.2)
def tk_env (ρ : Nat → Int) (E : tk_E) : Prop := ∀ n : Nat, tk_dv ρ n (tk_at E n) (ρ n)
theorem tk_env.at {ρ : Nat → Int} {E : tk_E} (h : tk_env ρ E) (a : tk_P) : tk_lo E a ≤ ρ a.1 + a.2 ∧ ρ a.1 + a.2 ≤ tk_hi E a := by
  have h1 := (h a.1).1
  have h2 := (h a.1).2.1
  unfold tk_lo tk_hi
  omega
theorem tk_env.mem {ρ : Nat → Int} {E : tk_E} (h : tk_env ρ E) {e : tk_N} (he : e ∈ E) : ∃ n : Nat, n < E.length ∧ tk_dv ρ n e (ρ n) := by
  obtain ⟨n, hn, e1⟩ := List.mem_iff_getElem.mp he
  refine ⟨n, hn, ?_⟩
  have := h n
  unfold tk_at at this
  rw [List.getD_eq_getElem?_getD, List.getElem?_eq_getElem hn, e1] at this
  exact this
theorem tk_at.app {E F : tk_E} {n : Nat} (h : n < E.length) : tk_at (E ++ F) n = tk_at E n := by
  unfold tk_at
  rw [List.getD_eq_getElem?_getD, List.getD_eq_getElem?_getD, List.getElem?_append_left h]
theorem tk_at.out {E : tk_E} {n : Nat} (h : E.length ≤ n) : tk_at E n = (0, 0, 0, 0, 0, 0) := by
  unfold tk_at
  rw [List.getD_eq_getElem?_getD, List.getElem?_eq_none h]
  rfl
theorem tk_at.new {E : tk_E} {e : tk_N} : tk_at (E ++ [e]) E.length = e := by
  unfold tk_at
  rw [List.getD_eq_getElem?_getD, List.getElem?_append_right (Nat.le_refl _), Nat.sub_self]
  rfl
theorem tk_dv.ext {ρ ρ' : Nat → Int} {n : Nat} {e : tk_N} {z : Int} (h : tk_dv ρ n e z) (h1 : ∀ k, k < n → ρ' k = ρ k) : tk_dv ρ' n e z := by
  obtain ⟨a1, a2, a3, a4, a5⟩ := h
  refine ⟨a1, a2, a3, fun q => ?_, fun q => ?_⟩
  · have := a3 (Or.inl q)
    rw [h1 _ this.1, h1 _ this.2]
    exact a4 q
  · have := a3 (Or.inr q)
    rw [h1 _ this.1, h1 _ this.2]
    exact a5 q
theorem tk_dv.bare {ρ : Nat → Int} {n : Nat} {lo hi z : Int} (h1 : lo ≤ z) (h2 : z ≤ hi) : tk_dv ρ n (lo, hi, 0, 0, 0, 0) z := by
  refine ⟨h1, h2, fun q => ?_, fun q => ?_, fun q => ?_⟩
  · rcases q with q | q
    · cases q
    · cases q
  · cases q
  · cases q
theorem tk_env.pushd {ρ : Nat → Int} {E : tk_E} (h : tk_env ρ E) {e : tk_N} {z : Int} (hz : tk_dv ρ E.length e z) : tk_env (va_up ρ E.length z) (E ++ [e]) := by
  intro n
  by_cases e1 : n = E.length
  · subst e1
    rw [tk_at.new, va_up_self]
    exact hz.ext (fun k hk => va_up_ne _ _ (Nat.ne_of_lt hk))
  · rw [va_up_ne _ _ e1]
    by_cases l : n < E.length
    · rw [tk_at.app l]
      exact (h n).ext (fun k hk => va_up_ne _ _ (by omega))
    · have := h n
      rw [tk_at.out (by omega)] at this
      rw [tk_at.out (by simp; omega)]
      exact tk_dv.bare this.1 this.2.1
/-- a number that comes, with the symbols as they then are -/
def tk_r (E : tk_E) (ρ : Nat → Int) (q : tk_E × tk_P) (z : Int) : Prop := ∃ ρ' : Nat → Int, (∀ k, k < E.length → ρ' k = ρ k) ∧ tk_env ρ' q.1 ∧ E.length ≤ q.1.length ∧ q.2.1 < q.1.length ∧ ρ' q.2.1 + q.2.2 = z
theorem tk_r.old {E : tk_E} {ρ : Nat → Int} {a : tk_P} {z : Int} (h : tk_env ρ E) (ha : a.1 < E.length) (hz : ρ a.1 + a.2 = z) : tk_r E ρ (E, a) z := ⟨ρ, fun _ _ => rfl, h, Nat.le_refl _, ha, hz⟩
theorem tk_r.new {E : tk_E} {ρ : Nat → Int} {e : tk_N} {z c : Int} (h : tk_env ρ E) (hz : tk_dv ρ E.length e z) : tk_r E ρ (E ++ [e], (E.length, c)) (z + c) :=
  ⟨va_up ρ E.length z, fun k hk => va_up_ne _ _ (Nat.ne_of_lt hk), h.pushd hz, by simp, by simp, by rw [va_up_self]⟩
theorem tk_mk.ok {E : tk_E} {ρ : Nat → Int} {lo hi z : Int} (h : tk_env ρ E) (h0 : 0 < E.length ∧ ρ 0 = 0) (h1 : lo ≤ z) (h2 : z ≤ hi) : tk_r E ρ (tk_mk E lo hi) z := by
  unfold tk_mk
  split
  · exact tk_r.old h h0.1 (by dsimp only; omega)
  · have := tk_r.new (c := 0) h (tk_dv.bare (n := E.length) (ρ := ρ) h1 h2)
    rw [Int.add_zero] at this
    exact this
theorem tk_mk.len (E : tk_E) (lo hi : Int) (h0 : 0 < E.length) : E.length ≤ (tk_mk E lo hi).1.length ∧ (tk_mk E lo hi).2.1 < (tk_mk E lo hi).1.length := by
  unfold tk_mk
  split
  · exact ⟨Nat.le_refl _, h0⟩
  · exact ⟨by simp, by simp⟩
theorem tk_fold {α β : Type} (P : β → Prop) (f : β → α → β) : ∀ (l : List α), (∀ (b : β) (a : α), a ∈ l → P b → P (f b a)) → ∀ b : β, P b → P (l.foldl f b)
  | [], _, _, hb => hb
  | a :: l, h, b, hb => tk_fold P f l (fun b a ha hb => h b a (List.mem_cons_of_mem _ ha) hb) (f b a) (h b a List.mem_cons_self hb)
def tk_in (z : Int) (p : Int × Int) : Prop := p.1 ≤ z ∧ z ≤ p.2
theorem tk_mt.ok {z lo hi : Int} {p : Int × Int} (h : tk_in z p) (h1 : lo ≤ z) (h2 : z ≤ hi) : tk_in z (tk_mt p lo hi) := by
  obtain ⟨a, b⟩ := h
  unfold tk_in tk_mt
  dsimp only
  constructor <;> split <;> omega
theorem tk_bq {a b : Nat} (h : Nat.beq a b = true) : a = b := Nat.eq_of_beq_eq_true h
theorem tk_B3.ok {ρ : Nat → Int} {E : tk_E} (h : tk_env ρ E) {w b : Nat} {lo hi u z : Int} {p : Int × Int} (hp : tk_in z p) (h1 : lo ≤ u) (h2 : u ≤ hi) (hz : z = u + (ρ w - ρ b)) : tk_in z (tk_B3 E w b lo hi p) := by
  unfold tk_B3
  refine tk_fold (tk_in z) _ E (fun p f hf hp => ?_) p hp
  split
  · rename_i hc
    simp only [Bool.and_eq_true] at hc
    obtain ⟨⟨c1, c2⟩, c3⟩ := hc
    have c1 := tk_bq c1
    have c2 := tk_bq c2
    have c3 := tk_bq c3
    obtain ⟨n, -, d1, d2, -, -, d5⟩ := h.mem hf
    have d5 := d5 c1
    rw [c2, c3] at d5
    exact tk_mt.ok hp (by omega) (by omega)
  · exact hp
theorem tk_B2.ok {ρ : Nat → Int} {E : tk_E} (h : tk_env ρ E) (a b : Nat) : tk_in (ρ a - ρ b) (tk_B2 E a b) := by
  unfold tk_B2
  split
  · rename_i hc
    rw [tk_bq hc]
    exact ⟨by dsimp only; omega, by dsimp only; omega⟩
  · refine tk_fold (tk_in (ρ a - ρ b)) _ E (fun p e he hp => ?_) _ ⟨?_, ?_⟩
    · split
      · rename_i hc
        have hc := tk_bq hc
        obtain ⟨n, -, d1, d2, -, -, d5⟩ := h.mem he
        have d5 := d5 hc
        have hq : tk_in (ρ a - ρ b) (if (Nat.beq e.2.2.2.1 a && Nat.beq e.2.2.2.2.1 b) = true then tk_mt p (e.1 - e.2.2.2.2.2) (e.2.1 - e.2.2.2.2.2) else if (Nat.beq e.2.2.2.1 b && Nat.beq e.2.2.2.2.1 a) = true then tk_mt p (e.2.2.2.2.2 - e.2.1) (e.2.2.2.2.2 - e.1) else p) := by
          split
          · rename_i h1
            rw [Bool.and_eq_true] at h1
            have e1 := tk_bq h1.1
            have e2 := tk_bq h1.2
            rw [e1, e2] at d5
            exact tk_mt.ok hp (by omega) (by omega)
          · split
            · rename_i h1
              rw [Bool.and_eq_true] at h1
              have e1 := tk_bq h1.1
              have e2 := tk_bq h1.2
              rw [e1, e2] at d5
              exact tk_mt.ok hp (by omega) (by omega)
            · exact hp
        dsimp only
        split
        · rename_i h1
          have e1 := tk_bq h1
          rw [e1] at d5
          exact tk_B3.ok (u := ρ a - ρ e.2.2.2.2.1) h hq (by omega) (by omega) (by omega)
        · exact hq
      · exact hp
    · have h1 := (h a).1
      have h2 := (h b).2.1
      dsimp only
      omega
    · have h1 := (h a).2.1
      have h2 := (h b).1
      dsimp only
      omega
theorem tk_B4.ok {ρ : Nat → Int} {E : tk_E} (h : tk_env ρ E) {e : tk_N} {n p q : Nat} {z : Int × Int} (he : tk_dv ρ n e (ρ n)) (ho : e.2.2.1 = 1) (hz : tk_in (ρ p + ρ q) z) : tk_in (ρ p + ρ q) (tk_B4 E e p q z) := by
  obtain ⟨d1, d2, -, d4, -⟩ := he
  have d4 := d4 ho
  unfold tk_B4
  split
  · rename_i h1
    have e1 := tk_bq h1
    rw [e1] at d4
    obtain ⟨g1, g2⟩ := tk_B2.ok h q e.2.2.2.2.1
    exact tk_mt.ok hz (by omega) (by omega)
  · split
    · rename_i h1
      have e1 := tk_bq h1
      rw [e1] at d4
      obtain ⟨g1, g2⟩ := tk_B2.ok h q e.2.2.2.1
      exact tk_mt.ok hz (by omega) (by omega)
    · exact hz
theorem tk_B1.ok {ρ : Nat → Int} {E : tk_E} (h : tk_env ρ E) (a b : Nat) : tk_in (ρ a + ρ b) (tk_B1 E a b) := by
  unfold tk_B1
  refine tk_fold (tk_in (ρ a + ρ b)) _ E (fun p e he hp => ?_) _ ⟨?_, ?_⟩
  · split
    · rename_i hc
      have hc := tk_bq hc
      obtain ⟨n, -, hd⟩ := h.mem he
      obtain ⟨d1, d2, -, d4, -⟩ := id hd
      have d4 := d4 hc
      have hq : tk_in (ρ a + ρ b) (if ((Nat.beq e.2.2.2.1 a && Nat.beq e.2.2.2.2.1 b) || (Nat.beq e.2.2.2.1 b && Nat.beq e.2.2.2.2.1 a)) = true then tk_mt p (e.1 - e.2.2.2.2.2) (e.2.1 - e.2.2.2.2.2) else p) := by
        split
        · rename_i h1
          rw [Bool.or_eq_true, Bool.and_eq_true, Bool.and_eq_true] at h1
          rcases h1 with ⟨h1, h2⟩ | ⟨h1, h2⟩
          · rw [tk_bq h1, tk_bq h2] at d4
            exact tk_mt.ok hp (by omega) (by omega)
          · rw [tk_bq h1, tk_bq h2] at d4
            exact tk_mt.ok hp (by omega) (by omega)
        · exact hp
      have h1 := tk_B4.ok (p := a) (q := b) h hd hc hq
      rw [Int.add_comm] at h1 ⊢
      exact tk_B4.ok (p := b) (q := a) h hd hc h1
    · exact hp
  · have h1 := (h a).1
    have h2 := (h b).1
    dsimp only
    omega
  · have h1 := (h a).2.1
    have h2 := (h b).2.1
    dsimp only
    omega
/-- the number that op makes of two -/
def tk_o (op : Nat) (u v : Int) : Int := if Nat.beq op 1 = true then u + v else u - v
theorem tk_fd.ok {op a b : Nat} : ∀ {es : tk_E} {k : Nat} {q : Nat × Int}, tk_fd op a b k es = some q → k ≤ q.1 ∧ ∃ e : tk_N, es[q.1 - k]? = some e ∧ e.2.2.2.2.2 = q.2 ∧ e.2.2.1 = op ∧ ((e.2.2.2.1 = a ∧ e.2.2.2.2.1 = b) ∨ (op = 1 ∧ e.2.2.2.1 = b ∧ e.2.2.2.2.1 = a))
  | [], k, q, h => by cases h
  | e :: es, k, q, h => by
    unfold tk_fd at h
    split at h
    · rename_i hc
      cases h
      simp only [Bool.and_eq_true, Bool.or_eq_true] at hc
      obtain ⟨c1, c2⟩ := hc
      refine ⟨Nat.le_refl _, e, by simp, rfl, tk_bq c1, ?_⟩
      rcases c2 with ⟨c2, c3⟩ | ⟨c2, c3, c4⟩
      · exact Or.inl ⟨tk_bq c2, tk_bq c3⟩
      · exact Or.inr ⟨tk_bq c2, tk_bq c3, tk_bq c4⟩
    · obtain ⟨h1, e', h2, h3⟩ := tk_fd.ok h
      refine ⟨by omega, e', ?_, h3⟩
      rw [show q.1 - k = (q.1 - (k + 1)) + 1 by omega, List.getElem?_cons_succ]
      exact h2
theorem tk_sm.ok {ρ : Nat → Int} {E : tk_E} (h : tk_env ρ E) {op a b : Nat} {p : tk_P} (ha : a < E.length) (hb : b < E.length) (hs : tk_sm E op a b = some p) : p.1 < E.length ∧ ρ p.1 + p.2 = tk_o op (ρ a) (ρ b) := by
  obtain ⟨-, -, a3, a4, a5⟩ := h a
  obtain ⟨-, -, b3, b4, b5⟩ := h b
  unfold tk_sm at hs
  unfold tk_o
  split at hs
  · rename_i ho
    rw [if_pos ho]
    split at hs
    · rename_i hc
      cases hs
      rw [Bool.and_eq_true] at hc
      have c1 := tk_bq hc.1
      have c2 := tk_bq hc.2
      have b3 := b3 (Or.inr c1)
      have b5 := b5 c1
      rw [c2] at b5
      exact ⟨by dsimp only; omega, by dsimp only; omega⟩
    · split at hs
      · rename_i hc
        cases hs
        rw [Bool.and_eq_true] at hc
        have c1 := tk_bq hc.1
        have c2 := tk_bq hc.2
        have a3 := a3 (Or.inr c1)
        have a5 := a5 c1
        rw [c2] at a5
        exact ⟨by dsimp only; omega, by dsimp only; omega⟩
      · cases hs
  · rename_i ho
    rw [if_neg ho]
    split at hs
    · rename_i hc
      cases hs
      rw [Bool.and_eq_true] at hc
      have c1 := tk_bq hc.1
      have c2 := tk_bq hc.2
      have a3 := a3 (Or.inl c1)
      have a4 := a4 c1
      rw [c2] at a4
      exact ⟨by dsimp only; omega, by dsimp only; omega⟩
    · split at hs
      · rename_i hc
        cases hs
        rw [Bool.and_eq_true] at hc
        have c1 := tk_bq hc.1
        have c2 := tk_bq hc.2
        have a3 := a3 (Or.inl c1)
        have a4 := a4 c1
        rw [c2] at a4
        exact ⟨by dsimp only; omega, by dsimp only; omega⟩
      · split at hs
        · rename_i hc
          cases hs
          rw [Bool.and_eq_true] at hc
          have c1 := tk_bq hc.1
          have c2 := tk_bq hc.2
          have b3 := b3 (Or.inr c1)
          have b5 := b5 c1
          rw [c2] at b5
          exact ⟨by dsimp only; omega, by dsimp only; omega⟩
        · cases hs
theorem tk_lin.ok {ρ : Nat → Int} {E : tk_E} (h : tk_env ρ E) {op a b : Nat} {c : Int} (ho : op = 1 ∨ op = 2) (ha : a < E.length) (hb : b < E.length) : tk_r E ρ (tk_lin E op a b c) (tk_o op (ρ a) (ρ b) + c) := by
  unfold tk_lin
  split
  · rename_i p hs
    obtain ⟨g1, g2⟩ := tk_sm.ok h ha hb hs
    exact tk_r.old h g1 (by dsimp only; omega)
  · split
    · rename_i q hq
      obtain ⟨-, e, h2, h3, h4, h5⟩ := tk_fd.ok hq
      rw [Nat.sub_zero] at h2
      have hl := (List.getElem?_eq_some_iff.mp h2).1
      have hd := h q.1
      have he : tk_at E q.1 = e := by
        unfold tk_at
        rw [List.getD_eq_getElem?_getD, h2]
        rfl
      rw [he] at hd
      obtain ⟨-, -, -, d4, d5⟩ := hd
      refine tk_r.old h hl ?_
      unfold tk_o
      dsimp only
      rcases ho with rfl | rfl
      · have d4 := d4 h4
        rw [if_pos (show Nat.beq 1 1 = true from rfl)]
        rcases h5 with ⟨e1, e2⟩ | ⟨-, e1, e2⟩
        · rw [e1, e2] at d4
          omega
        · rw [e1, e2] at d4
          omega
      · have d5 := d5 h4
        rw [if_neg (by decide)]
        rcases h5 with ⟨e1, e2⟩ | ⟨e0, -⟩
        · rw [e1, e2] at d5
          omega
        · cases e0
    · unfold tk_o
      rcases ho with rfl | rfl
      · obtain ⟨g1, g2⟩ := tk_B1.ok h a b
        rw [if_pos (show Nat.beq 1 1 = true from rfl), if_pos (show Nat.beq 1 1 = true from rfl)]
        exact tk_r.new h ⟨g1, g2, fun _ => ⟨ha, hb⟩, fun _ => by dsimp only; omega, fun q => by cases q⟩
      · obtain ⟨g1, g2⟩ := tk_B2.ok h a b
        rw [if_neg (by decide), if_neg (by decide)]
        exact tk_r.new h ⟨g1, g2, fun _ => ⟨ha, hb⟩, fun q => (by cases q), fun _ => by dsimp only; omega⟩
-- narrowing
theorem tk_at.set {E : tk_E} {s n : Nat} {v : tk_N} : tk_at (E.set s v) n = if n = s ∧ s < E.length then v else tk_at E n := by
  unfold tk_at
  rw [List.getD_eq_getElem?_getD, List.getD_eq_getElem?_getD]
  by_cases e : n = s
  · subst e
    by_cases l : n < E.length
    · rw [List.getElem?_set_self l, if_pos ⟨rfl, l⟩]
      rfl
    · rw [if_neg (by omega), List.getElem?_eq_none (by simp; omega), List.getElem?_eq_none (by omega)]
  · rw [List.getElem?_set_ne (Ne.symm e), if_neg (by omega)]
theorem tk_rl.len (E : tk_E) (s : Nat) (l : Int) : (tk_rl E s l).length = E.length := by simp [tk_rl]
theorem tk_rh.len (E : tk_E) (s : Nat) (l : Int) : (tk_rh E s l).length = E.length := by simp [tk_rh]
theorem tk_rf.len (E : tk_E) (s : Nat) (l h : Int) : (tk_rf E s l h).length = E.length := by simp [tk_rf, tk_rl, tk_rh]
theorem tk_rl.ok {ρ : Nat → Int} {E : tk_E} {s : Nat} {l : Int} (h : tk_env ρ E) (h1 : l ≤ ρ s) : tk_env ρ (tk_rl E s l) := by
  intro n
  unfold tk_rl
  rw [tk_at.set]
  split
  · rename_i hc
    obtain ⟨rfl, -⟩ := hc
    obtain ⟨a1, a2, a3, a4, a5⟩ := h n
    exact ⟨by dsimp only; split <;> omega, a2, a3, a4, a5⟩
  · exact h n
theorem tk_rh.ok {ρ : Nat → Int} {E : tk_E} {s : Nat} {l : Int} (h : tk_env ρ E) (h1 : ρ s ≤ l) : tk_env ρ (tk_rh E s l) := by
  intro n
  unfold tk_rh
  rw [tk_at.set]
  split
  · rename_i hc
    obtain ⟨rfl, -⟩ := hc
    obtain ⟨a1, a2, a3, a4, a5⟩ := h n
    exact ⟨a1, by dsimp only; split <;> omega, a3, a4, a5⟩
  · exact h n
theorem tk_rf.ok {ρ : Nat → Int} {E : tk_E} {s : Nat} {l u : Int} (h : tk_env ρ E) (h1 : l ≤ ρ s) (h2 : ρ s ≤ u) : tk_env ρ (tk_rf E s l u) := tk_rh.ok (tk_rl.ok h h1) h2
theorem tk_tg.len (E : tk_E) (k : Nat) : (tk_tg E k).length = E.length := by
  unfold tk_tg
  dsimp only
  split
  · rw [tk_rf.len, tk_rf.len, tk_rf.len]
  · split
    · rw [tk_rf.len, tk_rf.len, tk_rf.len]
    · rfl
theorem tk_tg.ok {ρ : Nat → Int} {E : tk_E} (h : tk_env ρ E) (k : Nat) : tk_env ρ (tk_tg E k) := by
  obtain ⟨-, -, -, a4, a5⟩ := h k
  have hA1 := (h (tk_at E k).2.2.2.1).1
  have hA2 := (h (tk_at E k).2.2.2.1).2.1
  have hB1 := (h (tk_at E k).2.2.2.2.1).1
  have hB2 := (h (tk_at E k).2.2.2.2.1).2.1
  unfold tk_tg
  dsimp only
  split
  · rename_i ho
    have a4 := a4 (tk_bq ho)
    have h1 : tk_env ρ (tk_rf E k ((tk_at E (tk_at E k).2.2.2.1).1 + (tk_at E (tk_at E k).2.2.2.2.1).1 + (tk_at E k).2.2.2.2.2) ((tk_at E (tk_at E k).2.2.2.1).2.1 + (tk_at E (tk_at E k).2.2.2.2.1).2.1 + (tk_at E k).2.2.2.2.2)) := tk_rf.ok h (by omega) (by omega)
    have g1 := (h1 k).1
    have g2 := (h1 k).2.1
    exact tk_rf.ok (tk_rf.ok h1 (by omega) (by omega)) (by omega) (by omega)
  · split
    · rename_i ho
      have a5 := a5 (tk_bq ho)
      have h1 : tk_env ρ (tk_rf E k ((tk_at E (tk_at E k).2.2.2.1).1 - (tk_at E (tk_at E k).2.2.2.2.1).2.1 + (tk_at E k).2.2.2.2.2) ((tk_at E (tk_at E k).2.2.2.1).2.1 - (tk_at E (tk_at E k).2.2.2.2.1).1 + (tk_at E k).2.2.2.2.2)) := tk_rf.ok h (by omega) (by omega)
      have g1 := (h1 k).1
      have g2 := (h1 k).2.1
      exact tk_rf.ok (tk_rf.ok h1 (by omega) (by omega)) (by omega) (by omega)
    · exact h
theorem tk_tt.both {ρ : Nat → Int} {E : tk_E} {l : List Nat} (h : tk_env ρ E) : tk_env ρ (tk_tt l E) ∧ (tk_tt l E).length = E.length := by
  unfold tk_tt
  exact tk_fold (fun E' => tk_env ρ E' ∧ E'.length = E.length) tk_tg _ (fun b a _ hb => ⟨tk_tg.ok hb.1 a, (tk_tg.len b a).trans hb.2⟩) E ⟨h, rfl⟩
theorem tk_bad.no {ρ : Nat → Int} {E : tk_E} (h : tk_env ρ E) (k : Nat) : tk_bad E k = false := by
  rw [Bool.eq_false_iff]
  intro hc
  have h1 := of_decide_eq_true hc
  obtain ⟨d1, d2, -⟩ := h k
  omega
theorem tk_em.no {ρ : Nat → Int} {E : tk_E} {l : List Nat} (h : tk_env ρ E) : tk_em l E = false := by
  rw [Bool.eq_false_iff]
  intro hc
  unfold tk_em at hc
  rw [Bool.or_eq_true] at hc
  rcases hc with hc | hc
  · obtain ⟨k, -, h1⟩ := List.any_eq_true.mp hc
    rw [tk_bad.no h] at h1
    cases h1
  · obtain ⟨k, -, h1⟩ := List.any_eq_true.mp hc
    simp only [tk_bad.no h, Bool.or_self] at h1
    cases h1
