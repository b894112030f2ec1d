/-! ===== the head with what is kept beside ===== -/
def tp_X : tk_E := [(1, 100000000, 0, 0, 0, 0), (1, 100000000, 0, 0, 0, 0), (0, 1, 0, 0, 0, 0), (0, 1, 0, 0, 0, 0), (0, 1, 0, 0, 0, 0), (0, 1, 0, 0, 0, 0), (0, 3, 0, 0, 0, 0), (0, 3, 0, 0, 0, 0), (0, 3, 0, 0, 0, 0), (0, 3, 0, 0, 0, 0), (0, 60, 0, 0, 0, 0), (0, 60, 0, 0, 0, 0), (0, 60, 0, 0, 0, 0), (0, 60, 0, 0, 0, 0), (1, 100000000, 0, 0, 0, 0), (1, 100000000, 0, 0, 0, 0), ((-1), 3, 0, 0, 0, 0), ((-1), 3, 0, 0, 0, 0), ((-1), 3, 0, 0, 0, 0), ((-1), 3, 0, 0, 0, 0)]
def tp_F : tk_M := [((10, 2, 0), (1, 0, 13), (14, 14, 0)), ((14, 14, 0), (1, 0, 0), (51, 15, 0)), ((14, 14, 0), (1, 0, 1), (51, 15, 2)), ((14, 14, 0), (1, 0, 2), (51, 15, 4)), ((14, 14, 0), (1, 0, 3), (51, 15, 6)), ((51, 15, 0), (1, 0, 1), (1, 16, 0)), ((51, 15, 2), (1, 0, 1), (1, 17, 0)), ((51, 15, 4), (1, 0, 1), (1, 18, 0)), ((51, 15, 6), (1, 0, 1), (1, 19, 0)), ((51, 15, 0), (1, 0, 2), (1, 20, 0)), ((51, 15, 2), (1, 0, 2), (1, 21, 0)), ((51, 15, 4), (1, 0, 2), (1, 22, 0)), ((51, 15, 6), (1, 0, 2), (1, 23, 0)), ((51, 15, 0), (1, 0, 3), (1, 24, 0)), ((51, 15, 2), (1, 0, 3), (1, 25, 0)), ((51, 15, 4), (1, 0, 3), (1, 26, 0)), ((51, 15, 6), (1, 0, 3), (1, 27, 0)), ((53, 3, 0), (1, 0, 1), (54, 28, 0)), ((53, 3, 0), (1, 0, 2), (55, 29, 0)), ((54, 28, 0), (1, 0, 0), (1, 30, 0)), ((54, 28, 0), (1, 0, 1), (1, 31, 0)), ((54, 28, 0), (1, 0, 2), (1, 32, 0)), ((54, 28, 0), (1, 0, 3), (1, 33, 0)), ((55, 29, 0), (1, 0, 0), (1, 24, 0)), ((55, 29, 0), (1, 0, 1), (1, 25, 0)), ((55, 29, 0), (1, 0, 2), (1, 26, 0)), ((55, 29, 0), (1, 0, 3), (1, 27, 0))]
def tp_rels : List (List (List (Nat × Int × Int))) := [[[(16, 0, 0), (30, (-1), (-1))], [(16, 1, 1), (30, 0, 0), (20, 0, 0)], [(16, 1, 1), (30, 1, 1), (20, 1, 1)], [(16, 1, 1), (30, 2, 2), (20, 2, 2)], [(16, 1, 1), (30, 3, 3), (20, 3, 3)]], [[(17, 0, 0), (31, (-1), (-1))], [(17, 1, 1), (31, 0, 0), (21, 0, 0)], [(17, 1, 1), (31, 1, 1), (21, 1, 1)], [(17, 1, 1), (31, 2, 2), (21, 2, 2)], [(17, 1, 1), (31, 3, 3), (21, 3, 3)]], [[(18, 0, 0), (32, (-1), (-1))], [(18, 1, 1), (32, 0, 0), (22, 0, 0)], [(18, 1, 1), (32, 1, 1), (22, 1, 1)], [(18, 1, 1), (32, 2, 2), (22, 2, 2)], [(18, 1, 1), (32, 3, 3), (22, 3, 3)]], [[(19, 0, 0), (33, (-1), (-1))], [(19, 1, 1), (33, 0, 0), (23, 0, 0)], [(19, 1, 1), (33, 1, 1), (23, 1, 1)], [(19, 1, 1), (33, 2, 2), (23, 2, 2)], [(19, 1, 1), (33, 3, 3), (23, 3, 3)]]]
def tp_n : Nat := 34
def tp_difs : List (Nat × Nat × Nat) := [(3, 0, 24), (3, 0, 25), (3, 0, 26), (3, 0, 27), (1, 0, 24), (1, 0, 25), (1, 0, 26), (1, 0, 27)]
def tp_w (b d : Bool) : tk_A := ((tm_w b d).1 ++ tp_X, (tm_w b d).2.1, [], (tm_w b d).2.2.2.1 ++ tp_F, (10, 0), true)
def tp_h (b d : Bool) : tm_X := (tm_E0 ++ (tp_w b d).1, (tp_w b d).2.1, [], (tp_w b d).2.2.2.1, [])
/-- each item: its numbers are as at the head, or lie in one of its boxes -/
def tp_rq (E : tk_E) (ys : List tk_Lx) (it : List (List (Nat × Int × Int))) : Bool := it.all (fun b => b.all (fun q => decide (ys[q.1 - 10]? = some (0, q.1, 0, 0)))) || it.any (fun b => b.all (fun q => match ys[q.1 - 10]? with
  | some y => decide (q.2.1 ≤ (tk_lxB E y).1 ∧ (tk_lxB E y).2 ≤ q.2.2)
  | none => false))
def tp_in (b d : Bool) (X : tm_X) : Bool := match tk_wi 10 0 0 (tp_w b d) (X.1, X.2.1, X.2.2.1, X.2.2.2.1, 0, 0) with
  | some ys => decide (ys[0]? = some (0, 10, 0, 6)) && tp_rels.all (tp_rq X.1 ys)
  | none => false
def tp_fin (b : Bool) (dc ds : Nat) (X : tm_X) : Bool := [(false, false), (false, true), (true, false), (true, true)].any (fun q => tp_in q.1 q.2 X && Nat.ble dc 54 && Nat.ble ds (8220 + (if (!b && q.1) = true then 40000 else 0)) && (!b || q.1))
def tp_ib (ρ : Nat → Int) (b : List (Nat × Int × Int)) : Prop := ∀ q ∈ b, q.2.1 ≤ ρ q.1 ∧ ρ q.1 ≤ q.2.2
def tp_R (ρ : Nat → Int) : Prop := ∀ it ∈ tp_rels, ∃ b ∈ it, tp_ib ρ b
theorem tp_rl : ∀ it ∈ tp_rels, ∀ b ∈ it, ∀ q ∈ b, 10 ≤ q.1 ∧ q.1 < tp_n := by decide +kernel
def tp_rx : List (Nat × Int × Int) → tk_E → tk_E
  | [], E => E
  | q :: b, E => tp_rx b (tk_rf E q.1 q.2.1 q.2.2)
theorem tp_rx.ok {ρ : Nat → Int} : ∀ {b : List (Nat × Int × Int)} {E : tk_E}, tk_env ρ E → tp_ib ρ b → tk_env ρ (tp_rx b E) ∧ (tp_rx b E).length = E.length
  | [], E, h, _ => ⟨h, rfl⟩
  | q :: b, E, h, hb => by
    have h1 := hb q List.mem_cons_self
    obtain ⟨g1, g2⟩ := tp_rx.ok (b := b) (tk_rf.ok h h1.1 h1.2) (fun q' hq' => hb q' (List.mem_cons_of_mem _ hq'))
    exact ⟨g1, by rw [show tp_rx (q :: b) E = tp_rx b (tk_rf E q.1 q.2.1 q.2.2) from rfl, g2, tk_rf.len]⟩
/-- is i + n more than a number of the head? -/
def tp_fd (E : tk_E) (L n : Nat) : Nat → Option Nat
  | 0 => none
  | k + 1 => match E[k]? with
    | some e => if (Nat.beq e.2.2.1 2 && Nat.beq e.2.2.2.1 L && Nat.beq e.2.2.2.2.1 n && decide (e.2.2.2.2.2 = 0)) = true then some k else tp_fd E L n k
    | none => none
def tp_e3 (E : tk_E) (i n L k j : Nat) (lo hi : Int) : List tk_N := [(lo, hi, 2, i, j, 0), (tk_lo E (i, 0) + tk_lo E (n, 0), tk_hi E (i, 0) + tk_hi E (n, 0), 1, i, n, 0), (lo, hi, 2, k + 1, L, 0)]
def tp_es (E : tk_E) (i n L k : Nat) (lo hi : Int) : List tk_N := match tp_fd E L n E.length with
  | some j => tp_e3 E i n L k j lo hi
  | none => (tk_lo E (L, 0) - tk_hi E (n, 0), tk_hi E (L, 0) - tk_lo E (n, 0), 2, L, n, 0) :: tp_e3 E i n L (k + 1) k lo hi
theorem tp_fd.ok {E : tk_E} {ρ : Nat → Int} {L n : Nat} (hE : tk_env ρ E) : ∀ {k j : Nat}, tp_fd E L n k = some j → j < E.length ∧ ρ j = ρ L - ρ n
  | 0, _, h => by cases h
  | k + 1, j, h => by
    unfold tp_fd at h
    split at h
    · rename_i e he
      split at h
      · rename_i hc
        cases h
        simp only [Bool.and_eq_true] at hc
        obtain ⟨⟨⟨c1, c2⟩, c3⟩, c4⟩ := hc
        have y1 := tk_bq c1
        have y2 := tk_bq c2
        have y3 := tk_bq c3
        have y4 := of_decide_eq_true c4
        refine ⟨(List.getElem?_eq_some_iff.mp he).1, ?_⟩
        have h1 := hE k
        rw [show tk_at E k = e by unfold tk_at; rw [List.getD_eq_getElem?_getD, he]; rfl] at h1
        have h2 := h1.2.2.2.2 y1
        rw [y2, y3, y4] at h2
        omega
      · exact tp_fd.ok hE h
    · cases h
def tp_d1 (E : tk_E) (i n L : Nat) : tk_E := E ++ tp_es E i n L E.length 1 (tk_hi E (i, 0) + tk_hi E (n, 0) - tk_lo E (L, 0))
def tp_d2 (E : tk_E) (i n L : Nat) : tk_E := tk_rf (tk_rf E i (tk_lo E (i, 0)) (tk_hi E (L, 0) - tk_lo E (n, 0))) n (tk_lo E (n, 0)) (tk_hi E (L, 0) - tk_lo E (i, 0)) ++ tp_es E i n L E.length (tk_lo E (i, 0) + tk_lo E (n, 0) - tk_hi E (L, 0)) 0
def tp_dif (d : Nat × Nat × Nat) (X : tm_X) : Option (List tm_X) := match X.2.2.1[d.1]?, X.2.2.1[d.2.1]? with
  | some v, some w => if (Nat.beq v.1 1 && decide (v.2.2 = 0) && Nat.beq w.1 1 && decide (w.2.2 = 0) && Nat.ble (d.2.2 + 1) tp_n) = true then some [(tp_d1 X.1 v.2.1 w.2.1 d.2.2, X.2), (tp_d2 X.1 v.2.1 w.2.1 d.2.2, X.2)] else none
  | _, _ => none
/-- below 0, or not -/
def tp_iv : List (Int × Int) := [(-2147483648, -1), (0, 2147483647)]
def tp_rxs : List Nat → List tm_X → Option (List tm_X)
  | [], Xs => some Xs
  | k :: ks, Xs => match tp_rels[k]? with
    | some it => tp_rxs ks (Xs.flatMap (fun X => it.map (fun b => (tp_rx b X.1, X.2))))
    | none => match (if k < 200 then tp_difs[k - 100]? else none) with
      | some d => (match Xs.mapM (tp_dif d) with
        | some Ys => tp_rxs ks Ys.flatten
        | none => none)
      | none => (match Xs.mapM (tm_sp1 (k - 200) tp_iv) with
        | some Ys => tp_rxs ks Ys.flatten
        | none => none)
/-- which of a call's ways are tried at all -/
def tp_grd (g : List (Nat × Int)) (X : tm_X) : Bool := g.all (fun q => match X.2.2.1[q.1]? with
  | some v => decide (tk_lo X.1 v.2 = q.2 ∧ tk_hi X.1 v.2 = q.2)
  | none => false)
theorem tp_rq.ok {E : tk_E} {ρ ρ' : Nat → Int} {ys : List tk_Lx} (hE : tk_env ρ' E) (hag : ∀ k, k < tp_n → ρ' k = ρ k) (hR : tp_R ρ) (h : tp_rels.all (tp_rq E ys) = true) : tp_R (tk_rw 10 ys ρ') := by
  intro it hit
  have h1 := List.all_eq_true.mp h it hit
  unfold tp_rq at h1
  rw [Bool.or_eq_true] at h1
  rcases h1 with h1 | h1
  · obtain ⟨b, hb, hi⟩ := hR it hit
    refine ⟨b, hb, fun q hq => ?_⟩
    have h2 := of_decide_eq_true (List.all_eq_true.mp (List.all_eq_true.mp h1 b hb) q hq)
    obtain ⟨l1, l2⟩ := tp_rl it hit b hb q hq
    rw [tk_rw.ge l1 h2, show tk_lx ρ' (0, q.1, 0, 0) = ρ' q.1 + 0 from rfl, Int.add_zero, hag _ l2]
    exact hi q hq
  · obtain ⟨b, hb, h2⟩ := List.any_eq_true.mp h1
    refine ⟨b, hb, fun q hq => ?_⟩
    have h3 := List.all_eq_true.mp h2 q hq
    obtain ⟨l1, l2⟩ := tp_rl it hit b hb q hq
    split at h3
    · rename_i y hy
      obtain ⟨c1, c2⟩ := of_decide_eq_true h3
      obtain ⟨d1, d2⟩ := tk_lxB.ok hE y
      rw [tk_rw.ge l1 hy]
      exact ⟨Int.le_trans c1 d1, Int.le_trans d2 c2⟩
    · cases h3
