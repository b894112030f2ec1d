def kt_ok (q : Nat × kc_S) : Bool := match kc_run kt_T 20000 0 [] [q] [] with
  | some os => os.all (fun o => decide (o.2.2.2.1 = [(1, 0, 1)]))
  | none => false
def kt_ns : List (Nat × kc_S) := match kc_Tcd kt_T 0 33 with
  | some (i, n) => (kc_step kt_T 0 33 i n kt_S1).getD []
  | none => []
def kt_rng (a b : Nat) : Bool := (List.range b).all (fun j => match kt_ns[a + j]? with
  | some q => kt_ok q
  | none => true)
/-- a state cut by the number of a value: below z, z, .. -/
def kt_cut (q : Nat × kc_S) (a : kc_V) (r : Nat) (z : Int) : Bool := (kc_s1 r q.1 q.2.1 a (1, 0, z) q.2.2.2.1).all (fun t => kt_ok (t.1, t.2.1, q.2.2.1, t.2.2, q.2.2.2.2))
def kt_eqG (g h : kc_G) : Bool := decide (g.1 = h.1 ∧ g.2.1 = h.2.1 ∧ g.2.2.1 = h.2.2.1 ∧ g.2.2.2.1 = h.2.2.2.1 ∧ g.2.2.2.2.1 = h.2.2.2.2.1) && decide (g.2.2.2.2.2.1 = h.2.2.2.2.2.1) && decide (g.2.2.2.2.2.2 = h.2.2.2.2.2.2)
def kt_eqH : List kc_G → List kc_G → Bool
  | [], [] => true
  | g :: gs, h :: hs => kt_eqG g h && kt_eqH gs hs
  | _, _ => false
def kt_eqS (S W : kc_S) : Bool := decide (S.1 = W.1) && decide (S.2.1 = W.2.1) && decide (S.2.2.1 = W.2.2.1) && kt_eqH S.2.2.2.1 W.2.2.2.1 && decide (S.2.2.2.2 = W.2.2.2.2)
theorem kt_eqH.ok : ∀ {a b : List kc_G}, kt_eqH a b = true → a = b
  | [], [], _ => rfl
  | (a1, a2, a3, a4, a5, a6, a7) :: gs, (b1, b2, b3, b4, b5, b6, b7) :: hs, h => by
    unfold kt_eqH kt_eqG at h
    simp only [Bool.and_eq_true, decide_eq_true_eq] at h
    obtain ⟨⟨⟨⟨rfl, rfl, rfl, rfl, rfl⟩, rfl⟩, rfl⟩, h2⟩ := h
    rw [kt_eqH.ok h2]
  | [], _ :: _, h => by cases h
  | _ :: _, [], h => by cases h
theorem kt_eqS.ok {S W : kc_S} (h : kt_eqS S W = true) : S = W := by
  obtain ⟨a1, a2, a3, a4, a5⟩ := S
  obtain ⟨b1, b2, b3, b4, b5⟩ := W
  unfold kt_eqS at h
  simp only [Bool.and_eq_true, decide_eq_true_eq] at h
  obtain ⟨⟨⟨⟨rfl, rfl⟩, rfl⟩, h4⟩, rfl⟩ := h
  rw [kt_eqH.ok h4]
