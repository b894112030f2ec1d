/-- a place is read with nothing done: a symbol for what stands there, and a fact -/
def tk_tsp (KT : Nat → tk_G) (E : tk_E) (t : Nat) (i : tk_P) : Option tk_F := if Nat.beq (KT (t - 10)).1 0 = true then
    (if (Nat.beq i.1 0 && decide (0 ≤ i.2)) = true then (match (KT (t - 10)).2.2.2.2.2.2.1[i.2.toNat]? with
      | some [f] => some f
      | _ => none) else none)
  else if (Nat.ble (KT (t - 10)).1 3 && tk_ix E i (KT (t - 10)).2.2.2.1 && (KT (t - 10)).2.2.2.2.2.1.all (fun f => Nat.beq f.1 (KT (t - 10)).2.2.2.2.1.1)) = true then some (tk_hl (KT (t - 10)).2.2.2.2.1 (KT (t - 10)).2.2.2.2.2.1 (tk_lo E i) (tk_hi E i)) else none
/-- the value is on the stack, or some fact's -/
def tk_hs (K : List tk_V) (M : tk_M) (o : tk_V) : Bool := K.any (fun v => tk_veq v o) || M.any (fun f => tk_veq f.2.2 o)
def tk_tch (KT : Nat → tk_G) (K : List tk_V) (E : tk_E) (M : tk_M) (q : tk_V × tk_V) : Option (tk_E × tk_M) := if Nat.beq q.1.1 1 = true then (if (Nat.ble (q.1.2.1 + 1) E.length && Nat.ble (q.2.2.1 + 1) E.length) = true then some ((tk_lin E 2 q.1.2.1 q.2.2.1 0).1, M) else none) else if (tk_nm E q.1.1 q.1.2 && tk_hs K M q.1 && Nat.ble (q.2.2.1 + 1) E.length) = true then
    (match tk_tsp KT E q.1.1 q.2.2 with
    | some f => some (E ++ [(f.2.1, f.2.2, 0, 0, 0, 0)], (q.1, q.2, (f.1, E.length, 0)) :: M)
    | none => none) else none
/-- places one by one -/
def tk_tcs (KT : Nat → tk_G) (K : List tk_V) : List (tk_V × tk_V) → tk_E → tk_M → Option (tk_E × tk_M)
  | [], E, M => some (E, M)
  | q :: qs, E, M => match tk_tch KT K E M q with
    | some r => tk_tcs KT K qs r.1 r.2
    | none => none
/-- a number on the stack, value by value -/
def tk_spv (E : tk_E) (a : tk_P) (L K : List tk_V) (M : tk_M) (cs ss : Nat) : Nat → Int → List tk_S
  | 0, _ => []
  | n + 1, z => (match tk_c1 0 E a (0, z) with
    | some E' => (E', L, K, M, cs, ss) :: tk_spv E a L K M cs ss n (z + 1)
    | none => tk_spv E a L K M cs ss n (z + 1))
def tk_spl (S : tk_S) (k : Nat) : Option (List tk_S) := match S.2.2.1[k]? with
  | some v => if (tk_con S.1 v.2 || !(Nat.beq v.1 1) || !(Nat.ble ((tk_hi S.1 v.2 - tk_lo S.1 v.2).toNat) 100)) = true then none else some (tk_spv S.1 v.2 S.2.1 S.2.2.1 S.2.2.2.1 S.2.2.2.2.1 S.2.2.2.2.2 ((tk_hi S.1 v.2 - tk_lo S.1 v.2).toNat + 1) (tk_lo S.1 v.2))
  | none => none
/-- a head's state is one of the wider ones -/
def tk_hd (n0 cs ss : Nat) (ws : List tk_A) (o : tk_S) : Bool := ws.any (fun w => (tk_wi n0 cs ss w o).isSome)
def tk_mz (n0 : Nat) (xs : List tk_Lx) (w w' : tk_A) (E : tk_E) : Bool := match tk_sb n0 xs w'.2.2.2.2.1 with
  | some p => (w.2.2.2.2.2 == w'.2.2.2.2.2) && (if w.2.2.2.2.2 = true then decide (1 ≤ (tk_B2 E p.1 w.2.2.2.2.1.1).1 + p.2 - w.2.2.2.2.1.2) else decide ((tk_B2 E p.1 w.2.2.2.2.1.1).2 + p.2 - w.2.2.2.2.1.2 ≤ -1))
  | none => false
def tk_bk (n0 cs ss : Nat) (ws : List tk_A) (w : tk_A) (o : tk_S) : Bool := ws.any (fun w' => match tk_wi n0 cs ss w' o with
  | some xs => tk_mz n0 xs w w' o.1
  | none => false)
def tk_wS (S : tk_S) (w : tk_A) : tk_S := (S.1 ++ w.1, w.2.1, w.2.2.1, w.2.2.2.1, S.2.2.2.2.1, S.2.2.2.2.2)
def tk_mB (E : tk_E) (w : tk_A) : Bool := decide (-1000000000000 ≤ tk_lo E w.2.2.2.2.1 ∧ tk_hi E w.2.2.2.2.1 ≤ 1000000000000) && Nat.ble (w.2.2.2.2.1.1 + 1) E.length
/-- behind a call -/
def tk_bh (T : tk_T) (y' : Nat) (S : tk_S) (K' : List tk_V) (o : tk_S) : tk_S := (o.1, S.2.1, o.2.2.1 ++ K', o.2.2.2.1, S.2.2.2.2.1 + (tk_Tmi T y').2.2.1, S.2.2.2.2.2 + (tk_Tmi T y').2.2.2.1)
section TQ
variable {p : Program} {l : Launch} {e : Env} {R : Room} {s : State} {m : MethodId} {args : Array Value} {below : List Frame} {meth : Method} {c : Code} {Q : State → Prop}
variable {nL : Nat} {D : va_G} {cl : List vw_C} {A : Nat → Prop} {H0 : Heap} {KT : Nat → tk_G} {F : List (Nat × Nat × Nat)} {B0 : tk_B} {ws0 : va_W}
variable {nA : Nat} {ρ0 : Nat → Int}
theorem tk_J.mono {ρ1 : Nat → Int} {n1 pc : Nat} {S : tk_S} (hg : tk_ag nA ρ0 n1 ρ1) (h : tk_J p l e R s m args below meth c Q D cl A H0 KT F B0 ws0 nL nA ρ0 pc S) : tk_J p l e R s m args below meth c Q D cl A H0 KT F B0 ws0 nL n1 ρ1 pc S :=
  fun ρ B ws tys H locs ls lv st hk hg2 => h ρ B ws tys H locs ls lv st hk ⟨Nat.le_trans hg.1 hg2.1, fun k hk2 => (hg2.2 k (Nat.lt_of_lt_of_le hk2 hg.1)).trans (hg.2 k hk2)⟩
theorem tk_tsp.ok {ρ : Nat → Int} {B : tk_B} {E : tk_E} {t : Nat} {i : tk_P} {f : tk_F} {tys : List (ClassId × FieldType)} {e0 : va_E} (hE : tk_env ρ E) (hz : ρ 0 = 0) (h : tk_tsp KT E t i = some f) (he : tk_e tys B (KT (t - 10)) e0) : 0 ≤ ρ i.1 + i.2 ∧ ∃ w : Value, tk_pl e0 (ρ i.1 + i.2).toNat = some w ∧ tk_t B f w := by
  have hi := hE.at i
  unfold tk_tsp at h
  split at h
  · rename_i h0
    split at h
    · rename_i hc
      rw [Bool.and_eq_true] at hc
      have c1 := tk_bq hc.1
      have c2 := of_decide_eq_true hc.2
      split at h
      · rename_i f' hal
        cases h
        obtain ⟨fs, rfl, e2, e3⟩ := he.obj (tk_bq h0)
        have hlt : i.2.toNat < fs.length := by rw [e2]; exact (List.getElem?_eq_some_iff.mp hal).1
        obtain ⟨f2, hf2, hv⟩ := e3 _ _ _ hal (List.getElem?_eq_getElem hlt)
        rw [List.mem_singleton] at hf2
        subst hf2
        rw [c1, hz, Int.zero_add]
        exact ⟨c2, _, List.getElem?_eq_getElem hlt, hv⟩
      · cases h
    · cases h
  · rename_i h0
    split at h
    · rename_i hc
      cases h
      simp only [Bool.and_eq_true] at hc
      obtain ⟨⟨c1, c2⟩, c3⟩ := hc
      have c2 := of_decide_eq_true c2
      have c4 : ∀ q ∈ (KT (t - 10)).2.2.2.2.2.1, q.1 = (KT (t - 10)).2.2.2.2.1.1 := fun q hq => tk_bq (List.all_eq_true.mp c3 q hq)
      have hn : (ρ i.1 + i.2).toNat < (KT (t - 10)).2.2.2.1 := by omega
      have hcast : (((ρ i.1 + i.2).toNat : Nat) : Int) = ρ i.1 + i.2 := by omega
      have fin : ∀ w : Value, tk_t B ((KT (t - 10)).2.2.2.2.2.1.getD (ρ i.1 + i.2).toNat (KT (t - 10)).2.2.2.2.1) w → tk_t B (tk_hl (KT (t - 10)).2.2.2.2.1 (KT (t - 10)).2.2.2.2.2.1 (tk_lo E i) (tk_hi E i)) w := fun w hw => tk_hl.ok c4 c2.1 (by omega) (by omega) hw
      refine ⟨by omega, ?_⟩
      unfold tk_e at he
      split at he
      · rename_i q
        rw [q] at h0
        exact absurd rfl h0
      · obtain ⟨cA, t0, hh, rfl, -, g⟩ := he
        exact ⟨_, if_pos hn, fin _ (g _ hn)⟩
      · obtain ⟨cA, t0, hh, rfl, -, g⟩ := he
        exact ⟨_, if_pos hn, fin _ (g _ hn)⟩
      · obtain ⟨cA, t0, hh, rfl, -, g⟩ := he
        exact ⟨_, if_pos hn, fin _ (g _ hn)⟩
      · exact absurd he id
    · cases h
theorem tk_stk.mem {ρ : Nat → Int} {B : tk_B} {n : Nat} {o : tk_V} : ∀ {K : List tk_V} {st : List Value}, tk_stk ρ B n K st → o ∈ K → o.2.1 < n ∧ ∃ v : Value, tk_v ρ B o v
  | [], _, _, h => by cases h
  | a :: K, st, hs, h => by
    obtain ⟨v, st', rfl, g1, g2, g3⟩ := tk_stk.uncons hs
    rcases List.mem_cons.mp h with rfl | h
    · exact ⟨g1, v, g2⟩
    · exact tk_stk.mem g3 h
theorem tk_hs.ok {ρ : Nat → Int} {B : tk_B} {n : Nat} {ws : va_W} {K : List tk_V} {M : tk_M} {st : List Value} {o : tk_V} (h : tk_hs K M o = true) (hs : tk_stk ρ B n K st) (hM : tk_mem ρ B n ws M) : o.2.1 < n ∧ ∃ v : Value, tk_v ρ B o v := by
  unfold tk_hs at h
  rw [Bool.or_eq_true] at h
  rcases h with h | h
  · obtain ⟨v, h1, h2⟩ := List.any_eq_true.mp h
    rw [tk_veq.ok h2] at h1
    exact hs.mem h1
  · obtain ⟨f, h1, h2⟩ := List.any_eq_true.mp h
    obtain ⟨⟨-, -, a3⟩, j, a, e0, w, -, -, -, -, -, -, h7⟩ := hM f h1
    rw [← tk_veq.ok h2]
    exact ⟨a3, w, h7⟩
variable {E E' : tk_E} {L K : List tk_V} {M M' : tk_M} {cs ss pc : Nat}
/-- a touched state is as good -/
theorem tk_tch.ok {q : tk_V × tk_V} (h : tk_tch KT K E M q = some (E', M')) (k : tk_J p l e R s m args below meth c Q D cl A H0 KT F B0 ws0 nL nA ρ0 pc (E', L, K, M', cs, ss)) : tk_J p l e R s m args below meth c Q D cl A H0 KT F B0 ws0 nL nA ρ0 pc (E, L, K, M, cs, ss) := by
  intro ρ B ws tys H locs ls lv st hk hg
  have hE : tk_env ρ E := hk.1
  have h0 : 0 < E.length ∧ ρ 0 = 0 := hk.2.1
  have hst : tk_stk ρ B E.length K st := hk.2.2.2.2.1
  have hM : tk_mem ρ B E.length ws M := hk.2.2.2.2.2.1
  have hC := hk.2.2.2.2.2.2.2.2.2.2.1
  unfold tk_tch at h
  split at h
  · split at h
    · rename_i hc
      cases h
      rw [Bool.and_eq_true] at hc
      obtain ⟨ρ', g1, g2, g3, g4, g5⟩ := tk_lin.ok (c := 0) hE (Or.inr rfl) (Nat.le_of_ble_eq_true hc.1) (Nat.le_of_ble_eq_true hc.2)
      exact tk_J.mv k hk hg g1 g2 g3 (hk.2.2.1.ext g1 (tk_le.rf B) g3) hk.2.2.2.1 (tk_stk.ext g1 (tk_le.rf B) g3 hst) (hM.ext g1 g3)
    · cases h
  split at h
  · rename_i hc
    simp only [Bool.and_eq_true] at hc
    obtain ⟨⟨c1, c2⟩, c3⟩ := hc
    have c3 : q.2.2.1 < E.length := Nat.le_of_ble_eq_true c3
    obtain ⟨d1, v, hv⟩ := tk_hs.ok c2 hst hM
    obtain ⟨ht, j, ad, rfl, hB, hz⟩ := tk_nm.ok hE c1 hv
    obtain ⟨e0, w1, w3⟩ := hC.2 _ _ _ hB
    split at h
    · rename_i f hf
      cases h
      obtain ⟨g0, w, hw, z, z1, z2, z3⟩ := tk_tsp.ok hE h0.2 hf w3
      have hr : tk_r E ρ (E ++ [(f.2.1, f.2.2, 0, 0, 0, 0)], (E.length, 0)) (z + 0) := tk_r.new hE (tk_dv.bare z1 z2)
      obtain ⟨ρ', g1, g3, g4, g5, g6⟩ := hr
      dsimp only at g3 g4 g5 g6
      refine tk_J.mv k hk hg g1 g3 g4 (hk.2.2.1.ext g1 (tk_le.rf B) g4) hk.2.2.2.1 (tk_stk.ext g1 (tk_le.rf B) g4 hst) (tk_mem.cons ⟨⟨by dsimp only; omega, by dsimp only; omega, g5⟩, ?_⟩ (hM.ext g1 g4))
      dsimp only
      rw [g1 _ d1, g1 _ c3, g6, Int.add_zero]
      exact ⟨j, ad, e0, w, ht, hB, hz, w1, g0, hw, z3⟩
    · cases h
  · cases h
theorem tk_tcs.ok : ∀ {qs : List (tk_V × tk_V)} {E E' : tk_E} {M M' : tk_M}, tk_tcs KT K qs E M = some (E', M') → tk_J p l e R s m args below meth c Q D cl A H0 KT F B0 ws0 nL nA ρ0 pc (E', L, K, M', cs, ss) → tk_J p l e R s m args below meth c Q D cl A H0 KT F B0 ws0 nL nA ρ0 pc (E, L, K, M, cs, ss)
  | [], E, E', M, M', h, k => by
    cases h
    exact k
  | q :: qs, E, E', M, M', h, k => by
    unfold tk_tcs at h
    split at h
    · rename_i r hr
      exact tk_tch.ok hr (tk_tcs.ok h k)
    · cases h
theorem tk_spv.z0 (z : Int) : z + ((0 : Nat) : Int) = z := by omega
theorem tk_spv.z1 (z : Int) (j : Nat) : z + 1 + (j : Int) = z + ((j + 1 : Nat) : Int) := by omega
theorem tk_spv.mem {a : tk_P} {E2 : tk_E} : ∀ {n : Nat} {z : Int} (j : Nat), j < n → tk_c1 0 E a (0, z + j) = some E2 → (E2, L, K, M, cs, ss) ∈ tk_spv E a L K M cs ss n z := by
  intro n
  induction n with
  | zero => intro z j h _; exact absurd h (Nat.not_lt_zero _)
  | succ n ih =>
    intro z j h h1
    cases j with
    | zero =>
      rw [tk_spv.z0] at h1
      show _ ∈ (match tk_c1 0 E a (0, z) with
        | some E' => (E', L, K, M, cs, ss) :: tk_spv E a L K M cs ss n (z + 1)
        | none => tk_spv E a L K M cs ss n (z + 1))
      rw [h1]
      exact List.mem_cons_self
    | succ j =>
      rw [← tk_spv.z1] at h1
      have h2 := ih (z := z + 1) j (Nat.lt_of_succ_lt_succ h) h1
      show _ ∈ (match tk_c1 0 E a (0, z) with
        | some E' => (E', L, K, M, cs, ss) :: tk_spv E a L K M cs ss n (z + 1)
        | none => tk_spv E a L K M cs ss n (z + 1))
      split
      · exact List.mem_cons_of_mem _ h2
      · exact h2
/-- value by value -/
theorem tk_spl.ok {S : tk_S} {j : Nat} {rs : List tk_S} (h : tk_spl S j = some rs) (k : ∀ r ∈ rs, tk_J p l e R s m args below meth c Q D cl A H0 KT F B0 ws0 nL nA ρ0 pc r) : tk_J p l e R s m args below meth c Q D cl A H0 KT F B0 ws0 nL nA ρ0 pc S := by
  intro ρ B ws tys H locs ls lv st hk hg
  obtain ⟨E, L, K, M, cs, ss⟩ := S
  unfold tk_spl at h
  split at h
  · rename_i v hv
    split at h
    · cases h
    · rename_i hc
      cases h
      have hm := tk_stk.mem hk.2.2.2.2.1 (List.mem_of_getElem? hv)
      have hb := tk_env.at hk.1 v.2
      have h0 := hk.2.1
      dsimp only at hm hb h0 hg
      obtain ⟨E2, ρ', g1, g2, g3, g4⟩ := tk_c1.ok (r := 0) (a := v.2) (b := (0, ρ v.2.1 + v.2.2)) hk.1 hm.1 h0.1 (by decide) (by
        dsimp only
        rw [h0.2, Int.zero_add]
        rfl)
      refine k (E2, L, K, M, cs, ss) (tk_spv.mem ((ρ v.2.1 + v.2.2 - tk_lo E v.2).toNat) (by dsimp only; omega) ?_) ρ' B ws tys H locs ls lv st (hk.mv g2 g3 g4) (hg.ext g3 g4)
      dsimp only
      rw [show tk_lo E v.2 + (((ρ v.2.1 + v.2.2 - tk_lo E v.2).toNat : Nat) : Int) = ρ v.2.1 + v.2.2 by omega]
      exact g1
  · cases h
end TQ
