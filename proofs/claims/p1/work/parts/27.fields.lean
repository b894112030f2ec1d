/-- may place j of a cell of kind r be read? -/
def ka_rd (E : ka_E) (pd : List (Nat × List Nat)) (av : List Nat) (r j : Nat) : Bool := !(av.contains r) && pd.all (fun q => !(q.2.contains j) || decide ((E.getD q.1 (0, 0)).2 < (r : Int) + 1) || decide ((r : Int) + 1 < (E.getD q.1 (0, 0)).1))
theorem ka_rd.ok {E : ka_E} {pd : List (Nat × List Nat)} {av : List Nat} {r j b : Nat} {ρ : Nat → Int} {α : Nat → Nat} {Γ : Nat → Option Nat} {P : Nat → Nat → Prop} (h : ka_rd E pd av r j = true) (hE : ka_env ρ E) (hq : ka_pd ρ α Γ E.length pd) (hP : ka_P α Γ av pd P) (hb : Γ b = some r) : ¬ P b j := by
  intro hp
  unfold ka_rd at h
  rw [Bool.and_eq_true] at h
  rcases hP b j hp with ⟨q, g1, g2, g3⟩ | ⟨r', g1, g2⟩
  · have h1 := List.all_eq_true.mp h.2 q g1
    obtain ⟨-, r', k1, k2⟩ := hq q g1
    rw [g2, hb] at k1
    cases k1
    have h2 := hE q.1
    have h3 : q.2.contains j = true := by simp [g3]
    rw [h3] at h1
    simp only [Bool.not_true, Bool.false_or, Bool.or_eq_true, decide_eq_true_eq] at h1
    omega
  · rw [hb] at g1
    cases g1
    have : av.contains r = true := by simp [g2]
    rw [this] at h
    simp at h
/-- the kind of a cell that a value names, if it is known -/
def ka_knd (RT : List ka_R) (E : ka_E) (a : ka_V) : Option (Nat × ka_R) := if ka_lo E a = ka_hi E a ∧ 1 ≤ ka_lo E a then (RT[(ka_lo E a - 1).toNat]?).map fun g => ((ka_lo E a - 1).toNat, g) else none
theorem ka_knd.ok {RT : List ka_R} {E : ka_E} {n r : Nat} {d : Int} {g : ka_R} {ρ : Nat → Int} {α : Nat → Nat} {Γ : Nat → Option Nat} {v : Value} (h : ka_knd RT E (3, n, d) = some (r, g)) (hE : ka_env ρ E) (hv : ka_v ρ α Γ (3, n, d) v) : v = .ref (α n) ∧ Γ (α n) = some r ∧ RT[r]? = some g ∧ ρ n + d = (r : Int) + 1 := by
  have h1 := hE.at (3, n, d)
  unfold ka_knd at h
  split at h
  · rename_i hc
    cases hq : RT[(ka_lo E (3, n, d) - 1).toNat]? with
    | none => rw [hq] at h; cases h
    | some g' =>
      rw [hq] at h
      cases h
      dsimp only at h1
      rcases hv with ⟨-, e⟩ | ⟨r', rfl, e2, e⟩
      · dsimp only at e; omega
      · dsimp only at e e2
        have : r' = (ka_lo E (3, n, d) - 1).toNat := by omega
        subst this
        exact ⟨rfl, e2, hq, e⟩
  · cases h
def ka_find (FL : List (Nat × Nat × Nat)) (i : Nat) : Option (Nat × Nat) := match FL with
  | [] => none
  | q :: FL => if q.1 = i then some q.2 else ka_find FL i
theorem ka_find.mem {i : Nat} {z : Nat × Nat} : ∀ {FL : List (Nat × Nat × Nat)}, ka_find FL i = some z → (i, z) ∈ FL
  | [], h => by cases h
  | q :: FL, h => by
    unfold ka_find at h
    split at h
    · rename_i e
      cases h
      subst e
      exact List.mem_cons_self
    · exact List.mem_cons_of_mem _ (ka_find.mem h)
/-- what the tables say of the classes -/
def ka_CL (cl : List vw_C) (TY : Nat → Nat → FieldType) (Ts : List Jvm.Cond) : Prop := ∀ (ci : Nat) (q : vw_C), cl[ci]? = some q → (∀ w ∈ u_ws q.1 q.2.1 q.2.2, w ∈ Ts) ∧ (∀ k, k < q.2.2 → parseFieldDescriptor (q.2.1 k).2.2.1 = some (TY ci k)) ∧ (∀ a, a < q.2.2 → ∀ b, b < q.2.2 → a ≠ b → (q.2.1 a).2.1 ≠ (q.2.1 b).2.1) ∧ ∀ k, k < q.2.2 → (q.2.1 k).1 = q.1
/-- .. and of a class's own links to fields -/
def ka_FL (cl : List vw_C) (own : String) (Ts : List Jvm.Cond) (FL : List (Nat × Nat × Nat)) : Prop := ∀ q ∈ FL, ∃ z : vw_C, cl[q.2.1]? = some z ∧ q.2.2 < z.2.2 ∧ Jvm.Cond.fieldLink own q.1 (z.2.1 q.2.2).1 (z.2.1 q.2.2).2.1 (z.2.1 q.2.2).2.2.1 ∈ Ts
/-- a field read -/
def ka_get (RT : List ka_R) (FL : List (Nat × Nat × Nat)) (av : List Nat) (ix : Nat) (E : ka_E) (K : List ka_V) (pd : List (Nat × List Nat)) : Option (ka_E × List ka_V) := match K with
  | (3, n, d) :: K' => match ka_knd RT E (3, n, d), ka_find FL ix with
    | some (r, (0, ci, _, fts, _, _)), some (ci', k) => match fts[k]? with
      | some f => if (decide (ci = ci') && ka_rd E pd av r k) = true then some (E ++ [(f.2.1, f.2.2)], (f.1, E.length, 0) :: K') else none
      | none => none
    | _, _ => none
  | _ => none
def ka_fit (ty : FieldType) (f : ka_F) : Bool := match ty with
  | .int => decide (f.1 = 1)
  | .boolean => decide (f.1 = 1 ∧ 0 ≤ f.2.1 ∧ f.2.2 ≤ 1)
  | .long => decide (f.1 = 2)
  | .object _ => decide (f.1 = 3)
  | .array _ => decide (f.1 = 3)
  | _ => false
section KG
variable {p : Program} {l : Launch} {e : Env} {R : Room} {s : State} {m : MethodId} {args : Array Value} {below : List Frame} {meth : Method} {c : Code} {Q : State → Prop}
variable {cc : ByteArray} {nL : Nat} {D : va_G} {cl : List vw_C} {A : Nat → Prop} {RT : List ka_R} {av : List Nat} {H0 : Heap}
variable {Γ0 : Nat → Option Nat} {nA : Nat} {ρ0 : Nat → Int} {α0 : Nat → Nat}
variable {E E' : ka_E} {L K K' : List ka_V} {pd : List (Nat × List Nat)} {cs ss pc : Nat} {TY : Nat → Nat → FieldType} {Ts : List Jvm.Cond} {own : String} {FL : List (Nat × Nat × Nat)}
set_option maxHeartbeats 4000000 in
theorem ka_get.ok {ix : Nat} (h : ka_get RT FL av ix E K pd = some (E', K')) (hx : p.tables.exec = Jvm.exec) (hb : c.code = cc) (hown : s.vm.findClass own = some m.cls) (hts : ∀ w ∈ Ts, w.before args s = true) (hCL : ka_CL cl TY Ts) (hFL : ka_FL cl own Ts FL) (hd : decode cc pc = .ok (.getfield ix, 3))
    (k : ka_J p l e R s m args below meth c Q D cl A RT H0 av nL Γ0 nA ρ0 α0 (pc + 3) (E', L, K', pd, cs, ss)) : ka_J p l e R s m args below meth c Q D cl A RT H0 av nL Γ0 nA ρ0 α0 pc (E, L, K, pd, cs, ss) := by
  intro ρ α Γ P ws tys H locs ls lv st hk hn hΓ hρ
  have hE : ka_env ρ E := hk.1
  have hst : ka_stk ρ α Γ E.length K st := hk.2.2.2.2.1
  have hq := hk.2.2.2.2.2.1
  have hP := hk.2.2.2.2.2.2.1
  obtain ⟨hK, hPw, hD, hS, hT⟩ := hk.2.2.2.2.2.2.2
  unfold ka_get at h
  split at h
  · rename_i n d K2
    split at h
    · rename_i r ci fty fts lo hi ci' k' e1 e2
      split at h
      · rename_i f hf
        split at h
        · rename_i hc
          rw [Bool.and_eq_true, decide_eq_true_eq] at hc
          cases h
          obtain ⟨rfl, hrd⟩ := hc
          obtain ⟨v, st', rfl, hlt, hv, hst'⟩ := ka_stk.uncons hst
          obtain ⟨rfl, hΓ1, hR1, -⟩ := ka_knd.ok e1 hE hv
          obtain ⟨k0, e0, w1, g, w2, w3⟩ := hT _ _ hΓ1
          rw [hR1] at w2
          cases w2
          obtain ⟨fs, rfl, w4, w5⟩ := w3
          obtain ⟨z, z1, z2, z3⟩ := hFL _ (ka_find.mem e2)
          have hkl : k' < fs.length := by rw [w4]; exact (List.getElem?_eq_some_iff.mp hf).1
          have hv1 : fs[k']? = some fs[k'] := List.getElem?_eq_getElem hkl
          rcases w5 k' f _ hf hv1 with h9 | h9
          · exact absurd h9 (ka_rd.ok hrd hE hq hP hΓ1)
          · obtain ⟨zz, bb, y1, y2, y3⟩ := h9.read
            exact va_get hx hb hts (hCL _ _ z1).1 hown hK hPw k0 w1 z1 k' z2 (hts _ z3) (fun _ h9 => h9) hv1 hd (ka_J.res k hk hn hΓ hρ hst' (ka_r.new bb hE y1 y2 y3))
        · cases h
      · cases h
    · cases h
  · cases h
end KG
theorem ka_fit.ok {Γ : Nat → Option Nat} {ty : FieldType} {f : ka_F} {v : Value} (h : ka_fit ty f = true) (hv : ka_t Γ f v) : narrow ty v = v ∧ fits ty v = true := by
  obtain ⟨t, lo, hi⟩ := f
  unfold ka_fit at h
  split at h
  · cases of_decide_eq_true h
    obtain ⟨x, rfl, -⟩ := hv
    exact ⟨rfl, rfl⟩
  · obtain ⟨rfl, h1, h2⟩ := of_decide_eq_true h
    obtain ⟨x, rfl, g1, g2⟩ := hv
    dsimp only at g1 g2 h1 h2
    have : x = 0 ∨ x = 1 := by
      rcases (show x.toInt = 0 ∨ x.toInt = 1 by omega) with q | q
      · exact Or.inl (Int32.toInt_inj.mp q)
      · exact Or.inr (Int32.toInt_inj.mp q)
    rcases this with rfl | rfl <;> exact ⟨rfl, rfl⟩
  · cases of_decide_eq_true h
    obtain ⟨x, rfl, -⟩ := hv
    exact ⟨rfl, rfl⟩
  · cases of_decide_eq_true h
    rcases hv with ⟨rfl, -⟩ | ⟨a, r, rfl, -⟩ <;> exact ⟨rfl, rfl⟩
  · cases of_decide_eq_true h
    rcases hv with ⟨rfl, -⟩ | ⟨a, r, rfl, -⟩ <;> exact ⟨rfl, rfl⟩
  · cases h
