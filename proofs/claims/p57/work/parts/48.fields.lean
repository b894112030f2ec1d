theorem kc_lcmp_rel {r : Nat} {x y : Int64} {u v w : Int} (ex : x.toInt = u) (ey : y.toInt = v) (e0 : w = 0) (h : kc_rel r (lg_cmp x y).toInt w) : kc_rel r u v := by
  subst ex; subst ey; subst e0
  have g1 : (1 : Int32).toInt = 1 := rfl
  have g2 : (0 : Int32).toInt = 0 := rfl
  have g3 : (-1 : Int32).toInt = -1 := rfl
  unfold lg_cmp at h
  split at h
  · rename_i c1
    have c2 := Int64.lt_iff_toInt_lt.mp c1
    rw [g1] at h
    unfold kc_rel at h ⊢
    split at h <;> omega
  · rename_i c1
    split at h
    · rename_i c2
      subst c2
      rw [g2] at h
      unfold kc_rel at h ⊢
      split at h <;> omega
    · rename_i c2
      have c3 : ¬ y.toInt < x.toInt := fun q => c1 (Int64.lt_iff_toInt_lt.mpr q)
      have c4 : x.toInt ≠ y.toInt := fun q => c2 (Int64.toInt_inj.mp q)
      rw [g3] at h
      unfold kc_rel at h ⊢
      split at h <;> omega
section KG
variable {p : Program} {l : Launch} {e : Env} {R : Room} {s : State} {m : MethodId} {args : Array Value} {below : List Frame} {meth : Method} {c : Code} {Q : State → Prop}
variable {cc : ByteArray} {nL : Nat} {D : va_G} {cl : List vw_C} {A : Nat → Prop} {H0 : Heap}
variable {nA : Nat} {ρ0 : Nat → Int} {nB : Nat} {β0 : Nat → Nat}
variable {E E' : kc_E} {L K K' : List kc_V} {Hs Hs' : List kc_G} {cs ss pc : Nat}
theorem kc_x3.ok {j : Instr} {succ : List kc_N} (h : kc_x3 j pc E K = some succ) (hx : p.tables.exec = Jvm.exec) (hb : c.code = cc) (hd : decode cc pc = .ok (.lcmp, 1)) (hd2 : decode cc (pc + 1) = .ok (j, 3))
    (k : ∀ q ∈ succ, kc_J p l e R s m args below meth c Q D cl A H0 nL nA ρ0 nB β0 q.1 (q.2.1, L, q.2.2, Hs, cs, ss)) : kc_J p l e R s m args below meth c Q D cl A H0 nL nA ρ0 nB β0 pc (E, L, K, Hs, cs, ss) := by
  intro ρ β ws tys H locs ls lv st hk hg
  have h0 : 0 < E.length ∧ ρ 0 = 0 := hk.2.1
  have hst : kc_stk ρ β Hs.length E.length K st := hk.2.2.2.2.1
  unfold kc_x3 at h
  split at h
  · split at h
    · rename_i q o n2 d2 n1 d1 K2
      split at h
      · rename_i ho
        cases h
        obtain ⟨v, st', rfl, hlt, ⟨x, rfl, ex⟩, hst'⟩ := kc_stk.uncons hst
        obtain ⟨v2, st2, rfl, hlt2, ⟨x2, rfl, ex2⟩, hst2⟩ := kc_stk.uncons hst'
        refine W.lcmp hx hb hd ?_
        exact kc_if0 (u := (lg_cmp x2 x).toInt) (v := 0) rfl rfl hx hb hd2 (kc_up.at ho) (fun hr => kc_J.sc (fun q h => k q (List.mem_append.mpr (Or.inl h))) hk hg (kc_lcmp_rel ex2 ex rfl hr) hst2) (fun hr => kc_J.sc (fun q h => k q (List.mem_append.mpr (Or.inr h))) hk hg (kc_lcmp_rel ex2 ex rfl hr) hst2)
      · cases h
    · cases h
  · cases h
/-- one of the numbers that an index may be -/
theorem kc_J.spl {i : kc_V} {z : Int} {ρ : Nat → Int} {β : Nat → Nat} {ws : va_W} {tys : List (ClassId × FieldType)} {H : Heap} {locs : List Loc} {ls : Array Slot} {lv : List (Nat × Value)} {st : List Value} (ez : z = ρ i.2.1 + i.2.2) (hk : kc_ok D cl A s H0 nL E L K Hs ρ β ws tys H locs ls lv st) (hg : kc_ag nA ρ0 nB β0 E.length Hs.length ρ β)
    (k : ∀ q ∈ kc_spl pc E i K, kc_J p l e R s m args below meth c Q D cl A H0 nL nA ρ0 nB β0 q.1 (q.2.1, L, q.2.2, Hs, cs, ss)) : W p l e R s m args below meth c H locs cs ss Q (F0 m pc ls st) := by
  have h1 := hk.1.at i
  have h0 := hk.2.1.2
  refine kc_J.s1 (r := 0) (a := i) (b := (1, 0, kc_lo E i + (((ρ i.2.1 + i.2.2 - kc_lo E i).toNat : Nat) : Int))) (fun q hq => k q (List.mem_flatMap.mpr ⟨(ρ i.2.1 + i.2.2 - kc_lo E i).toNat, List.mem_range.mpr (by omega), hq⟩)) hk hg (by decide) ?_ hk.2.2.2.2.1
  show ρ i.2.1 + i.2.2 = ρ 0 + (kc_lo E i + (((ρ i.2.1 + i.2.2 - kc_lo E i).toNat : Nat) : Int))
  omega
theorem kc_x4.ok {ins : Instr} {succ : List kc_N} (h : kc_x4 ins pc E K = some succ)
    (k : ∀ q ∈ succ, kc_J p l e R s m args below meth c Q D cl A H0 nL nA ρ0 nB β0 q.1 (q.2.1, L, q.2.2, Hs, cs, ss)) : kc_J p l e R s m args below meth c Q D cl A H0 nL nA ρ0 nB β0 pc (E, L, K, Hs, cs, ss) := by
  intro ρ β ws tys H locs ls lv st hk hg
  unfold kc_x4 at h
  split at h
  · split at h
    · cases h
    · cases h
      exact kc_J.spl rfl hk hg k
  · split at h
    · cases h
    · cases h
      exact kc_J.spl rfl hk hg k
  · cases h
end KG
/-- the cell that a value names -/
theorem kc_cell.ok {Hs : List kc_G} {E : kc_E} {n r : Nat} {d : Int} {g : kc_G} {ρ : Nat → Int} {β : Nat → Nat} {N : Nat} {v : Value} (h : kc_cell Hs E (3, n, d) = some (r, g)) (hE : kc_env ρ E) (hv : kc_v ρ β N (3, n, d) v) : v = .ref (β (r + 1)) ∧ Hs[r]? = some g := by
  have h1 := hE.at (3, n, d)
  unfold kc_cell at h
  split at h
  · rename_i hc
    cases hq : Hs[(kc_lo E (3, n, d) - 1).toNat]? with
    | none => rw [hq] at h; cases h
    | some g' =>
      rw [hq] at h
      cases h
      dsimp only at h1
      rcases hv with ⟨-, e⟩ | ⟨r', rfl, e1, e2, e⟩
      · dsimp only at e; omega
      · dsimp only at e
        have : (kc_lo E (3, n, d) - 1).toNat + 1 = r' := by omega
        rw [this]
        exact ⟨rfl, hq⟩
  · cases h
def kc_pl (ty : FieldType) : Bool := match ty with
  | .int => true | .boolean => true | .byte => true | .short => true | .char => true | .long => true | .object _ => true | .array _ => true
  | _ => false
/-- what the tables say of the classes -/
def kc_CL (cl : List vw_C) (fd : Nat → List (FieldType × Bool)) (Ts : List Jvm.Cond) : Prop := ∀ (ci : Nat) (q : vw_C), cl[ci]? = some q → (∀ w ∈ u_ws q.1 q.2.1 q.2.2, w ∈ Ts) ∧ (fd ci).length = q.2.2 ∧ (∀ k, k < q.2.2 → parseFieldDescriptor (q.2.1 k).2.2.1 = some ((fd ci).getD k (.int, false)).1) ∧ (∀ a, a < q.2.2 → ∀ b, b < q.2.2 → a ≠ b → (q.2.1 a).2.1 ≠ (q.2.1 b).2.1) ∧ (∀ k, k < q.2.2 → (q.2.1 k).1 = q.1) ∧ (∀ k, k < q.2.2 → (q.2.1 k).2.2.2 = ((fd ci).getD k (.int, false)).2) ∧ ∀ z ∈ fd ci, kc_pl z.1 = true
/-- .. and of a class's own links to fields -/
def kc_FL (cl : List vw_C) (own : String) (Ts : List Jvm.Cond) (fl : Nat → Option (Nat × Nat)) : Prop := ∀ (ix ci k : Nat), fl ix = some (ci, k) → ∃ z : vw_C, cl[ci]? = some z ∧ k < z.2.2 ∧ Jvm.Cond.fieldLink own ix (z.2.1 k).1 (z.2.1 k).2.1 (z.2.1 k).2.2.1 ∈ Ts
theorem kc_fit.ok {ρ : Nat → Int} {β : Nat → Nat} {N : Nat} {E : kc_E} {ty : FieldType} {a : kc_V} {v : Value} (h : kc_fit ty (kc_fv E a) = true) (hE : kc_env ρ E) (hv : kc_v ρ β N a v) : narrow ty v = v ∧ fits ty v = true := by
  have hb := hE.at a
  obtain ⟨t, n, d⟩ := a
  unfold kc_fit kc_fv at h
  dsimp only at h hb
  split at h
  · cases of_decide_eq_true h
    obtain ⟨x, rfl, -⟩ := hv
    exact ⟨rfl, rfl⟩
  · obtain ⟨rfl, h1, h2⟩ := of_decide_eq_true h
    obtain ⟨x, rfl, g1⟩ := hv
    dsimp only at g1
    have : x = 0 ∨ x = 1 := by
      rcases (show x.toInt = 0 ∨ x.toInt = 1 by omega) with q | q
      · exact Or.inl (Int32.toInt_inj.mp q)
      · exact Or.inr (Int32.toInt_inj.mp q)
    rcases this with rfl | rfl <;> exact ⟨rfl, rfl⟩
  · cases of_decide_eq_true h
    obtain ⟨x, rfl, -⟩ := hv
    exact ⟨rfl, rfl⟩
  · cases of_decide_eq_true h
    rcases hv with ⟨rfl, -⟩ | ⟨r, rfl, -⟩ <;> exact ⟨rfl, rfl⟩
  · cases of_decide_eq_true h
    rcases hv with ⟨rfl, -⟩ | ⟨r, rfl, -⟩ <;> exact ⟨rfl, rfl⟩
  · cases h
/-- the cells with one of them changed -/
theorem kc_C.set {ρ : Nat → Int} {β : Nat → Nat} {n : Nat} {tys : List (ClassId × FieldType)} {Hs : List kc_G} {ws : va_W} {r : Nat} {g : kc_G} {e' : va_E} (h : kc_C ρ β n tys Hs ws) (hg : kc_e ρ β Hs.length n tys g e') : kc_C ρ β n tys (Hs.set r g) (ws.set r (β (r + 1), e')) := by
  refine ⟨by rw [List.length_set, List.length_set]; exact h.1, fun k g1 hk => ?_⟩
  rw [List.length_set]
  by_cases e1 : k = r
  · subst e1
    rw [List.getElem?_set_self'] at hk ⊢
    cases hq : Hs[k]? with
    | none => rw [hq] at hk; cases hk
    | some g0 =>
      rw [hq] at hk
      cases hk
      obtain ⟨e0, w1, -⟩ := h.2 k g0 hq
      exact ⟨e', by rw [w1]; rfl, hg⟩
  · rw [List.getElem?_set_ne (Ne.symm e1)] at hk ⊢
    exact h.2 k g1 hk
section KH
variable {p : Program} {l : Launch} {e : Env} {R : Room} {s : State} {m : MethodId} {args : Array Value} {below : List Frame} {meth : Method} {c : Code} {Q : State → Prop}
variable {cc : ByteArray} {nL : Nat} {D : va_G} {cl : List vw_C} {A : Nat → Prop} {H0 : Heap}
variable {nA : Nat} {ρ0 : Nat → Int} {nB : Nat} {β0 : Nat → Nat}
variable {E E' : kc_E} {L K K' : List kc_V} {Hs Hs' : List kc_G} {cs ss pc : Nat} {fl : Nat → Option (Nat × Nat)} {fd : Nat → List (FieldType × Bool)} {Ts : List Jvm.Cond} {own : String} {ini : Bool} {oci : Nat}
set_option maxHeartbeats 4000000 in
theorem kc_get.ok {ix : Nat} (h : kc_get fl ix E K Hs = some K') (hx : p.tables.exec = Jvm.exec) (hb : c.code = cc) (hown : s.vm.findClass own = some m.cls) (hts : ∀ w ∈ Ts, w.before args s = true) (hCL : kc_CL cl fd Ts) (hFL : kc_FL cl own Ts fl) (hd : decode cc pc = .ok (.getfield ix, 3))
    (k : kc_J p l e R s m args below meth c Q D cl A H0 nL nA ρ0 nB β0 (pc + 3) (E, L, K', Hs, cs, ss)) : kc_J p l e R s m args below meth c Q D cl A H0 nL nA ρ0 nB β0 pc (E, L, K, Hs, cs, ss) := by
  intro ρ β ws tys H locs ls lv st hk hg
  have hE : kc_env ρ E := hk.1
  have hst : kc_stk ρ β Hs.length E.length K st := hk.2.2.2.2.1
  obtain ⟨hK, hPw, hD, hS, hC⟩ := hk.2.2.2.2.2
  unfold kc_get at h
  split at h
  · rename_i n d K2
    split at h
    · rename_i r ci fty len f0 fs vs ci' k' e1 e2
      split at h
      · rename_i a ha
        split at h
        · rename_i hc
          subst hc
          cases h
          obtain ⟨v, st', rfl, hlt, hv, hst'⟩ := kc_stk.uncons hst
          obtain ⟨rfl, hH⟩ := kc_cell.ok e1 hE hv
          obtain ⟨e0, w1, w3⟩ := hC.2 _ _ hH
          obtain ⟨fs1, rfl, w4, w5⟩ := w3
          obtain ⟨z, z1, z2, z3⟩ := hFL _ _ _ e2
          have hkl : k' < fs1.length := by rw [w4]; exact (List.getElem?_eq_some_iff.mp ha).1
          have hv1 : fs1[k']? = some fs1[k'] := List.getElem?_eq_getElem hkl
          obtain ⟨y1, y2⟩ := w5 k' a _ ha hv1
          exact va_get hx hb hts (hCL _ _ z1).1 hown hK hPw r w1 z1 k' z2 (hts _ z3) (fun _ h9 => h9) hv1 hd (kc_J.go k hk hg ⟨y1, y2, hst'⟩)
        · cases h
      · cases h
    · cases h
  · cases h
set_option maxHeartbeats 4000000 in
theorem kc_put.ok {ix : Nat} (h : kc_put fl fd ini oci ix E K Hs = some (K', Hs')) (hx : p.tables.exec = Jvm.exec) (hb : c.code = cc) (hown : s.vm.findClass own = some m.cls) (hts : ∀ w ∈ Ts, w.before args s = true) (hCL : kc_CL cl fd Ts) (hFL : kc_FL cl own Ts fl) (hini : ini = true → meth.name = "<init>") (hoci : ∀ z : vw_C, cl[oci]? = some z → z.1 = own) (hd : decode cc pc = .ok (.putfield ix, 3))
    (k : kc_J p l e R s m args below meth c Q D cl A H0 nL nA ρ0 nB β0 (pc + 3) (E, L, K', Hs', cs, ss)) : kc_J p l e R s m args below meth c Q D cl A H0 nL nA ρ0 nB β0 pc (E, L, K, Hs, cs, ss) := by
  intro ρ β ws tys H locs ls lv st hk hg
  obtain ⟨hE, h0, hL, hl, hst, hK, hPw, hD, hS, hC⟩ := hk
  dsimp only at hE h0 hL hl hst hC hg
  unfold kc_put at h
  split at h
  · rename_i a n d K2
    split at h
    · rename_i r ci fty len f0 fs vs ci' k' e1 e2
      split at h
      · rename_i z hz
        split at h
        · rename_i hc
          simp only [Bool.and_eq_true, decide_eq_true_eq] at hc
          obtain ⟨⟨⟨rfl, c4⟩, c1⟩, c5⟩ := hc
          cases h
          obtain ⟨va, st1, rfl, hlta, hva, hst1⟩ := kc_stk.uncons hst
          obtain ⟨v, st', rfl, hlt, hv, hst'⟩ := kc_stk.uncons hst1
          obtain ⟨rfl, hH⟩ := kc_cell.ok e1 hE hv
          obtain ⟨e0, w1, w3⟩ := hC.2 _ _ hH
          obtain ⟨fs1, rfl, w4, w5⟩ := w3
          obtain ⟨z', z1, z2, z3⟩ := hFL _ _ _ e2
          have hkl : k' < fs1.length := by rw [w4]; exact c1
          obtain ⟨y1, y2⟩ := kc_fit.ok c4 hE hva
          obtain ⟨q1, q0, q2, q3, q4, q5, -⟩ := hCL _ _ z1
          have hz2 : (fd ci).getD k' (.int, false) = z := by rw [List.getD_eq_getElem?_getD, hz]; rfl
          have q2k := q2 k' z2
          rw [hz2] at q2k
          have q5k := q5 k' z2
          rw [hz2] at q5k
          have kk : ∀ (H1 : Heap) (locs1 : List Loc), va_P D cl (ws.set r (β (r + 1), .inr (ci, fs1.set k' va))) H1 → va_D A (ws.set r (β (r + 1), .inr (ci, fs1.set k' va))) → va_S A H0 H1 locs1 → W p l e R s m args below meth c H1 locs1 cs ss Q (F0 m (pc + 3) ls st') := fun H1 locs1 u1 u2 u3 => by
            refine k ρ β _ tys H1 locs1 ls lv st' ⟨hE, h0, by rw [List.length_set]; exact hL, hl, by rw [List.length_set]; exact hst', hK, u1, u2, u3, hC.set ?_⟩ (by rw [List.length_set]; exact hg)
            refine ⟨fs1.set k' va, rfl, by rw [List.length_set]; dsimp only; rw [List.length_set]; exact w4, fun j a1 v1 ha1 hv1 => ?_⟩
            dsimp only at ha1
            by_cases ej : j = k'
            · subst ej
              rw [List.getElem?_set_self hkl] at hv1
              cases hv1
              rw [List.getElem?_set_self c1] at ha1
              cases ha1
              exact ⟨hlta, hva⟩
            · rw [List.getElem?_set_ne (Ne.symm ej)] at hv1 ha1
              exact w5 j a1 v1 ha1 hv1
          by_cases hfin : z.2 = true
          · rw [hfin] at c5
            simp only [Bool.not_true, Bool.false_or, Bool.and_eq_true, decide_eq_true_eq] at c5
            obtain ⟨c6, rfl⟩ := c5
            exact va_putF hx hb hts q1 (fun k => ((fd ci).getD k (.int, false)).1) q2 q3 hown hK hPw hD hS r w1 z1 k' z2 (hts _ z3) (fun _ h9 => h9) (q5k.trans hfin) (hini c6) ((q4 k' z2).trans (hoci z' z1)) (q2k) y1 y2 hkl hd kk
          · have hfin : z.2 = false := by simpa using hfin
            exact va_put hx hb hts q1 (fun k => ((fd ci).getD k (.int, false)).1) q2 q3 hown hK hPw hD hS r w1 z1 k' z2 (hts _ z3) (fun _ h9 => h9) (q5k.trans hfin) (q2k) y1 y2 hkl hd kk
        · cases h
      · cases h
    · cases h
  · cases h
end KH
