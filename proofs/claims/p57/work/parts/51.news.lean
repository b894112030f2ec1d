theorem va_AOA.moved {ty : FieldType} {u U : State} (hvm : u.vm.Alike U.vm) (h : va_AOA ty u) : va_AOA ty U := by
  unfold va_AOA Cond.before Cond.holds at h ⊢
  simp only [Cond.value, beq_iff_eq] at h ⊢
  cases hc : u.vm.findClass (FieldType.array ty).toString with
  | none => simp [hc] at h
  | some comp =>
    have f1 : U.vm.findClass (FieldType.array ty).toString = some comp := by rw [hvm.findClass]; exact hc
    simp only [hc, Option.bind_some, Option.bind_eq_some_iff, Option.map_eq_some_iff] at h
    obtain ⟨c, hi, k, hk, hb⟩ := h
    obtain ⟨k', hk', he⟩ := hvm.2.2 _ _ hk
    have e1 := va_idx_bare U.vm comp
    have e2 := va_idx_bare u.vm comp
    have e3 : U.vm.bare = u.vm.bare := by first | exact hvm.bare_eq | exact hvm.bare_eq.symm
    rw [e3] at e1
    have hi2 := e1.symm.trans (e2.trans hi)
    rw [f1, Option.bind_some]
    refine (congrArg (fun o : Option Nat => o.bind _) hi2).trans ?_
    rw [Option.bind_some, hk', Option.map_some]
    have hkk : k'.kind = k.kind := by rw [he]
    rw [hkk, hvm.findClass]
    exact congrArg some hb
theorem kc_up_lt {β : Nat → Nat} {N q k : Nat} (h : k ≤ N) : va_up β (N + 1) q k = β k := va_up_ne _ _ (by omega)
/-- the cells with a new one -/
theorem kc_C.push {ρ : Nat → Int} {β : Nat → Nat} {n q : Nat} {tys tys' : List (ClassId × FieldType)} {Hs : List kc_G} {ws : va_W} {g : kc_G} {e' : va_E} (h : kc_C ρ β n tys Hs ws) (ht : ∀ (k : Nat) (z : ClassId × FieldType), tys[k]? = some z → tys'[k]? = some z) (hg : kc_e ρ (va_up β (Hs.length + 1) q) (Hs.length + 1) n tys' g e') : kc_C ρ (va_up β (Hs.length + 1) q) n tys' (Hs ++ [g]) (ws ++ [(q, e')]) := by
  refine ⟨by simp [h.1], fun k g1 hk => ?_⟩
  rw [List.length_append, List.length_singleton]
  by_cases hl : k < Hs.length
  · rw [List.getElem?_append_left hl] at hk
    obtain ⟨e0, w1, w2⟩ := h.2 k g1 hk
    refine ⟨e0, ?_, w2.ext (fun _ _ => rfl) (fun j hj => kc_up_lt hj) (Nat.le_succ _) (Nat.le_refl _) ht⟩
    rw [List.getElem?_append_left (by rw [h.1]; exact hl), kc_up_lt (by omega)]
    exact w1
  · rw [List.getElem?_append_right (by omega)] at hk
    have h0 : k - Hs.length < 1 := (List.getElem?_eq_some_iff.mp hk).1
    have e0 : k = Hs.length := by omega
    subst e0
    rw [Nat.sub_self] at hk
    cases hk
    refine ⟨e', ?_, hg⟩
    rw [List.getElem?_append_right (by rw [h.1]; exact Nat.le_refl _), h.1, Nat.sub_self, va_up_self]
    rfl
/-- .. with more -/
theorem kc_C.tys {ρ : Nat → Int} {β : Nat → Nat} {n : Nat} {tys tys' : List (ClassId × FieldType)} {Hs : List kc_G} {ws : va_W} (h : kc_C ρ β n tys Hs ws) (ht : ∀ (k : Nat) (z : ClassId × FieldType), tys[k]? = some z → tys'[k]? = some z) : kc_C ρ β n tys' Hs ws := ⟨h.1, fun k g hk => by
  obtain ⟨e, e1, e2⟩ := h.2 k g hk
  exact ⟨e, e1, e2.ext (fun _ _ => rfl) (fun _ _ => rfl) (Nat.le_refl _) (Nat.le_refl _) ht⟩⟩
theorem kc_tys_app {tys t2 : List (ClassId × FieldType)} (k : Nat) (z : ClassId × FieldType) (h : tys[k]? = some z) : (tys ++ t2)[k]? = some z := by
  rw [List.getElem?_append_left (List.getElem?_eq_some_iff.mp h).1]
  exact h
theorem kc_dft.ok {ρ : Nat → Int} {β : Nat → Nat} {N : Nat} {ty : FieldType} (h : kc_pl ty = true) (h0 : ρ 0 = 0) : (kc_dft ty).2.1 = 0 ∧ kc_v ρ β N (kc_dft ty) (defaultValue ty) := by
  unfold kc_pl at h
  split at h
  · exact ⟨rfl, 0, rfl, by show (0 : Int) = ρ 0 + 0; omega⟩
  · exact ⟨rfl, 0, rfl, by show (0 : Int) = ρ 0 + 0; omega⟩
  · exact ⟨rfl, 0, rfl, by show (0 : Int) = ρ 0 + 0; omega⟩
  · exact ⟨rfl, 0, rfl, by show (0 : Int) = ρ 0 + 0; omega⟩
  · exact ⟨rfl, 0, rfl, by show (0 : Int) = ρ 0 + 0; omega⟩
  · exact ⟨rfl, 0, rfl, by show (0 : Int) = ρ 0 + 0; omega⟩
  · exact ⟨rfl, Or.inl ⟨rfl, by show ρ 0 + 0 = 0; omega⟩⟩
  · exact ⟨rfl, Or.inl ⟨rfl, by show ρ 0 + 0 = 0; omega⟩⟩
  · cases h
/-- a class's own links to classes of which it makes objects -/
def kc_NL (cl : List vw_C) (own : String) (Ts : List Jvm.Cond) (nw : Nat → Option Nat) : Prop := ∀ (ix ci : Nat), nw ix = some ci → ∃ z : vw_C, cl[ci]? = some z ∧ Jvm.Cond.classLink own ix z.1 ∈ Ts ∧ Jvm.Cond.instantiable z.1 z.2.2 ∈ Ts ∧ Jvm.Cond.initialized z.1 ∈ Ts
section KK
variable {p : Program} {l : Launch} {e : Env} {R : Room} {s : State} {m : MethodId} {args : Array Value} {below : List Frame} {meth : Method} {c : Code} {Q : State → Prop}
variable {cc : ByteArray} {nL : Nat} {D : va_G} {cl : List vw_C} {A : Nat → Prop} {H0 : Heap}
variable {nA : Nat} {ρ0 : Nat → Int} {nB : Nat} {β0 : Nat → Nat}
variable {E E' : kc_E} {L K K' : List kc_V} {Hs Hs' : List kc_G} {cs ss cs' ss' pc : Nat} {fd : Nat → List (FieldType × Bool)} {Ts : List Jvm.Cond} {own : String} {RC RS : Nat}
/-- the executor's state with a new cell -/
theorem kc_J.cell {ρ : Nat → Int} {β : Nat → Nat} {ws : va_W} {tys tys' : List (ClassId × FieldType)} {H H1 : Heap} {locs locs1 : List Loc} {ls : Array Slot} {lv : List (Nat × Value)} {st st' : List Value} {q : Nat} {g : kc_G} {e' : va_E}
    (k : kc_J p l e R s m args below meth c Q D cl A H0 nL nA ρ0 nB β0 pc (E, L, (3, 0, ((Hs.length + 1 : Nat) : Int)) :: K', Hs ++ [g], cs, ss)) (hk : kc_ok D cl A s H0 nL E L K Hs ρ β ws tys H locs ls lv st) (hg : kc_ag nA ρ0 nB β0 E.length Hs.length ρ β) (hst' : kc_stk ρ β Hs.length E.length K' st')
    (hK1 : va_K D cl tys' s) (u1 : va_P D cl (ws ++ [(q, e')]) H1) (u2 : va_D A (ws ++ [(q, e')])) (u3 : va_S A H0 H1 locs1) (ht : ∀ (k : Nat) (z : ClassId × FieldType), tys[k]? = some z → tys'[k]? = some z)
    (hne : kc_e ρ (va_up β (Hs.length + 1) q) (Hs.length + 1) E.length tys' g e') : W p l e R s m args below meth c H1 locs1 cs ss Q (F0 m pc ls (.ref q :: st')) := by
  obtain ⟨hE, h0, hL, hl, hst, hK, hPw, hD, hS, hC⟩ := hk
  have hlen : (Hs ++ [g]).length = Hs.length + 1 := by simp
  refine k ρ (va_up β (Hs.length + 1) q) _ tys' H1 locs1 ls lv (.ref q :: st') ⟨hE, h0, ?_, hl, ?_, hK1, u1, u2, u3, hC.push ht hne⟩ ?_
  · dsimp only
    rw [hlen]
    exact hL.ext (fun _ _ => rfl) (fun j hj => kc_up_lt hj) (Nat.le_succ _) (Nat.le_refl _)
  · dsimp only
    rw [hlen]
    refine ⟨h0.1, Or.inr ⟨Hs.length + 1, by rw [va_up_self], by omega, Nat.le_refl _, ?_⟩, kc_stk.ext (fun _ _ => rfl) (fun j hj => kc_up_lt hj) (Nat.le_succ _) (Nat.le_refl _) hst'⟩
    dsimp only
    omega
  · dsimp only
    rw [hlen]
    exact hg.ext (fun _ _ => rfl) (fun j hj => kc_up_lt hj) (Nat.le_refl _) (Nat.le_succ _)
set_option maxHeartbeats 4000000 in
theorem kc_new.ok {nw : Nat → Option Nat} {ix : Nat} (h : kc_new nw fd RC RS ix E K Hs cs ss = some (K', Hs', cs', ss')) (hx : p.tables.exec = Jvm.exec) (hb : c.code = cc) (hown : s.vm.findClass own = some m.cls) (hts : ∀ w ∈ Ts, w.before args s = true) (hCL : kc_CL cl fd Ts) (hNL : kc_NL cl own Ts nw) (hRC : RC ≤ R.cells) (hRS : RS ≤ R.slots) (hA : ∀ q, H0.size ≤ q → A q) (hd : decode cc pc = .ok (.new ix, 3))
    (k : kc_J p l e R s m args below meth c Q D cl A H0 nL nA ρ0 nB β0 (pc + 3) (E, L, K', Hs', cs', ss')) : kc_J p l e R s m args below meth c Q D cl A H0 nL nA ρ0 nB β0 pc (E, L, K, Hs, cs, ss) := by
  intro ρ β ws tys H locs ls lv st hk hg
  show W p l e R s m args below meth c H locs cs ss Q (F0 m pc ls st)
  have h0 : 0 < E.length ∧ ρ 0 = 0 := hk.2.1
  have hst : kc_stk ρ β Hs.length E.length K st := hk.2.2.2.2.1
  obtain ⟨hK, hPw, hD, hS, hC⟩ := hk.2.2.2.2.2
  unfold kc_new at h
  split at h
  · rename_i ci e1
    split at h
    · rename_i hc
      obtain ⟨c3, c4⟩ := hc
      cases h
      obtain ⟨z, hz, z2, z3, z4⟩ := hNL _ _ e1
      obtain ⟨q1, q0, q2, q3, q4, q5, q6⟩ := hCL _ _ hz
      rw [q0] at c4 k
      refine va_new (fs := (List.range z.2.2).map (fun j => defaultValue ((fd ci).getD j (.int, false)).1)) hx hb hts q1 (fun j => ((fd ci).getD j (.int, false)).1) q2 hown (hts _ z2) (hts _ z3) (hts _ z4) hK hPw hD hS hA hz (fun j hj => ?_) (by omega) (by omega) hd (fun q H1 u1 u2 u3 => ?_)
      · simp [vp_V, hj]
      · refine kc_J.cell k hk hg hst hK u1 u2 u3 (fun _ _ h => h) ⟨_, rfl, by simp [q0], fun j a v ha hv => ?_⟩
        dsimp only at ha
        rw [List.getElem?_map] at ha
        cases hf : (fd ci)[j]? with
        | none => rw [hf] at ha; cases ha
        | some y =>
          rw [hf] at ha
          cases ha
          have hj : j < z.2.2 := by rw [← q0]; exact (List.getElem?_eq_some_iff.mp hf).1
          have hv1 : v = defaultValue y.1 := by
            rw [List.getElem?_map, List.getElem?_range hj] at hv
            have := Option.some.inj hv
            rw [← this]
            show defaultValue ((fd ci).getD j (.int, false)).1 = _
            rw [List.getD_eq_getElem?_getD, hf]
            rfl
          subst hv1
          obtain ⟨d1, d2⟩ := kc_dft.ok (β := va_up β (Hs.length + 1) q) (N := Hs.length + 1) (q6 y (List.mem_of_getElem? hf)) h0.2
          exact ⟨by rw [d1]; exact h0.1, d2⟩
    · cases h
  · cases h
theorem kc_i32nn {x : Int32} {z : Int} (h : x.toInt = z) (h1 : 0 ≤ z) : ¬ x < 0 ∧ x.toNatClampNeg = z.toNat := by
  have h9 : (x.toNatClampNeg : Int) = x.toInt := Int32.cast_toNatClampNeg x (by rw [Int32.le_iff_toInt_le]; show (0 : Int) ≤ _; omega)
  refine ⟨fun q => ?_, by omega⟩
  have := Int32.lt_iff_toInt_lt.mp q
  have h8 : (0 : Int32).toInt = 0 := rfl
  omega
theorem kc_t0 {β : Nat → Nat} {N : Nat} : kc_t β N (1, 0, 0) (.int 0) := ⟨0, rfl, Int.le_refl _, Int.le_refl _⟩
theorem kc_t0l {β : Nat → Nat} {N : Nat} : kc_t β N (2, 0, 0) (.long 0) := ⟨0, rfl, Int.le_refl _, Int.le_refl _⟩
theorem kc_t0r {β : Nat → Nat} {N : Nat} : kc_t β N (3, 0, 0) (va_rf none) := Or.inl ⟨rfl, Int.le_refl _, Int.le_refl _⟩
set_option maxHeartbeats 4000000 in
theorem kc_nar.ok {t0 : ArrayType} (h : kc_nar RC RS t0 E K Hs cs ss = some (K', Hs', cs', ss')) (hx : p.tables.exec = Jvm.exec) (hb : c.code = cc) (hts : ∀ w ∈ Ts, w.before args s = true) (hAC : ∀ ty : FieldType, ty = .int ∨ ty = .byte ∨ ty = .short ∨ ty = .boolean ∨ ty = .long → Jvm.Cond.arrayClass ty ∈ Ts) (hRC : RC ≤ R.cells) (hRS : RS ≤ R.slots) (hA : ∀ q, H0.size ≤ q → A q) (hd : decode cc pc = .ok (.newarray t0, 2))
    (k : kc_J p l e R s m args below meth c Q D cl A H0 nL nA ρ0 nB β0 (pc + 2) (E, L, K', Hs', cs', ss')) : kc_J p l e R s m args below meth c Q D cl A H0 nL nA ρ0 nB β0 pc (E, L, K, Hs, cs, ss) := by
  intro ρ β ws tys H locs ls lv st hk hg
  show W p l e R s m args below meth c H locs cs ss Q (F0 m pc ls st)
  have hE : kc_env ρ E := hk.1
  have hst : kc_stk ρ β Hs.length E.length K st := hk.2.2.2.2.1
  obtain ⟨hK, hPw, hD, hS, hC⟩ := hk.2.2.2.2.2
  unfold kc_nar at h
  split at h
  · rename_i n d K2
    split at h
    · rename_i hc
      obtain ⟨c1, c2, c3, c4, c5⟩ := hc
      obtain ⟨v, st', rfl, hlt, ⟨x, rfl, ex⟩, hst'⟩ := kc_stk.uncons hst
      have hbn := hE.at (1, n, d)
      dsimp only at hbn ex
      obtain ⟨x1, x2⟩ := kc_i32nn (x := x) (z := kc_lo E (1, n, d)) (by omega) c2
      split at h
      · cases h
        exact va_newa (atype := .int) (ty := .int) (a0 := ((kc_lo E (1, n, d)).toNat, .inl (fun _ => 0))) hx hb (hts _ (hAC .int (by simp))) rfl hK hPw hD hS hA (fun _ => rfl) x1 x2 (by show _ * 4 ≤ _; omega) (by omega) (by omega) hd (fun q cA H1 v1 u1 u2 u3 => kc_J.cell k hk hg hst' v1 u1 u2 u3 kc_tys_app ⟨cA, tys.length, _, rfl, by simp, fun j _ => kc_t0⟩)
      · cases h
        exact va_newa (atype := .byte) (ty := .byte) (a0 := ((kc_lo E (1, n, d)).toNat, .inl (fun _ => 0))) hx hb (hts _ (hAC .byte (by simp))) rfl hK hPw hD hS hA (fun _ => rfl) x1 x2 (by show _ * 1 ≤ _; omega) (by omega) (by omega) hd (fun q cA H1 v1 u1 u2 u3 => kc_J.cell k hk hg hst' v1 u1 u2 u3 kc_tys_app ⟨cA, tys.length, _, rfl, by simp, fun j _ => kc_t0⟩)
      · cases h
        exact va_newa (atype := .short) (ty := .short) (a0 := ((kc_lo E (1, n, d)).toNat, .inl (fun _ => 0))) hx hb (hts _ (hAC .short (by simp))) rfl hK hPw hD hS hA (fun _ => rfl) x1 x2 (by show _ * 2 ≤ _; omega) (by omega) (by omega) hd (fun q cA H1 v1 u1 u2 u3 => kc_J.cell k hk hg hst' v1 u1 u2 u3 kc_tys_app ⟨cA, tys.length, _, rfl, by simp, fun j _ => kc_t0⟩)
      · cases h
        exact va_newa (atype := .boolean) (ty := .boolean) (a0 := ((kc_lo E (1, n, d)).toNat, .inl (fun _ => 0))) hx hb (hts _ (hAC .boolean (by simp))) rfl hK hPw hD hS hA (fun _ => rfl) x1 x2 (by show _ * 1 ≤ _; omega) (by omega) (by omega) hd (fun q cA H1 v1 u1 u2 u3 => kc_J.cell k hk hg hst' v1 u1 u2 u3 kc_tys_app ⟨cA, tys.length, _, rfl, by simp, fun j _ => kc_t0⟩)
      · cases h
        exact va_newa (atype := .long) (ty := .long) (a0 := ((kc_lo E (1, n, d)).toNat, .inr (.inl (fun _ => 0)))) hx hb (hts _ (hAC .long (by simp))) rfl hK hPw hD hS hA (fun _ => rfl) x1 x2 (by show _ * 8 ≤ _; omega) (by omega) (by omega) hd (fun q cA H1 v1 u1 u2 u3 => kc_J.cell k hk hg hst' v1 u1 u2 u3 kc_tys_app ⟨cA, tys.length, _, rfl, by simp, fun j _ => kc_t0l⟩)
      · cases h
    · cases h
  · cases h
/-- a class's own links to components of arrays -/
def kc_AL (own : String) (s : State) (Ts : List Jvm.Cond) (aw : Nat → Option FieldType) : Prop := ∀ (ix : Nat) (ty : FieldType), aw ix = some ty → ∃ C : String, ty = .object C ∧ Jvm.Cond.classLink own ix C ∈ Ts ∧ va_AO C s
set_option maxHeartbeats 4000000 in
theorem kc_ana.ok {aw : Nat → Option FieldType} {ix : Nat} (h : kc_ana aw RC RS ix E K Hs cs ss = some (K', Hs', cs', ss')) (hx : p.tables.exec = Jvm.exec) (hb : c.code = cc) (hown : s.vm.findClass own = some m.cls) (hts : ∀ w ∈ Ts, w.before args s = true) (hAL : kc_AL own s Ts aw) (hRC : RC ≤ R.cells) (hRS : RS ≤ R.slots) (hA : ∀ q, H0.size ≤ q → A q) (hd : decode cc pc = .ok (.anewarray ix, 3))
    (k : kc_J p l e R s m args below meth c Q D cl A H0 nL nA ρ0 nB β0 (pc + 3) (E, L, K', Hs', cs', ss')) : kc_J p l e R s m args below meth c Q D cl A H0 nL nA ρ0 nB β0 pc (E, L, K, Hs, cs, ss) := by
  intro ρ β ws tys H locs ls lv st hk hg
  show W p l e R s m args below meth c H locs cs ss Q (F0 m pc ls st)
  have hE : kc_env ρ E := hk.1
  have hst : kc_stk ρ β Hs.length E.length K st := hk.2.2.2.2.1
  obtain ⟨hK, hPw, hD, hS, hC⟩ := hk.2.2.2.2.2
  unfold kc_ana at h
  split at h
  · rename_i n d K2 ty e1
    split at h
    · rename_i hc
      obtain ⟨c1, c2, c3, c4, c5⟩ := hc
      cases h
      obtain ⟨v, st', rfl, hlt, ⟨x, rfl, ex⟩, hst'⟩ := kc_stk.uncons hst
      have hbn := hE.at (1, n, d)
      dsimp only at hbn ex
      obtain ⟨x1, x2⟩ := kc_i32nn (x := x) (z := kc_lo E (1, n, d)) (by omega) c2
      obtain ⟨C, rfl, y1, y2⟩ := hAL _ _ e1
      exact va_newq hx hb hown (hts _ y1) y2 hK hPw hD hS hA x1 x2 (by omega) (by omega) (by omega) hd (fun q cA H1 v1 u1 u2 u3 => kc_J.cell k hk hg hst' v1 u1 u2 u3 kc_tys_app ⟨cA, tys.length, _, rfl, by simp, fun j _ => kc_t0r⟩)
    · cases h
  · cases h
/-- a class's own constants -/
def kc_KL (own : String) (Ts : List Jvm.Cond) (kw : Nat → Option (Nat × Int)) : Prop := (∀ (ix : Nat) (v : Int), kw ix = some (1, v) → ∃ x : Int32, x.toInt = v ∧ Jvm.Cond.constant own ix x ∈ Ts) ∧ ∀ (ix : Nat) (v : Int), kw ix = some (2, v) → ∃ x : Int64, x.toInt = v ∧ Jvm.Cond.constantLong own ix x ∈ Ts
theorem kc_ldc.ok {kw : Nat → Option (Nat × Int)} {t ix n : Nat} {i : Instr} (h : kc_ldc kw t ix K = some K') (hi : t = 1 ∧ i = .ldc ix ∧ n = 2 ∨ t = 1 ∧ i = .ldc_w ix ∧ n = 3 ∨ t = 2 ∧ i = .ldc2_w ix ∧ n = 3) (hx : p.tables.exec = Jvm.exec) (hb : c.code = cc) (hown : s.vm.findClass own = some m.cls) (hts : ∀ w ∈ Ts, w.before args s = true) (hKL : kc_KL own Ts kw) (hd : decode cc pc = .ok (i, n))
    (k : kc_J p l e R s m args below meth c Q D cl A H0 nL nA ρ0 nB β0 (pc + n) (E, L, K', Hs, cs, ss)) : kc_J p l e R s m args below meth c Q D cl A H0 nL nA ρ0 nB β0 pc (E, L, K, Hs, cs, ss) := by
  intro ρ β ws tys H locs ls lv st hk hg
  show W p l e R s m args below meth c H locs cs ss Q (F0 m pc ls st)
  have h0 : 0 < E.length ∧ ρ 0 = 0 := hk.2.1
  have hst : kc_stk ρ β Hs.length E.length K st := hk.2.2.2.2.1
  unfold kc_ldc at h
  split at h
  · rename_i t' v e1
    split at h
    · rename_i e2
      subst e2
      cases h
      rcases hi with ⟨rfl, rfl, rfl⟩ | ⟨rfl, rfl, rfl⟩ | ⟨rfl, rfl, rfl⟩
      · obtain ⟨x, rfl, hw⟩ := hKL.1 _ _ e1
        exact lv_ldc hx hb hown (hts _ hw) hd (kc_J.res k hk hg hst (kc_r.old hk.1 h0.1 ⟨x, rfl, by dsimp only; omega⟩))
      · obtain ⟨x, rfl, hw⟩ := hKL.1 _ _ e1
        exact lv_ldcw hx hb hown (hts _ hw) hd (kc_J.res k hk hg hst (kc_r.old hk.1 h0.1 ⟨x, rfl, by dsimp only; omega⟩))
      · obtain ⟨x, rfl, hw⟩ := hKL.2 _ _ e1
        exact lv_ldc2 hx hb hown (hts _ hw) hd (kc_J.res k hk hg hst (kc_r.old hk.1 h0.1 ⟨x, rfl, by dsimp only; omega⟩))
    · cases h
  · cases h
end KK
