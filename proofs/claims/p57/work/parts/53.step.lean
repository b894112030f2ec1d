/-- what holds of a state beside the tables' words, and stays -/
def kc_Dy (AOs : List String) (NWs : List (String × Nat × MethodName × String)) (s : State) : Prop := (∀ C ∈ AOs, va_AO C s) ∧ va_AOA .int s ∧ ∀ q ∈ NWs, va_Nw (.methodLinkNest q.1 q.2.1 q.2.2.1 q.2.2.2) s
theorem kc_Dy.warm {AOs : List String} {NWs : List (String × Nat × MethodName × String)} {s U : State} (hW : s.WarmedH U.vm) (h : kc_Dy AOs NWs s) : kc_Dy AOs NWs U := ⟨fun C hC => (h.1 C hC).moved hW.alike, h.2.1.moved hW.alike, fun q hq => (h.2.2 q hq).warmM hW⟩
/-- a class's number, its name; a method's name, code, answer -/
abbrev kc_U : Type := (Nat → String) × (Nat → MethodName) × (Nat → ByteArray) × (Nat → Option FieldType)
/-- the tables say what the class files say -/
def kc_TV (T : kc_T) (U : kc_U) (cl : List vw_C) (Ts : List Jvm.Cond) (AOs : List String) : Prop :=
  (∀ (y pc : Nat) (i : Instr) (n : Nat), kc_Tcd T y pc = some (i, n) → decode (U.2.2.1 y) pc = .ok (i, n)) ∧ kc_CL cl (kc_Tfd T) Ts ∧ (∀ ci : Nat, kc_FL cl (U.1 ci) Ts (kc_Tfl T ci)) ∧ (∀ ci : Nat, kc_NL cl (U.1 ci) Ts (kc_Tnw T ci)) ∧ (∀ ci : Nat, kc_KL (U.1 ci) Ts (kc_Tkw T ci)) ∧ (∀ (ci : Nat) (z : vw_C), cl[ci]? = some z → kc_Tcn T ci = .object z.1 ∧ z.1 = U.1 ci) ∧ (∀ ty : FieldType, ty = .int ∨ ty = .byte ∨ ty = .short ∨ ty = .boolean ∨ ty = .long → Jvm.Cond.arrayClass ty ∈ Ts) ∧
  (∀ (ci ix : Nat) (ty : FieldType), kc_Taw T ci ix = some ty → ∃ C ∈ AOs, ty = .object C ∧ Jvm.Cond.classLink (U.1 ci) ix C ∈ Ts) ∧ (∀ ci ix : Nat, kc_Tmw T ci ix = true → Jvm.Cond.classLink (U.1 ci) ix ("[" ++ (FieldType.array .int).toString) ∈ Ts)
/-- the method y runs -/
def kc_Cx (T : kc_T) (U : kc_U) (Ts : List Jvm.Cond) (AOs : List String) (NWs : List (String × Nat × MethodName × String)) (y : Nat) (p : Program) (R : Room) (s : State) (m : MethodId) (args : Array Value) (meth : Method) (c : Code) (A : Nat → Prop) (H0 : Heap) (nA : Nat) (ρ0 : Nat → Int) (β0 : Nat → Nat) : Prop :=
  p.tables.exec = Jvm.exec ∧ c.code = U.2.2.1 y ∧ c.maxLocals = (kc_Tmi T y).1 ∧ s.vm.findClass (U.1 (kc_Tmi T y).2.2.2.2.2.2.1) = some m.cls ∧ (∀ w ∈ Ts, w.before args s = true) ∧ kc_Dy AOs NWs s ∧ ((kc_Tmi T y).2.2.2.2.2.2.2 = true → meth.name = "<init>") ∧ (∀ q, H0.size ≤ q → A q) ∧ ((kc_Tmi T y).2.2.1 ≤ R.cells ∧ (kc_Tmi T y).2.2.2.1 ≤ R.slots ∧ (kc_Tmi T y).2.2.2.2.1 ≤ R.frames ∧ (kc_Tmi T y).2.2.2.2.2.1 ≤ R.locals) ∧ kc_X s A H0 nA ρ0 β0
theorem kc_X.mono {s : State} {A : Nat → Prop} {H0 : Heap} {nA nA' : Nat} {ρ0 ρ : Nat → Int} {β0 β : Nat → Nat} (h : kc_X s A H0 nA ρ0 β0) (hn : nA ≤ nA') (h1 : ∀ k, k < nA → ρ k = ρ0 k) (h2 : β 0 = β0 0) : kc_X s A H0 nA' ρ β := by
  trivial
section KM
variable {T : kc_T} {U : kc_U} {Ts : List Jvm.Cond} {AOs : List String} {NWs : List (String × Nat × MethodName × String)} {y : Nat}
variable {p : Program} {l : Launch} {e : Env} {R : Room} {s : State} {m : MethodId} {args : Array Value} {below : List Frame} {meth : Method} {c : Code} {Q : State → Prop}
variable {D : va_G} {cl : List vw_C} {A : Nat → Prop} {H0 : Heap}
variable {nA : Nat} {ρ0 : Nat → Int} {nB : Nat} {β0 : Nat → Nat}
set_option maxHeartbeats 8000000 in
theorem kc_s0.ok {i : Instr} {n pc : Nat} {E : kc_E} {L K : List kc_V} {Hs : List kc_G} {cs ss : Nat} {ns : List (Nat × kc_S)} (hV : kc_TV T U cl Ts AOs) (hX : kc_Cx T U Ts AOs NWs y p R s m args meth c A H0 nA ρ0 β0) (hd : decode (U.2.2.1 y) pc = .ok (i, n)) (hl : kc_lenok i n = true) (h : kc_s0 T (kc_Tmi T y) i n pc E L K Hs cs ss = some ns)
    (k : ∀ q ∈ ns, kc_J p l e R s m args below meth c Q D cl A H0 (kc_Tmi T y).1 nA ρ0 nB β0 q.1 q.2) : kc_J p l e R s m args below meth c Q D cl A H0 (kc_Tmi T y).1 nA ρ0 nB β0 pc (E, L, K, Hs, cs, ss) := by
  obtain ⟨v1, v2, v3, v4, v5, v6, v7, v8, v9⟩ := hV
  obtain ⟨hx, hb, hml, hown, hts, hdy, hini, hA, ⟨r1, r2, r3, r4⟩, hXX⟩ := hX
  have hAL : kc_AL (U.1 (kc_Tmi T y).2.2.2.2.2.2.1) s Ts (kc_Taw T (kc_Tmi T y).2.2.2.2.2.2.1) := fun ix ty h => by
    obtain ⟨C, hC, e1, e2⟩ := v8 _ ix ty h
    exact ⟨C, e1, e2, hdy.1 C hC⟩
  have hML : kc_ML (U.1 (kc_Tmi T y).2.2.2.2.2.2.1) s Ts (kc_Tmw T (kc_Tmi T y).2.2.2.2.2.2.1) := fun ix h => ⟨v9 _ ix h, hdy.2.1⟩
  have jump : ∀ (j : Instr) (r : List kc_N), kc_x2 j pc E K = some r → decode (U.2.2.1 y) pc = .ok (j, n) → kc_l2 j n = true → (∀ q ∈ r.map (fun q => (q.1, q.2.1, L, q.2.2, Hs, cs, ss)), kc_J p l e R s m args below meth c Q D cl A H0 (kc_Tmi T y).1 nA ρ0 nB β0 q.1 q.2) → kc_J p l e R s m args below meth c Q D cl A H0 (kc_Tmi T y).1 nA ρ0 nB β0 pc (E, L, K, Hs, cs, ss) := fun j r hr hj hl2 kk => kc_x2.ok hr hx hb hj hl2 (fun q hq => kk _ (List.mem_map.mpr ⟨q, hq, rfl⟩))
  unfold kc_s0 at h
  split at h
  · cases Nat.eq_of_beq_eq_true hl
    obtain ⟨r, hr, rfl⟩ := Option.map_eq_some_iff.mp h
    exact kc_get.ok hr hx hb hown hts v2 (v3 _) hd (k _ List.mem_cons_self)
  · cases Nat.eq_of_beq_eq_true hl
    obtain ⟨r, hr, rfl⟩ := Option.map_eq_some_iff.mp h
    exact kc_put.ok hr hx hb hown hts v2 (v3 _) hini (fun z hz => (v6 _ z hz).2) hd (k _ List.mem_cons_self)
  · cases Nat.eq_of_beq_eq_true hl
    obtain ⟨r, hr, rfl⟩ := Option.map_eq_some_iff.mp h
    exact kc_ald.ok hr hx hb hd (fun _ => hXX) (k _ List.mem_cons_self)
  · cases Nat.eq_of_beq_eq_true hl
    obtain ⟨r, hr, rfl⟩ := Option.map_eq_some_iff.mp h
    exact kc_ald.ok hr hx hb hd (fun _ => hXX) (k _ List.mem_cons_self)
  · cases Nat.eq_of_beq_eq_true hl
    obtain ⟨r, hr, rfl⟩ := Option.map_eq_some_iff.mp h
    exact kc_ald.ok hr hx hb hd (fun _ => hXX) (k _ List.mem_cons_self)
  · cases Nat.eq_of_beq_eq_true hl
    obtain ⟨r, hr, rfl⟩ := Option.map_eq_some_iff.mp h
    exact kc_ald.ok hr hx hb hd (fun _ => hXX) (k _ List.mem_cons_self)
  · cases Nat.eq_of_beq_eq_true hl
    split at h
    · rename_i r hr
      cases h
      exact kc_x4.ok hr (fun q hq => k _ (List.mem_map.mpr ⟨q, hq, rfl⟩))
    · obtain ⟨r, hr, rfl⟩ := Option.map_eq_some_iff.mp h
      exact kc_ald.ok hr hx hb hd (fun _ => hXX) (k _ List.mem_cons_self)
  · cases Nat.eq_of_beq_eq_true hl
    obtain ⟨r, hr, rfl⟩ := Option.map_eq_some_iff.mp h
    exact kc_aln.ok hr hx hb hd (fun _ => hXX) (k _ List.mem_cons_self)
  · cases Nat.eq_of_beq_eq_true hl
    obtain ⟨r, hr, rfl⟩ := Option.map_eq_some_iff.mp h
    exact kc_ast.ok hr hx hb hd (k _ List.mem_cons_self)
  · cases Nat.eq_of_beq_eq_true hl
    obtain ⟨r, hr, rfl⟩ := Option.map_eq_some_iff.mp h
    exact kc_ast.ok hr hx hb hd (k _ List.mem_cons_self)
  · cases Nat.eq_of_beq_eq_true hl
    obtain ⟨r, hr, rfl⟩ := Option.map_eq_some_iff.mp h
    exact kc_ast.ok hr hx hb hd (k _ List.mem_cons_self)
  · cases Nat.eq_of_beq_eq_true hl
    obtain ⟨r, hr, rfl⟩ := Option.map_eq_some_iff.mp h
    exact kc_ast.ok hr hx hb hd (k _ List.mem_cons_self)
  · cases Nat.eq_of_beq_eq_true hl
    split at h
    · rename_i r hr
      cases h
      exact kc_x4.ok hr (fun q hq => k _ (List.mem_map.mpr ⟨q, hq, rfl⟩))
    · obtain ⟨r, hr, rfl⟩ := Option.map_eq_some_iff.mp h
      exact kc_aas.ok hr hx hb (fun ci z hz => (v6 ci z hz).1) hd (k _ List.mem_cons_self)
  · cases Nat.eq_of_beq_eq_true hl
    obtain ⟨r, hr, rfl⟩ := Option.map_eq_some_iff.mp h
    exact kc_new.ok hr hx hb hown hts v2 (v4 _) r1 r2 hA hd (k _ List.mem_cons_self)
  · cases Nat.eq_of_beq_eq_true hl
    obtain ⟨r, hr, rfl⟩ := Option.map_eq_some_iff.mp h
    exact kc_nar.ok hr hx hb hts v7 r1 r2 hA hd (k _ List.mem_cons_self)
  · cases Nat.eq_of_beq_eq_true hl
    obtain ⟨r, hr, rfl⟩ := Option.map_eq_some_iff.mp h
    exact kc_ana.ok hr hx hb hown hts hAL r1 r2 hA hd (k _ List.mem_cons_self)
  · unfold kc_lenok at hl
    dsimp only at hl
    rw [Bool.and_eq_true] at hl
    cases Nat.eq_of_beq_eq_true hl.1
    cases Nat.eq_of_beq_eq_true hl.2
    obtain ⟨r, hr, rfl⟩ := Option.map_eq_some_iff.mp h
    exact kc_mna.ok hr hx hb hown hts hML (v7 _ (Or.inl rfl)) r1 r2 hA hd (k _ List.mem_cons_self)
  · cases Nat.eq_of_beq_eq_true hl
    obtain ⟨r, hr, rfl⟩ := Option.map_eq_some_iff.mp h
    exact kc_ldc.ok hr (Or.inl ⟨rfl, rfl, rfl⟩) hx hb hown hts (v5 _) hd (k _ List.mem_cons_self)
  · cases Nat.eq_of_beq_eq_true hl
    obtain ⟨r, hr, rfl⟩ := Option.map_eq_some_iff.mp h
    exact kc_ldc.ok hr (Or.inr (Or.inl ⟨rfl, rfl, rfl⟩)) hx hb hown hts (v5 _) hd (k _ List.mem_cons_self)
  · cases Nat.eq_of_beq_eq_true hl
    obtain ⟨r, hr, rfl⟩ := Option.map_eq_some_iff.mp h
    exact kc_ldc.ok hr (Or.inr (Or.inr ⟨rfl, rfl, rfl⟩)) hx hb hown hts (v5 _) hd (k _ List.mem_cons_self)
  · obtain ⟨r, hr, rfl⟩ := Option.map_eq_some_iff.mp h
    exact jump _ r hr hd (decide_eq_true (Nat.eq_of_beq_eq_true hl)) k
  · obtain ⟨r, hr, rfl⟩ := Option.map_eq_some_iff.mp h
    exact jump _ r hr hd (decide_eq_true (Nat.eq_of_beq_eq_true hl)) k
  · obtain ⟨r, hr, rfl⟩ := Option.map_eq_some_iff.mp h
    exact jump _ r hr hd (decide_eq_true (Nat.eq_of_beq_eq_true hl)) k
  · obtain ⟨r, hr, rfl⟩ := Option.map_eq_some_iff.mp h
    exact jump _ r hr hd (decide_eq_true (Nat.eq_of_beq_eq_true hl)) k
  · obtain ⟨r, hr, rfl⟩ := Option.map_eq_some_iff.mp h
    exact jump _ r hr hd (decide_eq_true (Nat.eq_of_beq_eq_true hl)) k
  · obtain ⟨r, hr, rfl⟩ := Option.map_eq_some_iff.mp h
    exact jump _ r hr hd rfl k
  · obtain ⟨r, hr, rfl⟩ := Option.map_eq_some_iff.mp h
    exact jump _ r hr hd rfl k
  · split at h
    · rename_i hn
      subst hn
      obtain ⟨r, hr, rfl⟩ := Option.map_eq_some_iff.mp h
      exact kc_x1.ok hr hx hb hd (k _ List.mem_cons_self)
    · split at h
      · split at h
        · rename_i hn
          subst hn
          obtain ⟨r, hr, rfl⟩ := Option.map_eq_some_iff.mp h
          exact kc_x1.okw hr hx hb hd (k _ List.mem_cons_self)
        · cases h
      · cases h
theorem kc_step.ok {i : Instr} {n pc : Nat} {S : kc_S} {ns : List (Nat × kc_S)} (hV : kc_TV T U cl Ts AOs) (hX : kc_Cx T U Ts AOs NWs y p R s m args meth c A H0 nA ρ0 β0) (hc : kc_Tcd T y pc = some (i, n)) (h : kc_step T y pc i n S = some ns)
    (k : ∀ q ∈ ns, kc_J p l e R s m args below meth c Q D cl A H0 (kc_Tmi T y).1 nA ρ0 nB β0 q.1 q.2) : kc_J p l e R s m args below meth c Q D cl A H0 (kc_Tmi T y).1 nA ρ0 nB β0 pc S := by
  have hd := hV.1 _ _ _ _ hc
  obtain ⟨E, L, K, Hs, cs, ss⟩ := S
  unfold kc_step at h
  split at h
  · split at h
    · rename_i j m2 hj
      split at h
      · rename_i hl
        obtain ⟨rfl, rfl⟩ := hl
        obtain ⟨r, hr, rfl⟩ := Option.map_eq_some_iff.mp h
        exact kc_x3.ok hr hX.1 hX.2.1 hd (hV.1 _ _ _ _ hj) (fun q hq => k _ (List.mem_map.mpr ⟨q, hq, rfl⟩))
      · cases h
    · cases h
  · split at h
    · rename_i hl
      exact kc_s0.ok hV hX hd hl h k
    · cases h
end KM
