/-- an instruction (but calls and returns) -/
def tk_s0 (T : tk_T) (F : List (Nat × Nat × Nat)) (C : kc_M) (nk : Option Nat) (sc : Bool) (i : Instr) (n pc : Nat) (E : tk_E) (L K : List tk_V) (M : tk_M) (cs ss : Nat) : Option (List (Nat × tk_S)) := match i with
  | .getfield ix => (tk_get (tk_TKT T) (tk_Tfl T C.2.2.2.2.2.2.1) ix E K M).map fun rs => rs.map fun q => (pc + 3, q.1, L, q.2.1, q.2.2, cs, ss)
  | .putfield ix => (tk_put (tk_TKT T) F (tk_Tfl T C.2.2.2.2.2.2.1) (tk_Tfd T) ix E K M).map fun r => [(pc + 3, E, L, r.1, r.2, cs, ss)]
  | .iaload => match tk_sld sc E K with
    | some r => some [(pc + 1, r.1, L, r.2, M, cs, ss)]
    | none => (tk_ald (tk_TKT T) .iaload E K M).map fun r => [(pc + 1, r.1, L, r.2.1, r.2.2, cs, ss)]
  | .baload => (tk_ald (tk_TKT T) .baload E K M).map fun r => [(pc + 1, r.1, L, r.2.1, r.2.2, cs, ss)]
  | .saload => (tk_ald (tk_TKT T) .saload E K M).map fun r => [(pc + 1, r.1, L, r.2.1, r.2.2, cs, ss)]
  | .laload => (tk_ald (tk_TKT T) .laload E K M).map fun r => [(pc + 1, r.1, L, r.2.1, r.2.2, cs, ss)]
  | .aaload => (tk_ald (tk_TKT T) .aaload E K M).map fun r => [(pc + 1, r.1, L, r.2.1, r.2.2, cs, ss)]
  | .arraylength => (tk_aln sc (tk_TKT T) E K).map fun r => [(pc + 1, E, L, r, M, cs, ss)]
  | .iastore => (tk_ast (tk_TKT T) F .iastore E K M).map fun r => [(pc + 1, E, L, r.1, r.2, cs, ss)]
  | .bastore => (tk_ast (tk_TKT T) F .bastore E K M).map fun r => [(pc + 1, E, L, r.1, r.2, cs, ss)]
  | .sastore => (tk_ast (tk_TKT T) F .sastore E K M).map fun r => [(pc + 1, E, L, r.1, r.2, cs, ss)]
  | .lastore => (tk_ast (tk_TKT T) F .lastore E K M).map fun r => [(pc + 1, E, L, r.1, r.2, cs, ss)]
  | .aastore => (tk_aas (tk_TKT T) F (tk_Tcn T) E K M).map fun r => [(pc + 1, E, L, r.1, r.2, cs, ss)]
  | .newarray t => (tk_nar (tk_TKT T) nk C.2.2.1 C.2.2.2.1 t E K cs ss).map fun r => [(pc + 2, r.1, L, r.2.1, M, r.2.2.1, r.2.2.2)]
  | .ldc ix => match tk_Ttx T C.2.2.2.2.2.2.1 ix with
    | some k => some [(pc + 2, E, L, (6, 0, (k : Int)) :: K, M, cs, ss)]
    | none => match tk_Tkw T C.2.2.2.2.2.2.1 ix with
      | some q => if Nat.beq q.1 1 = true then some [(pc + 2, E, L, (1, 0, q.2) :: K, M, cs, ss)] else none
      | none => none
  | .ldc_w ix => match tk_Ttx T C.2.2.2.2.2.2.1 ix with
    | some k => some [(pc + 3, E, L, (6, 0, (k : Int)) :: K, M, cs, ss)]
    | none => match tk_Tkw T C.2.2.2.2.2.2.1 ix with
      | some q => if Nat.beq q.1 1 = true then some [(pc + 3, E, L, (1, 0, q.2) :: K, M, cs, ss)] else none
      | none => none
  | .ldc2_w ix => match tk_Tkw T C.2.2.2.2.2.2.1 ix with
    | some q => if Nat.beq q.1 2 = true then some [(pc + 3, E, L, (2, 0, q.2) :: K, M, cs, ss)] else none
    | none => none
  | .goto o => (tk_x2 (.goto o) pc E K).map fun r => r.map fun q => (q.1, q.2.1, L, q.2.2, M, cs, ss)
  | .ifCond c o => (tk_x2 (.ifCond c o) pc E K).map fun r => r.map fun q => (q.1, q.2.1, L, q.2.2, M, cs, ss)
  | .if_icmp c o => (tk_x2 (.if_icmp c o) pc E K).map fun r => r.map fun q => (q.1, q.2.1, L, q.2.2, M, cs, ss)
  | .ifnull o => (tk_x2 (.ifnull o) pc E K).map fun r => r.map fun q => (q.1, q.2.1, L, q.2.2, M, cs, ss)
  | .ifnonnull o => (tk_x2 (.ifnonnull o) pc E K).map fun r => r.map fun q => (q.1, q.2.1, L, q.2.2, M, cs, ss)
  | .tableswitch d lo hi os => (tk_x2 (.tableswitch d lo hi os) pc E K).map fun r => r.map fun q => (q.1, q.2.1, L, q.2.2, M, cs, ss)
  | .lookupswitch d ps => (tk_x2 (.lookupswitch d ps) pc E K).map fun r => r.map fun q => (q.1, q.2.1, L, q.2.2, M, cs, ss)
  | i => if n = kc_len i then (tk_x1 C.1 i E L K).map fun r => [(pc + n, r.1, r.2.1, r.2.2, M, cs, ss)] else (match i with
    | .iinc j d => if n = 6 then (tk_x1 C.1 (.iinc j d) E L K).map fun r => [(pc + 6, r.1, r.2.1, r.2.2, M, cs, ss)] else none
    | _ => none)
def tk_step (T : tk_T) (F : List (Nat × Nat × Nat)) (y pc : Nat) (i : Instr) (n : Nat) (S : tk_S) : Option (List (Nat × tk_S)) := match i with
  | .lcmp => match tk_Tcd T y (pc + 1) with
    | some (j, m) => if n = 1 ∧ m = 3 then (tk_x3 j pc S.1 S.2.2.1).map fun r => r.map fun q => (q.1, q.2.1, S.2.1, q.2.2, S.2.2.2) else none
    | none => none
  | i => if kc_lenok i n = true then tk_s0 T F (tk_Tmi T y) (tk_Tnk T y pc) (Nat.beq y 0) i n pc S.1 S.2.1 S.2.2.1 S.2.2.2.1 S.2.2.2.2.1 S.2.2.2.2.2 else none
section TQ
variable {p : Program} {l : Launch} {e : Env} {R : Room} {s : State} {m : MethodId} {args : Array Value} {below : List Frame} {meth : Method} {c : Code} {H : Heap} {locs : List Loc} {cells slots : Nat} {Q : State → Prop} {cc : ByteArray} {pc : Nat} {ls : Array Slot} {rest : List Value}
/-- a text by the wide form -/
theorem tk_ldwS (hexec : p.tables.exec = Jvm.exec) (hb : c.code = cc) {own tx : String} {index q : Nat} (hown : s.vm.findClass own = some m.cls) (hZ : vk_R own index tx q s) (hdg : decode cc pc = .ok (.ldc_w index, 3))
    (k : W p l e R s m args below meth c H locs cells slots Q (F0 m (pc + 3) ls (.ref q :: rest))) : W p l e R s m args below meth c H locs cells slots Q (F0 m pc ls rest) := by
  intro T hT X
  obtain ⟨t, a1, b1⟩ := k T hT X
  exact ⟨t, X.ldcStringW hexec hown (text := tx) (a := q) hZ.1 hZ.2 (g := F0 m pc ls rest) rfl (by rw [hb]; exact hdg) t a1, b1⟩
end TQ
section TT
variable {T : tk_T} {U : kc_U} {Ts : List Jvm.Cond} {NWs : List (String × Nat × MethodName × String)} {TXs : List (String × Nat × String × Nat)} {St : (Nat → Nat) → State → Heap → Prop} {y : Nat}
variable {p : Program} {l : Launch} {e : Env} {R : Room} {s : State} {m : MethodId} {args : Array Value} {below : List Frame} {meth : Method} {c : Code} {Q : State → Prop}
variable {D : va_G} {cl : List vw_C} {A : Nat → Prop} {H0 : Heap} {F : List (Nat × Nat × Nat)} {B0 : tk_B} {ws0 : va_W}
variable {nA : Nat} {ρ0 : Nat → Int}
set_option maxHeartbeats 8000000 in
theorem tk_s0.ok {i : Instr} {n pc : Nat} {nk : Option Nat} {E : tk_E} {L K : List tk_V} {M : tk_M} {cs ss : Nat} {ns : List (Nat × tk_S)} (hV : tk_TV T U cl Ts TXs) (hX : tk_Cx T U Ts NWs TXs St y p R s m args meth c A H0 B0 nA ρ0) (hd : decode (U.2.2.1 y) pc = .ok (i, n)) (hl : kc_lenok i n = true) (h : tk_s0 T F (tk_Tmi T y) nk (Nat.beq y 0) i n pc E L K M cs ss = some ns)
    (k : ∀ q ∈ ns, tk_J p l e R s m args below meth c Q D cl A H0 (tk_TKT T) F B0 ws0 (tk_Tmi T y).1 nA ρ0 q.1 q.2) : tk_J p l e R s m args below meth c Q D cl A H0 (tk_TKT T) F B0 ws0 (tk_Tmi T y).1 nA ρ0 pc (E, L, K, M, cs, ss) := by
  obtain ⟨v1, v2, v3, v4, v5, v6, v7⟩ := hV
  obtain ⟨hx, hb, hml, hown, hts, hdx, hA, ⟨r1, r2, r3, r4⟩, hcap, hXX⟩ := hX
  have hXs : Nat.beq y 0 = true → tk_X s A H0 nA ρ0 B0.1 := fun q => hXX (tk_bq q)
  have jump : ∀ (j : Instr) (r : List tk_O), tk_x2 j pc E K = some r → decode (U.2.2.1 y) pc = .ok (j, n) → kc_l2 j n = true → (∀ q ∈ r.map (fun q => (q.1, q.2.1, L, q.2.2, M, cs, ss)), tk_J p l e R s m args below meth c Q D cl A H0 (tk_TKT T) F B0 ws0 (tk_Tmi T y).1 nA ρ0 q.1 q.2) → tk_J p l e R s m args below meth c Q D cl A H0 (tk_TKT T) F B0 ws0 (tk_Tmi T y).1 nA ρ0 pc (E, L, K, M, cs, ss) := fun j r hr hj hl2 kk => tk_x2.ok hr hx hb hj hl2 (fun q hq => kk _ (List.mem_map.mpr ⟨q, hq, rfl⟩))
  unfold tk_s0 at h
  split at h
  · cases Nat.eq_of_beq_eq_true hl
    obtain ⟨r, hr, rfl⟩ := Option.map_eq_some_iff.mp h
    exact tk_get.ok hr hx hb hown hts v2 (v3 _) hd (fun q hq => k _ (List.mem_map.mpr ⟨q, hq, rfl⟩))
  · cases Nat.eq_of_beq_eq_true hl
    obtain ⟨r, hr, rfl⟩ := Option.map_eq_some_iff.mp h
    exact tk_put.ok hr hx hb hown hts v2 (v3 _) hd (k _ List.mem_cons_self)
  · cases Nat.eq_of_beq_eq_true hl
    split at h
    · rename_i r hr
      cases h
      exact tk_sld.ok hr hx hb hd hXs (k _ List.mem_cons_self)
    · obtain ⟨r, hr, rfl⟩ := Option.map_eq_some_iff.mp h
      exact tk_ald.ok hr hx hb hd (k _ List.mem_cons_self)
  · cases Nat.eq_of_beq_eq_true hl
    obtain ⟨r, hr, rfl⟩ := Option.map_eq_some_iff.mp h
    exact tk_ald.ok hr hx hb hd (k _ List.mem_cons_self)
  · cases Nat.eq_of_beq_eq_true hl
    obtain ⟨r, hr, rfl⟩ := Option.map_eq_some_iff.mp h
    exact tk_ald.ok hr hx hb hd (k _ List.mem_cons_self)
  · cases Nat.eq_of_beq_eq_true hl
    obtain ⟨r, hr, rfl⟩ := Option.map_eq_some_iff.mp h
    exact tk_ald.ok hr hx hb hd (k _ List.mem_cons_self)
  · cases Nat.eq_of_beq_eq_true hl
    obtain ⟨r, hr, rfl⟩ := Option.map_eq_some_iff.mp h
    exact tk_ald.ok hr hx hb hd (k _ List.mem_cons_self)
  · cases Nat.eq_of_beq_eq_true hl
    obtain ⟨r, hr, rfl⟩ := Option.map_eq_some_iff.mp h
    exact tk_aln.ok hr hx hb hd hXs (k _ List.mem_cons_self)
  · cases Nat.eq_of_beq_eq_true hl
    obtain ⟨r, hr, rfl⟩ := Option.map_eq_some_iff.mp h
    exact tk_ast.ok hr hx hb hd (k _ List.mem_cons_self)
  · cases Nat.eq_of_beq_eq_true hl
    obtain ⟨r, hr, rfl⟩ := Option.map_eq_some_iff.mp h
    exact tk_ast.ok hr hx hb hd (k _ List.mem_cons_self)
  · cases Nat.eq_of_beq_eq_true hl
    obtain ⟨r, hr, rfl⟩ := Option.map_eq_some_iff.mp h
    exact tk_ast.ok hr hx hb hd (k _ List.mem_cons_self)
  · cases Nat.eq_of_beq_eq_true hl
    obtain ⟨r, hr, rfl⟩ := Option.map_eq_some_iff.mp h
    exact tk_ast.ok hr hx hb hd (k _ List.mem_cons_self)
  · cases Nat.eq_of_beq_eq_true hl
    obtain ⟨r, hr, rfl⟩ := Option.map_eq_some_iff.mp h
    exact tk_aas.ok hr hx hb (fun ci z hz => (v5 ci z hz).1) hd (k _ List.mem_cons_self)
  · cases Nat.eq_of_beq_eq_true hl
    obtain ⟨r, hr, rfl⟩ := Option.map_eq_some_iff.mp h
    exact tk_nar.ok hr hx hb hts v6 r1 r2 hcap hA hd (k _ List.mem_cons_self)
  · cases Nat.eq_of_beq_eq_true hl
    split at h
    · rename_i kx hkx
      cases h
      obtain ⟨tx, htx⟩ := v7 _ _ _ hkx
      intro ρ B ws tys H locs ls lv st hk hg
      have h0 : 0 < E.length ∧ ρ 0 = 0 := hk.2.1
      have hst : tk_stk ρ B E.length K st := hk.2.2.2.2.1
      have hle : B.2.1 = B0.2.1 := hk.2.2.2.2.2.2.2.2.2.2.2.2.1.2.1
      refine va_ldcS hx hb hown (hdx.2.1 _ htx) hd (tk_J.go (k _ List.mem_cons_self) hk hg ⟨h0.1, ?_, hst⟩)
      show Value.ref _ = Value.ref (B.2.1 (ρ 0 + (kx : Int)).toNat)
      rw [h0.2, hle, show ((0 : Int) + (kx : Int)).toNat = kx by omega]
    · split at h
      · rename_i q hq
        split at h
        · rename_i h1
          cases h
          obtain ⟨q1, q2⟩ := q
          cases tk_bq h1
          exact tk_ldc.ok hq (Or.inl ⟨rfl, rfl, rfl⟩) hx hb hown hts (v4 _) hd (k _ List.mem_cons_self)
        · cases h
      · cases h
  · cases Nat.eq_of_beq_eq_true hl
    split at h
    · rename_i kx hkx
      cases h
      obtain ⟨tx, htx⟩ := v7 _ _ _ hkx
      intro ρ B ws tys H locs ls lv st hk hg
      have h0 : 0 < E.length ∧ ρ 0 = 0 := hk.2.1
      have hst : tk_stk ρ B E.length K st := hk.2.2.2.2.1
      have hle : B.2.1 = B0.2.1 := hk.2.2.2.2.2.2.2.2.2.2.2.2.1.2.1
      refine tk_ldwS hx hb hown (hdx.2.1 _ htx) hd (tk_J.go (k _ List.mem_cons_self) hk hg ⟨h0.1, ?_, hst⟩)
      show Value.ref _ = Value.ref (B.2.1 (ρ 0 + (kx : Int)).toNat)
      rw [h0.2, hle, show ((0 : Int) + (kx : Int)).toNat = kx by omega]
    · split at h
      · rename_i q hq
        split at h
        · rename_i h1
          cases h
          obtain ⟨q1, q2⟩ := q
          cases tk_bq h1
          exact tk_ldc.ok hq (Or.inr (Or.inl ⟨rfl, rfl, rfl⟩)) hx hb hown hts (v4 _) hd (k _ List.mem_cons_self)
        · cases h
      · cases h
  · cases Nat.eq_of_beq_eq_true hl
    split at h
    · rename_i q hq
      split at h
      · rename_i h1
        cases h
        obtain ⟨q1, q2⟩ := q
        cases tk_bq h1
        exact tk_ldc.ok hq (Or.inr (Or.inr ⟨rfl, rfl, rfl⟩)) hx hb hown hts (v4 _) hd (k _ List.mem_cons_self)
      · cases h
    · cases h
  · obtain ⟨r, hr, rfl⟩ := Option.map_eq_some_iff.mp h
    exact jump _ r hr hd (decide_eq_true (Nat.eq_of_beq_eq_true hl)) k
  · obtain ⟨r, hr, rfl⟩ := Option.map_eq_some_iff.mp h
    exact jump _ r hr hd (decide_eq_true (Nat.eq_of_beq_eq_true hl)) k
  · obtain ⟨r, hr, rfl⟩ := Option.map_eq_some_iff.mp h
    exact jump _ r hr hd (decide_eq_true (Nat.eq_of_beq_eq_true hl)) k
  · obtain ⟨r, hr, rfl⟩ := Option.map_eq_some_iff.mp h
    exact jump _ r hr hd (decide_eq_true (Nat.eq_of_beq_eq_true hl)) k
  · obtain ⟨r, hr, rfl⟩ := Option.map_eq_some_iff.mp h
    exact jump _ r hr hd (decide_eq_true (Nat.eq_of_beq_eq_true hl)) k
  · obtain ⟨r, hr, rfl⟩ := Option.map_eq_some_iff.mp h
    exact jump _ r hr hd rfl k
  · obtain ⟨r, hr, rfl⟩ := Option.map_eq_some_iff.mp h
    exact jump _ r hr hd rfl k
  · split at h
    · rename_i hn
      subst hn
      obtain ⟨r, hr, rfl⟩ := Option.map_eq_some_iff.mp h
      exact tk_x1.ok hr hx hb hd rfl (k _ List.mem_cons_self)
    · split at h
      · split at h
        · rename_i hn
          subst hn
          obtain ⟨r, hr, rfl⟩ := Option.map_eq_some_iff.mp h
          exact tk_x1.okw hr hx hb hd (k _ List.mem_cons_self)
        · cases h
      · cases h
theorem tk_step.ok {i : Instr} {n pc : Nat} {S : tk_S} {ns : List (Nat × tk_S)} (hV : tk_TV T U cl Ts TXs) (hX : tk_Cx T U Ts NWs TXs St y p R s m args meth c A H0 B0 nA ρ0) (hc : tk_Tcd T y pc = some (i, n)) (h : tk_step T F y pc i n S = some ns)
    (k : ∀ q ∈ ns, tk_J p l e R s m args below meth c Q D cl A H0 (tk_TKT T) F B0 ws0 (tk_Tmi T y).1 nA ρ0 q.1 q.2) : tk_J p l e R s m args below meth c Q D cl A H0 (tk_TKT T) F B0 ws0 (tk_Tmi T y).1 nA ρ0 pc S := by
  have hd := hV.1 _ _ _ _ hc
  obtain ⟨E, L, K, M, cs, ss⟩ := S
  unfold tk_step at h
  split at h
  · split at h
    · rename_i j m2 hj
      split at h
      · rename_i hl
        obtain ⟨rfl, rfl⟩ := hl
        obtain ⟨r, hr, rfl⟩ := Option.map_eq_some_iff.mp h
        exact tk_x3.ok hr hX.1 hX.2.1 hd (hV.1 _ _ _ _ hj) (fun q hq => k _ (List.mem_map.mpr ⟨q, hq, rfl⟩))
      · cases h
    · cases h
  · split at h
    · rename_i hl
      exact tk_s0.ok hV hX hd hl h k
    · cases h
end TT
