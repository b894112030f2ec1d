section TS
variable {l : Launch} {D : va_G} {A : Nat → Prop}
set_option maxHeartbeats 4000000 in
theorem tx_co {i : Nat} (hi : i < 31) {ad : Nat → Nat} {H : Heap} {tys : List (ClassId × FieldType)} : Met l (tw_U.2.1 2) (tk_ws_ tt_T tw_U tw_Ts 2) (tk_rm tt_T 2) (tk_Pc tw_NWs tw_TXs (tx_St A) D tw_cl ad [.ref (ad i)] H tys) (tx_Qr 0) 0 0 A := by
  have hM := tw_mv (y := 2) (by decide) (by decide)
  refine tk_ofW (cc := tw_U.2.2.1 2) (maxL := 1) (ret := tw_U.2.2.2 2) hM.2.2.1 rfl ?_
  intro p e s m args below meth c s₁ Bd hml hv
  obtain ⟨rfl, hH, hdx, hK⟩ := hv
  have hts : ∀ w ∈ tw_Ts, w.before [Value.ref (ad i)].toArray s = true := fun w hw => atoms_spec (ws := tk_ws_ tt_T tw_U tw_Ts 2) Bd.pre w (List.mem_cons_of_mem _ hw)
  have hl := lv_entry [Value.ref (ad i)] (n := 1) (Nat.le_of_ble_eq_true rfl)
  have hx := Bd.exec
  have hb := Bd.bytes
  have hown : s.vm.findClass "java/lang/String" = some m.cls := findClass_of_methodNamed Bd.named
  obtain ⟨-, -, adV, pw, hV, hC, -⟩ := hdx
  rw [← hH] at hV hC
  rw [lg_entry_eq]
  refine va_gets hx hb hC va_S.rf hown (hts _ tx_wC) (fun _ h => h) (tw_V.1 2 0 _ _ (rfl : tt_cd 2 0 = some (.getstatic 38, 3))) ?_
  refine lv_if_eq hx hb (tgt := 13) (tw_V.1 2 3 _ _ (rfl : tt_cd 2 3 = some (.ifCond .eq 10, 3))) rfl (fun q => absurd q (by decide)) (fun _ => ?_)
  refine lv_aload_n hx hb (tw_V.1 2 6 _ _ (rfl : tt_cd 2 6 = some (.aload_n 0, 1))) rfl (hl.2.2 (0, _) List.mem_cons_self) ?_
  refine vk_getf hx hb (hV.1 i hi).2.1 va_S.rf hown (hts _ tx_wK) (fun _ h => h) (tw_V.1 2 7 _ _ (rfl : tt_cd 2 7 = some (.getfield 15, 3))) ?_
  refine lv_goto hx hb (tgt := 14) (tw_V.1 2 10 _ _ (rfl : tt_cd 2 10 = some (.goto 4, 3))) rfl ?_
  exact W.zret hx hb (Bd.returns.trans rfl) rfl (fun t ht _ => ⟨rfl, by rw [ht]⟩) (fun q hq => absurd hq List.not_mem_nil) (tw_V.1 2 14 _ _ (rfl : tt_cd 2 14 = some (.ireturn, 1))) Bd.notSynchronized
set_option maxHeartbeats 4000000 in
theorem tx_la {i : Nat} (hi : i < 31) {ad : Nat → Nat} {H : Heap} {tys : List (ClassId × FieldType)} : Met l (tw_U.2.1 3) (tk_ws_ tt_T tw_U tw_Ts 3) (tk_rm tt_T 3) (tk_Pc tw_NWs tw_TXs (tx_St A) D tw_cl ad [.ref (ad i)] H tys) (tx_Qr 1) 0 0 A := by
  have hM := tw_mv (y := 3) (by decide) (by decide)
  refine tk_ofW (cc := tw_U.2.2.1 3) (maxL := 1) (ret := tw_U.2.2.2 3) hM.2.2.1 rfl ?_
  intro p e s m args below meth c s₁ Bd hml hv
  obtain ⟨rfl, hH, hdx, hK⟩ := hv
  have hts : ∀ w ∈ tw_Ts, w.before [Value.ref (ad i)].toArray s = true := fun w hw => atoms_spec (ws := tk_ws_ tt_T tw_U tw_Ts 3) Bd.pre w (List.mem_cons_of_mem _ hw)
  have hl := lv_entry [Value.ref (ad i)] (n := 1) (Nat.le_of_ble_eq_true rfl)
  have hx := Bd.exec
  have hb := Bd.bytes
  have hown : s.vm.findClass "java/lang/String" = some m.cls := findClass_of_methodNamed Bd.named
  obtain ⟨-, -, adV, pw, hV, hC, -⟩ := hdx
  rw [← hH] at hV hC
  rw [lg_entry_eq]
  refine va_gets hx hb hC va_S.rf hown (hts _ tx_wC) (fun _ h => h) (tw_V.1 3 0 _ _ (rfl : tt_cd 3 0 = some (.getstatic 38, 3))) ?_
  refine lv_if_eq hx hb (tgt := 17) (tw_V.1 3 3 _ _ (rfl : tt_cd 3 3 = some (.ifCond .eq 14, 3))) rfl (fun q => absurd q (by decide)) (fun _ => ?_)
  refine lv_aload_n hx hb (tw_V.1 3 6 _ _ (rfl : tt_cd 3 6 = some (.aload_n 0, 1))) rfl (hl.2.2 (0, _) List.mem_cons_self) ?_
  refine vk_getf hx hb (hV.1 i hi).2.1 va_S.rf hown (hts _ tx_wK) (fun _ h => h) (tw_V.1 3 7 _ _ (rfl : tt_cd 3 7 = some (.getfield 15, 3))) ?_
  refine lv_if_ne hx hb (tgt := 17) (tw_V.1 3 10 _ _ (rfl : tt_cd 3 10 = some (.ifCond .ne 7, 3))) rfl (fun q => absurd rfl q) (fun _ => ?_)
  refine lv_iconst hx hb (tw_V.1 3 13 _ _ (rfl : tt_cd 3 13 = some (.iconst 1, 1))) rfl ?_
  refine lv_goto hx hb (tgt := 18) (tw_V.1 3 14 _ _ (rfl : tt_cd 3 14 = some (.goto 4, 3))) rfl ?_
  exact W.zret hx hb (Bd.returns.trans rfl) rfl (fun t ht _ => ⟨rfl, by rw [ht]⟩) (fun q hq => absurd hq List.not_mem_nil) (tw_V.1 3 18 _ _ (rfl : tt_cd 3 18 = some (.ireturn, 1))) Bd.notSynchronized
theorem tx_c16 (x : Int32) : 0 ≤ ((x.toUInt32 % 65536).toInt32).toInt ∧ ((x.toUInt32 % 65536).toInt32).toInt ≤ 65535 := by
  have h1 : (x.toUInt32 % 65536).toNat < 65536 := by
    rw [UInt32.toNat_mod]
    exact Nat.mod_lt _ (by decide)
  have h2 : ((x.toUInt32 % 65536).toInt32) = nI (x.toUInt32 % 65536).toNat := by
    show _ = Int32.ofNat _
    apply Int32.toBitVec_inj.mp
    apply BitVec.eq_of_toNat_eq
    simp
    show x.toBitVec.toNat % 65536 = x.toBitVec.toNat % 65536 % 4294967296
    omega
  rw [h2, nI_toInt (by omega)]
  omega
def tx_Pp (i n : Int32) (f : Value) : Array Value → State → Prop := fun v _ => v = [Value.int i, Value.int n, f].toArray
def tx_Pq (A : Nat → Prop) (i n : Int32) (H : Heap) : Array Value → State → Prop := fun v Us => v = [Value.int i, Value.int n].toArray ∧ Us.heap = H ∧ va_Zq "jdk/internal/util/Preconditions" "SIOOBE_FORMATTER" "Ljava/util/function/BiFunction;" A Us H
def tx_Qv : Array Value → State → Outcome → State → Prop := fun _ st oc t => oc = .returned none ∧ t.heap = st.heap
def tx_Pl (A : Nat → Prop) (i av : Nat) (j : Int32) (H : Heap) : Array Value → State → Prop := fun v Us => v = [Value.ref av, Value.int j].toArray ∧ Us.heap = H ∧ va_T .byte av (tx_len.getD i 0) (fun k => .int ((tx_byt.getD i []).getD k 0)) A Us H ∧ va_Zq "jdk/internal/util/Preconditions" "SIOOBE_FORMATTER" "Ljava/util/function/BiFunction;" A Us H
def tx_Ql : Array Value → State → Outcome → State → Prop := fun _ st oc t => ∃ r : Int32, oc = .returned (some (.int r)) ∧ t.heap = st.heap ∧ 0 ≤ r.toInt ∧ r.toInt ≤ 65535
abbrev tx_nP : MethodName := ⟨"jdk/internal/util/Preconditions", "checkIndex", "(IILjava/util/function/BiFunction;)I"⟩
abbrev tx_nC : MethodName := ⟨"java/lang/String", "checkIndex", "(II)V"⟩
theorem tx_wP1 : Jvm.Cond.code tx_nP prog_22_method_11_code 3 (some .int) ∈ tw_Ts := tw_in2 (h := (3, 117)) rfl rfl
theorem tx_wP2 : Jvm.Cond.initialized "jdk/internal/util/Preconditions" ∈ tw_Ts := tw_in.ok (h := (1, 17)) (by decide +kernel)
theorem tx_wP3 : Jvm.Cond.static tx_nP ∈ tw_Ts := tw_in.ok (h := (3, 116)) (by decide +kernel)
theorem tx_wP4 : Jvm.Cond.methodLink "java/lang/String" 1059 tx_nP ∈ tw_Ts := tw_in.ok (h := (3, 115)) (by decide +kernel)
theorem tx_wC1 : Jvm.Cond.code tx_nC prog_17_method_155_code 2 none ∈ tw_Ts := tw_in2 (h := (3, 112)) rfl rfl
theorem tx_wC2 : Jvm.Cond.initialized "java/lang/String" ∈ tw_Ts := tw_in.ok (h := (1, 15)) (by decide +kernel)
theorem tx_wC3 : Jvm.Cond.static tx_nC ∈ tw_Ts := tw_in.ok (h := (3, 111)) (by decide +kernel)
theorem tx_wC4 : Jvm.Cond.methodLink "java/lang/StringLatin1" 9 tx_nC ∈ tw_Ts := tw_in.ok (h := (3, 110)) (by decide +kernel)
theorem tx_wF : Jvm.Cond.fieldLink "java/lang/String" 1053 "jdk/internal/util/Preconditions" "SIOOBE_FORMATTER" "Ljava/util/function/BiFunction;" ∈ tw_Ts := tw_in.ok (h := (3, 113)) (by decide +kernel)
theorem tx_callS {p : Program} {e : Env} {R : Room} {s : State} {m : MethodId} {args : Array Value} {below : List Frame} {meth : Method} {c : Code} {H : Heap} {locs : List Loc} {cells slots pc : Nat} {ls : Array Slot} {rest : List Value} {y : MethodName} {cc' cc : ByteArray} {maxL nL index : Nat} {ret : Option FieldType} {rm : Room} {Pc : Array Value → State → Prop} {Qc : Array Value → State → Outcome → State → Prop} {own : String} {As : List Value}
    (hx : p.tables.exec = Jvm.exec) (hb : c.code = cc) (hml : c.maxLocals = nL) (hown : s.vm.findClass own = some m.cls) (hts : ∀ w ∈ tw_Ts, w.before args s = true) (hM : Met l y (Cond.code y cc' maxL ret :: tw_Ts) rm Pc Qc 0 0 A) (hcode : Cond.code y cc' maxL ret ∈ tw_Ts) (hini : Cond.initialized y.cls ∈ tw_Ts) (hstt : Cond.static y ∈ tw_Ts) (hlk : Cond.methodLink own index y ∈ tw_Ts)
    (hd : y.cls ≠ "java/lang/invoke/MethodHandle" ∧ y.cls ≠ "java/lang/invoke/VarHandle" ∧ (parseMethodDescriptor y.desc).map (fun d => d.parameters.length) = some As.length) (hR : rm.frames + 1 ≤ R.frames ∧ 8 + (maxL + 11) + rm.locals ≤ R.locals) (hrc : rm.cells = 0) (hrs : rm.slots = 0) (hbl : FrameBlind Pc) (hpre : ∀ Us : State, Us.heap = H → s.WarmedH Us.vm → Pc As.toArray Us) (hls : ls.size = nL) (hrest : (rest.map fun v => v.category).sum ≤ 8) (hdg : decode cc pc = .ok (.invokestatic index, 3)) (hcs : cells ≤ R.cells ∧ slots ≤ R.slots) :
    va_Run p l e R s m args below meth c H locs cells slots 0 0 (F0 m pc ls (As.reverse ++ rest)) rest (Qc As.toArray) A := by
  have hGw : GoodIn tw_Ts (Cond.code y cc' maxL ret :: tw_Ts) := fun w hw => by
    rcases List.mem_cons.mp hw with rfl | hw
    · exact tw_Ts_good _ hcode
    · exact tw_Ts_good _ hw
  exact va_runS ⟨hx, hb, hml, hown, hts⟩ hM ⟨callB_of _ hts hGw rfl hrc hrs (hts _ hini) (hts _ hlk) hd hR, hts _ hstt⟩ ⟨hbl, hpre⟩ rfl rfl hls rfl (by show 2 * 0 + _ ≤ 8; omega) hdg ⟨by omega, by omega⟩
theorem tx_lenb : ∀ i : Fin 31, tx_len.getD i 0 ≤ 8 ∧ 1 ≤ tx_len.getD i 0 := by decide
theorem tx_nn {j : Int32} {n : Nat} (h1 : 0 ≤ j.toInt) (h2 : j.toInt < (n : Int)) : j.toNatClampNeg < n := by
  show j.toInt.toNat < n
  omega
theorem tx_ng {j : Int32} (h : 0 ≤ j.toInt) : ¬ j < 0 := fun q => by
  have := Int32.lt_iff_toInt_lt.mp q
  have e0 : (0 : Int32).toInt = 0 := rfl
  omega
set_option maxHeartbeats 4000000 in
theorem tx_ip {i n : Int32} {f : Value} (h1 : 0 ≤ i.toInt) (h2 : i < n) (hf : f = .null ∨ ∃ a, f = .ref a) : Met l tx_nP (Cond.code tx_nP prog_22_method_11_code 3 (some .int) :: tw_Ts) { frames := 0, cells := 0, slots := 0, locals := 0 } (tx_Pp i n f) (tx_Qr i) 0 0 A := by
  refine tk_ofW (cc := prog_22_method_11_code) (maxL := 3) (ret := some .int) rfl rfl ?_
  intro p e s m args below meth c s₁ Bd hml hv
  obtain rfl := hv
  have hx := Bd.exec
  have hb := Bd.bytes
  have hl : lv_has _ 3 (lv_args 0 [Value.int i, Value.int n, f]) := lv_entry [Value.int i, Value.int n, f] (n := 3) (by
    rcases hf with rfl | ⟨a, rfl⟩ <;> exact Nat.le_of_ble_eq_true rfl)
  rw [lg_entry_eq]
  have l0 := hl.2.2 (0, .int i) (by rcases hf with rfl | ⟨a, rfl⟩ <;> exact List.mem_cons_self)
  have l1 := hl.2.2 (1, .int n) (by rcases hf with rfl | ⟨a, rfl⟩ <;> exact List.mem_cons_of_mem _ List.mem_cons_self)
  refine lv_iload_n hx hb (show decode prog_22_method_11_code 0 = .ok (.iload_n 0, 1) by decide +kernel) rfl l0 ?_
  refine lv_if_lt hx hb (tgt := 9) (show decode prog_22_method_11_code 1 = .ok (.ifCond .lt 8, 3) by decide +kernel) rfl (fun q => absurd q (tx_ng h1)) (fun _ => ?_)
  refine lv_iload_n hx hb (show decode prog_22_method_11_code 4 = .ok (.iload_n 0, 1) by decide +kernel) rfl l0 ?_
  refine lv_iload_n hx hb (show decode prog_22_method_11_code 5 = .ok (.iload_n 1, 1) by decide +kernel) rfl l1 ?_
  refine lv_icmp_lt hx hb (tgt := 16) (show decode prog_22_method_11_code 6 = .ok (.if_icmp .lt 10, 3) by decide +kernel) rfl (fun _ => ?_) (fun q => absurd h2 q)
  refine lv_iload_n hx hb (show decode prog_22_method_11_code 16 = .ok (.iload_n 0, 1) by decide +kernel) rfl l0 ?_
  exact W.iret hx hb (Bd.returns.trans rfl) (fun t ht _ => ⟨rfl, by rw [ht]⟩) (fun q hq => absurd hq List.not_mem_nil) (show decode prog_22_method_11_code 17 = .ok (.ireturn, 1) by decide +kernel) Bd.notSynchronized
set_option maxHeartbeats 4000000 in
theorem tx_ic {i n : Int32} (h1 : 0 ≤ i.toInt) (h2 : i < n) {H : Heap} : Met l tx_nC (Cond.code tx_nC prog_17_method_155_code 2 none :: tw_Ts) { frames := 1, cells := 0, slots := 0, locals := 22 } (tx_Pq A i n H) tx_Qv 0 0 A := by
  refine tk_ofW (cc := prog_17_method_155_code) (maxL := 2) (ret := none) rfl rfl ?_
  intro p e s m args below meth c s₁ Bd hml hv
  obtain ⟨rfl, hH, hZq⟩ := hv
  subst hH
  have hx := Bd.exec
  have hb := Bd.bytes
  have hts : ∀ w ∈ tw_Ts, w.before [Value.int i, Value.int n].toArray s = true := fun w hw => atoms_spec (ws := Cond.code tx_nC prog_17_method_155_code 2 none :: tw_Ts) Bd.pre w (List.mem_cons_of_mem _ hw)
  have hown : s.vm.findClass "java/lang/String" = some m.cls := findClass_of_methodNamed Bd.named
  have hl := lv_entry [Value.int i, Value.int n] (n := 2) (Nat.le_of_ble_eq_true rfl)
  rw [lg_entry_eq]
  generalize ((lg_sl [Value.int i, Value.int n] ++ List.replicate (2 - (lg_sl [Value.int i, Value.int n]).length) Slot.unset).toArray) = ls at hl ⊢
  have l0 := hl.2.2 (0, .int i) List.mem_cons_self
  have l1 := hl.2.2 (1, .int n) (List.mem_cons_of_mem _ List.mem_cons_self)
  have key : ∀ f : Value, va_Z "jdk/internal/util/Preconditions" "SIOOBE_FORMATTER" "Ljava/util/function/BiFunction;" f A s s.heap → (f = .null ∨ ∃ a, f = .ref a) → W p l e _ s m [Value.int i, Value.int n].toArray below meth c s.heap [] 0 0 (MQ below tx_Qv [Value.int i, Value.int n].toArray s 0 0 A) (F0 m 0 ls []) := fun f hZ hf => by
    refine lv_iload_n hx hb (show decode prog_17_method_155_code 0 = .ok (.iload_n 0, 1) by decide +kernel) rfl l0 ?_
    refine lv_iload_n hx hb (show decode prog_17_method_155_code 1 = .ok (.iload_n 1, 1) by decide +kernel) rfl l1 ?_
    refine va_gets hx hb hZ va_S.rf hown (hts _ tx_wF) (fun _ h => h) (show decode prog_17_method_155_code 2 = .ok (.getstatic 1053, 3) by decide +kernel) ?_
    have hrun := tx_callS (l := l) (e := e) (below := below) (R := { frames := 1, cells := 0, slots := 0, locals := 22 }) (H := s.heap) (locs := []) (cells := 0) (slots := 0) (meth := meth) (As := [Value.int i, Value.int n, f]) (rest := []) (nL := 2) hx hb hml hown hts (tx_ip (l := l) (A := A) (f := f) h1 h2 hf) tx_wP1 tx_wP2 tx_wP3 tx_wP4 ⟨by decide, by decide, rfl⟩ ⟨by decide, by decide⟩ rfl rfl (fun a U g mk q => q) (fun Us _ _ => rfl) hl.1 (by decide) (show decode prog_17_method_155_code 5 = .ok (.invokestatic 1059, 3) by decide +kernel) ⟨by decide, by decide⟩
    intro TT hTT XX
    obtain ⟨v9, st₀, t, T', L', g0, X', hL', e1, e2, ⟨y1, y2⟩, stp⟩ := hrun TT hTT XX
    cases y1
    have hfin : W p l e { frames := 1, cells := 0, slots := 0, locals := 22 } s m [Value.int i, Value.int n].toArray below meth c s.heap ([] ++ L') 0 0 (MQ below tx_Qv [Value.int i, Value.int n].toArray s 0 0 A) (F0 m 8 ls [.int i]) := by
      refine lv_pop hx hb (show decode prog_17_method_155_code 8 = .ok (.pop, 1) by decide +kernel) rfl ?_
      exact W.vret hx hb (Bd.returns.trans rfl) (fun t ht _ => ⟨rfl, by rw [ht]⟩) (fun q hq => hL' q (by simpa using hq)) (show decode prog_17_method_155_code 9 = .ok (.return_, 1) by decide +kernel) Bd.notSynchronized
    obtain ⟨t2, a1, b1⟩ := hfin T' (by rw [e1, y2, g0]) X'
    exact ⟨t2, stp t2 a1, b1⟩
  rcases hZq with hZ | ⟨t, hZ⟩
  · exact key _ hZ (Or.inl rfl)
  · exact key _ hZ (Or.inr ⟨t, rfl⟩)
set_option maxHeartbeats 4000000 in
theorem tx_l1 {i : Nat} (hi : i < 31) {j : Int32} {av : Nat} (hj : 0 ≤ j.toInt) (hj2 : j.toInt < ((tx_len.getD i 0 : Nat) : Int)) {H : Heap} : Met l (tw_U.2.1 5) (tk_ws_ tt_T tw_U tw_Ts 5) (tk_rm tt_T 5) (tx_Pl A i av j H) tx_Ql 0 0 A := by
  have hM := tw_mv (y := 5) (by decide) (by decide)
  refine tk_ofW (cc := tw_U.2.2.1 5) (maxL := 2) (ret := tw_U.2.2.2 5) hM.2.2.1 rfl ?_
  intro p e s m args below meth c s₁ Bd hml hv
  obtain ⟨rfl, hH, hT, hZq⟩ := hv
  subst hH
  have hl := lv_entry [Value.ref av, Value.int j] (n := 2) (Nat.le_of_ble_eq_true rfl)
  have hx := Bd.exec
  have hb := Bd.bytes
  have hts : ∀ w ∈ tw_Ts, w.before [Value.ref av, Value.int j].toArray s = true := fun w hw => atoms_spec (ws := tk_ws_ tt_T tw_U tw_Ts 5) Bd.pre w (List.mem_cons_of_mem _ hw)
  have hown : s.vm.findClass "java/lang/StringLatin1" = some m.cls := findClass_of_methodNamed Bd.named
  have hlb := tx_lenb ⟨i, hi⟩
  dsimp only at hlb
  rw [lg_entry_eq]
  generalize ((lg_sl [Value.ref av, Value.int j] ++ List.replicate (2 - (lg_sl [Value.ref av, Value.int j]).length) Slot.unset).toArray) = ls at hl ⊢
  have l0 := hl.2.2 (0, .ref av) List.mem_cons_self
  have l1 := hl.2.2 (1, .int j) (List.mem_cons_of_mem _ List.mem_cons_self)
  have hneg := tx_ng hj
  refine lv_iload_n hx hb (tw_V.1 5 0 _ _ (rfl : tt_cd 5 0 = some (.iload_n 1, 1))) rfl l1 ?_
  refine lv_aload_n hx hb (tw_V.1 5 1 _ _ (rfl : tt_cd 5 1 = some (.aload_n 0, 1))) rfl l0 ?_
  refine va_tlen hx hb hT va_S.rf rfl (tw_V.1 5 2 _ _ (rfl : tt_cd 5 2 = some (.arraylength, 1))) ?_
  have hlt : j < Int32.ofNat (tx_len.getD i 0) := Int32.lt_iff_toInt_lt.mpr (by
    have e0 : (Int32.ofNat (tx_len.getD i 0)).toInt = ((tx_len.getD i 0 : Nat) : Int) := nI_toInt (by omega)
    omega)
  have hrun := tx_callS (l := l) (e := e) (below := below) (R := tk_rm tt_T 5) (H := s.heap) (locs := []) (cells := 0) (slots := 0) (meth := meth) (As := [Value.int j, Value.int (Int32.ofNat (tx_len.getD i 0))]) (rest := []) (nL := 2) hx hb hml hown hts (tx_ic (l := l) (A := A) hj hlt (H := s.heap)) tx_wC1 tx_wC2 tx_wC3 tx_wC4 ⟨by decide, by decide, rfl⟩ ⟨by decide, by decide⟩ rfl rfl (fun a U g mk q => ⟨q.1, q.2.1, va_Zq.moved (kc_alike_eq rfl) q.2.2⟩) (fun Us h1 h2 => ⟨rfl, h1, va_Zq.moved h2.alike hZq⟩) hl.1 (by decide) (tw_V.1 5 3 _ _ (rfl : tt_cd 5 3 = some (.invokestatic 9, 3))) ⟨Nat.zero_le _, Nat.zero_le _⟩
  intro TT hTT XX
  obtain ⟨v9, st₀, t, T', L', g0, X', hL', e1, e2, ⟨y1, y2⟩, stp⟩ := hrun TT hTT XX
  cases y1
  have hS1 : va_S A s.heap s.heap ([] ++ L') := ⟨Nat.le_refl _, fun _ _ _ => rfl, fun q hq => hL' q (by simpa using hq)⟩
  obtain ⟨f1, f2⟩ := tx_c16 (((tx_byt.getD i []).getD j.toNatClampNeg 0) &&& (Int16.ofInt 255).toInt32)
  have hfin : W p l e (tk_rm tt_T 5) s m [Value.ref av, Value.int j].toArray below meth c s.heap ([] ++ L') 0 0 (MQ below tx_Ql [Value.ref av, Value.int j].toArray s 0 0 A) (F0 m 6 ls []) := by
    refine lv_aload_n hx hb (tw_V.1 5 6 _ _ (rfl : tt_cd 5 6 = some (.aload_n 0, 1))) rfl l0 ?_
    refine lv_iload_n hx hb (tw_V.1 5 7 _ _ (rfl : tt_cd 5 7 = some (.iload_n 1, 1))) rfl l1 ?_
    refine va_tb hx hb hT hS1 (i := j) (fun q => by
      rcases q with q | q
      · exact hneg q
      · have := tx_nn hj hj2
        omega) rfl (tw_V.1 5 8 _ _ (rfl : tt_cd 5 8 = some (.baload, 1))) ?_
    refine lv_sipush hx hb (tw_V.1 5 9 _ _ (rfl : tt_cd 5 9 = some (.sipush 255, 3))) rfl ?_
    refine lv_iand hx hb (tw_V.1 5 12 _ _ (rfl : tt_cd 5 12 = some (.iand, 1))) ?_
    refine lv_i2c hx hb (tw_V.1 5 13 _ _ (rfl : tt_cd 5 13 = some (.i2c, 1))) rfl ?_
    exact W.zret hx hb (Bd.returns.trans rfl) (tk_nzc f1 f2) (fun t ht _ => ⟨_, rfl, by rw [ht], f1, f2⟩) hS1.2.2 (tw_V.1 5 14 _ _ (rfl : tt_cd 5 14 = some (.ireturn, 1))) Bd.notSynchronized
  obtain ⟨t2, a1, b1⟩ := hfin T' (by rw [e1, y2, g0]) X'
  exact ⟨t2, stp t2 a1, b1⟩
theorem tx_shr0 : ∀ i : Fin 31, ((Int32.ofNat (tx_len.getD i 0)) >>> ((0 : Int32) &&& 31)).toInt = ((tx_len.getD i 0 : Nat) : Int) := by decide
set_option maxHeartbeats 4000000 in
theorem tx_le {i : Nat} (hi : i < 31) (hcal : tk_cal tt_T tt_sc tt_nt 4 (.invokevirtual 335, 3).1 3 ([(0, 0, 0, 0, 0, 0)], [(6, 0, (i : Int))], [(6, 0, (i : Int)), (1, 0, ((tx_len.getD i 0 : Nat) : Int))], [], 0, 0) = some (2, [(6, 0, (i : Int))], [(1, 0, ((tx_len.getD i 0 : Nat) : Int))])) : tx_Con l D A (4, [], [(6, 0, (i : Int))], [], [([], [], [(1, 0, ((tx_len.getD i 0 : Nat) : Int))], [], (0, 0), true)], []) := by
  refine tl_hand (pcR := 10) tw_V (tw_mv (y := 4) (by decide) (by decide)) (show (4 : Nat) ≠ 0 by decide) (Nat.le_of_ble_eq_true rfl) rfl ⟨.ireturn, 1, rfl, rfl⟩ ?_
  intro ρ B ws H p e s m args below meth c Q hX hH hJ
  intro ρ1 B1 ws1 tys H1 locs ls lv st hk hg
  obtain ⟨hE, h0, hL, hl, hst, hMm, hK, hPw, hD, hS, hC, hFr, hLe, hBl⟩ := id hk
  obtain ⟨hlt, v, hmem, hv⟩ := hL 0 (6, 0, (i : Int)) rfl (show (6 : Nat) ≠ 0 by decide)
  have hv : v = .ref (B1.2.1 (ρ1 0 + (i : Int)).toNat) := hv
  rw [h0.2, hLe.2.1, show ((0 : Int) + (i : Int)).toNat = i by omega] at hv
  subst hv
  cases st with
  | cons _ _ => exact absurd hst id
  | nil =>
    have hl0 := hl.2.2 (0, _) hmem
    have hx := hX.1
    have hb := hX.2.1
    have hown := hX.2.2.2.1
    have hts := hX.2.2.2.2.1
    obtain ⟨-, -, adV, pw, hV, -⟩ := hX.2.2.2.2.2.1
    subst hH
    refine lv_aload_n hx hb (tw_V.1 4 0 _ _ (rfl : tt_cd 4 0 = some (.aload_n 0, 1))) rfl hl0 ?_
    refine vk_getf hx hb (hV.1 i hi).2.2.1 hS hown (hts _ tx_wV) (fun _ h => h) (tw_V.1 4 1 _ _ (rfl : tt_cd 4 1 = some (.getfield 9, 3))) ?_
    refine va_tlen hx hb (hV.1 i hi).2.2.2 hS rfl (tw_V.1 4 4 _ _ (rfl : tt_cd 4 4 = some (.arraylength, 1))) ?_
    refine lv_aload_n hx hb (tw_V.1 4 5 _ _ (rfl : tt_cd 4 5 = some (.aload_n 0, 1))) rfl hl0 ?_
    have hlb := tx_lenb ⟨i, hi⟩
    dsimp only at hlb
    have hk5 := tl_pushv (a := (1, 0, ((tx_len.getD i 0 : Nat) : Int))) (v := .int (Int32.ofNat (tx_len.getD i 0))) hk h0.1 ⟨_, rfl, by
      dsimp only
      rw [h0.2, Int.zero_add]
      exact nI_toInt (by omega)⟩
    have hk6 := tl_pushv (a := (6, 0, (i : Int))) (v := .ref (B.2.1 i)) hk5 h0.1 (by
      show Value.ref _ = Value.ref (B1.2.1 (ρ1 0 + (i : Int)).toNat)
      rw [h0.2, hLe.2.1, show ((0 : Int) + (i : Int)).toNat = i by omega])
    refine tk_cal.ok (y := 4) (pc := 6) (y' := 2) (as := [(6, 0, (i : Int))]) (K' := [(1, 0, ((tx_len.getD i 0 : Nat) : Int))]) (sc := tt_sc) (nt := tt_nt) tw_V tw_LV tw_Ts_good (tx_Sc A) (fun s H ad h k hk => tx_Tx h k hk) hX (rfl : tt_cd 4 6 = some (.invokevirtual 335, 3)) hcal hk6 (fun vs rest q1 q2 c6 c2 hy0 hM => ?_)
    obtain ⟨v2, vs2, rfl, -, hv2, q3⟩ := tk_stk.uncons q1
    have hv2 : v2 = .ref (B1.2.1 (ρ1 0 + (i : Int)).toNat) := hv2
    rw [h0.2, show ((0 : Int) + (i : Int)).toNat = i by omega] at hv2
    subst hv2
    cases vs2 with
    | cons _ _ => exact absurd q3 id
    | nil =>
      obtain ⟨v3, st3, rfl, -, ⟨x3, rfl, e3⟩, q4⟩ := tk_stk.uncons q2
      cases st3 with
      | cons _ _ => exact absurd q4 id
      | nil =>
        have e3 : x3.toInt = ρ1 0 + ((tx_len.getD i 0 : Nat) : Int) := e3
        have e4 : x3 = Int32.ofNat (tx_len.getD i 0) := Int32.toInt_inj.mp (by
          rw [e3, h0.2, Int.zero_add]
          exact (nI_toInt (by omega)).symm)
        subst e4
        refine ⟨tx_Qr 0, tx_co hi, fun X hr => ?_⟩
        refine tx_after hr (fun L1 hL1 => ?_)
        refine lv_ishr hx hb (tw_V.1 4 9 _ _ (rfl : tt_cd 4 9 = some (.ishr, 1))) ?_
        exact hJ _ B1 ws1 tys H1 (locs ++ L1) ls lv _ (tl_pushv (a := (1, 0, ((tx_len.getD i 0 : Nat) : Int))) (tl_locs hk hL1) h0.1 ⟨_, rfl, by
          dsimp only
          rw [h0.2, Int.zero_add]
          exact tx_shr0 ⟨i, hi⟩⟩) hg
theorem tu_c37 : tx_Con l D A tu_k37 := tx_le (i := 0) (by decide) rfl
theorem tu_c38 : tx_Con l D A tu_k38 := tx_le (i := 1) (by decide) rfl
theorem tu_c39 : tx_Con l D A tu_k39 := tx_le (i := 10) (by decide) rfl
theorem tu_c40 : tx_Con l D A tu_k40 := tx_le (i := 11) (by decide) rfl
theorem tu_c41 : tx_Con l D A tu_k41 := tx_le (i := 12) (by decide) rfl
theorem tu_c42 : tx_Con l D A tu_k42 := tx_le (i := 13) (by decide) rfl
theorem tu_c43 : tx_Con l D A tu_k43 := tx_le (i := 14) (by decide) rfl
theorem tu_c44 : tx_Con l D A tu_k44 := tx_le (i := 15) (by decide) rfl
theorem tu_c45 : tx_Con l D A tu_k45 := tx_le (i := 16) (by decide) rfl
theorem tu_c46 : tx_Con l D A tu_k46 := tx_le (i := 17) (by decide) rfl
theorem tu_c47 : tx_Con l D A tu_k47 := tx_le (i := 18) (by decide) rfl
theorem tu_c48 : tx_Con l D A tu_k48 := tx_le (i := 19) (by decide) rfl
theorem tu_c49 : tx_Con l D A tu_k49 := tx_le (i := 2) (by decide) rfl
theorem tu_c50 : tx_Con l D A tu_k50 := tx_le (i := 20) (by decide) rfl
theorem tu_c51 : tx_Con l D A tu_k51 := tx_le (i := 21) (by decide) rfl
theorem tu_c52 : tx_Con l D A tu_k52 := tx_le (i := 22) (by decide) rfl
theorem tu_c53 : tx_Con l D A tu_k53 := tx_le (i := 23) (by decide) rfl
theorem tu_c54 : tx_Con l D A tu_k54 := tx_le (i := 24) (by decide) rfl
theorem tu_c55 : tx_Con l D A tu_k55 := tx_le (i := 25) (by decide) rfl
theorem tu_c56 : tx_Con l D A tu_k56 := tx_le (i := 26) (by decide) rfl
theorem tu_c57 : tx_Con l D A tu_k57 := tx_le (i := 27) (by decide) rfl
theorem tu_c58 : tx_Con l D A tu_k58 := tx_le (i := 28) (by decide) rfl
theorem tu_c59 : tx_Con l D A tu_k59 := tx_le (i := 29) (by decide) rfl
theorem tu_c60 : tx_Con l D A tu_k60 := tx_le (i := 3) (by decide) rfl
theorem tu_c61 : tx_Con l D A tu_k61 := tx_le (i := 30) (by decide) rfl
theorem tu_c62 : tx_Con l D A tu_k62 := tx_le (i := 4) (by decide) rfl
theorem tu_c63 : tx_Con l D A tu_k63 := tx_le (i := 5) (by decide) rfl
theorem tu_c64 : tx_Con l D A tu_k64 := tx_le (i := 6) (by decide) rfl
theorem tu_c65 : tx_Con l D A tu_k65 := tx_le (i := 7) (by decide) rfl
theorem tu_c66 : tx_Con l D A tu_k66 := tx_le (i := 8) (by decide) rfl
theorem tu_c67 : tx_Con l D A tu_k67 := tx_le (i := 9) (by decide) rfl
theorem tx_lkC : tt_lk 16 495 = some (1, 5) := by decide +kernel
set_option maxHeartbeats 8000000 in
theorem tx_ch {i : Nat} (hi : i < 31) (hcal : tk_cal tt_T tt_sc tt_nt 1 (.invokevirtual 492, 3).1 3 ([(0, 0, 0, 0, 0, 0), (0, ((tx_len.getD i 0 : Nat) : Int) - 1, 0, 0, 0, 0)], [(6, 0, (i : Int)), (1, 1, 0)], [(6, 0, (i : Int))], [], 0, 0) = some (3, [(6, 0, (i : Int))], [])) : tx_Con l D A (1, [(0, ((tx_len.getD i 0 : Nat) : Int) - 1, 0, 0, 0, 0)], [(6, 0, (i : Int)), (1, 1, 0)], [], [([(0, 65535, 0, 0, 0, 0)], [], [(1, 2, 0)], [], (0, 0), true)], []) := by
  refine tl_hand (pcR := 15) tw_V (tw_mv (y := 1) (by decide) (by decide)) (show (1 : Nat) ≠ 0 by decide) (Nat.le_of_ble_eq_true rfl) rfl ⟨.ireturn, 1, rfl, rfl⟩ ?_
  intro ρ B ws H p e s m args below meth c Q hX hH hJ
  intro ρ1 B1 ws1 tys H1 locs ls lv st hk hg
  obtain ⟨hE, h0, hL, hl, hst, hMm, hK, hPw, hD, hS, hC, hFr, hLe, hBl⟩ := id hk
  obtain ⟨hlt, v, hmem, hv⟩ := hL 0 (6, 0, (i : Int)) rfl (show (6 : Nat) ≠ 0 by decide)
  have hv : v = .ref (B1.2.1 (ρ1 0 + (i : Int)).toNat) := hv
  rw [h0.2, hLe.2.1, show ((0 : Int) + (i : Int)).toNat = i by omega] at hv
  subst hv
  obtain ⟨hlt1, v1, hmem1, j, rfl, hjv⟩ := hL 1 (1, 1, 0) rfl (by decide)
  have hjv : j.toInt = ρ1 1 + 0 := hjv
  have hr1 : 0 ≤ ρ1 1 := (hE 1).1
  have hr2 : ρ1 1 ≤ ((tx_len.getD i 0 : Nat) : Int) - 1 := (hE 1).2.1
  cases st with
  | cons _ _ => exact absurd hst id
  | nil =>
    have hl0 := hl.2.2 (0, _) hmem
    have hl1 := hl.2.2 (1, _) hmem1
    have hx := hX.1
    have hb := hX.2.1
    have hml := hX.2.2.1
    have hown := hX.2.2.2.1
    have hts := hX.2.2.2.2.1
    obtain ⟨-, -, adV, pw, hV, -, -, -, hZq, -⟩ := hX.2.2.2.2.2.1
    subst hH
    refine lv_aload_n hx hb (tw_V.1 1 0 _ _ (rfl : tt_cd 1 0 = some (.aload_n 0, 1))) rfl hl0 ?_
    have hk1 := tl_pushv (a := (6, 0, (i : Int))) (v := .ref (B.2.1 i)) hk h0.1 (by
      show Value.ref _ = Value.ref (B1.2.1 (ρ1 0 + (i : Int)).toNat)
      rw [h0.2, hLe.2.1, show ((0 : Int) + (i : Int)).toNat = i by omega])
    refine tk_cal.ok (y := 1) (pc := 1) (y' := 3) (as := [(6, 0, (i : Int))]) (K' := []) (sc := tt_sc) (nt := tt_nt) tw_V tw_LV tw_Ts_good (tx_Sc A) (fun s H ad h k hk => tx_Tx h k hk) hX (rfl : tt_cd 1 1 = some (.invokevirtual 492, 3)) hcal hk1 (fun vs rest q1 q2 c6 c2 hy0 hM => ?_)
    obtain ⟨v2, vs2, rfl, -, hv2, q3⟩ := tk_stk.uncons q1
    have hv2 : v2 = .ref (B1.2.1 (ρ1 0 + (i : Int)).toNat) := hv2
    rw [h0.2, show ((0 : Int) + (i : Int)).toNat = i by omega] at hv2
    subst hv2
    cases vs2 with
    | cons _ _ => exact absurd q3 id
    | nil =>
      cases rest with
      | cons _ _ => exact absurd q2 id
      | nil =>
        refine ⟨tx_Qr 1, tx_la hi, fun X hr => ?_⟩
        refine tx_after hr (fun L1 hL1 => ?_)
        refine lv_if_eq hx hb (tgt := 16) (tw_V.1 1 4 _ _ (rfl : tt_cd 1 4 = some (.ifCond .eq 12, 3))) rfl (fun q => absurd q (by decide)) (fun _ => ?_)
        have hS1 : va_S A s.heap H1 (locs ++ L1) := ⟨hS.1, hS.2.1, fun q hq => by
          rcases List.mem_append.mp hq with y1 | y1
          · exact hS.2.2 q y1
          · exact hL1 q y1⟩
        refine lv_aload_n hx hb (tw_V.1 1 7 _ _ (rfl : tt_cd 1 7 = some (.aload_n 0, 1))) rfl hl0 ?_
        refine vk_getf hx hb (hV.1 i hi).2.2.1 hS1 hown (hts _ tx_wV) (fun _ h => h) (tw_V.1 1 8 _ _ (rfl : tt_cd 1 8 = some (.getfield 9, 3))) ?_
        refine lv_iload_n hx hb (tw_V.1 1 11 _ _ (rfl : tt_cd 1 11 = some (.iload_n 1, 1))) rfl hl1 ?_
        obtain ⟨-, w5⟩ := tw_LV 16 495 1 5 tx_lkC
        obtain ⟨hM5, b1, -, -, b4⟩ := w5 (Or.inr (Or.inl rfl))
        obtain ⟨s1, s3⟩ := b4 (Or.inl rfl)
        have hGw : GoodIn tw_Ts (tk_ws_ tt_T tw_U tw_Ts 5) := fun w hw => by
          rcases List.mem_cons.mp hw with rfl | hw
          · exact tw_Ts_good _ hM5.1
          · exact tw_Ts_good _ hw
        have hT5 := (hV.1 i hi).2.2.2
        have hrun := va_runS (l := l) (e := e) (below := below) (R := tk_rm tt_T 1) (H := H1) (locs := locs ++ L1) (cells := 0) (slots := 0) (g := F0 m 12 ls [.int j, .ref (adV i)]) (rest := []) (As := [.ref (adV i), .int j]) (nL := (tk_Tmi tt_T 1).1) (Ts := tw_Ts) (own := tw_U.1 16) (index := 495) (n := 2) (meth := meth) ⟨hx, hb, hml, hown, hts⟩ (tx_l1 (A := A) (av := adV i) hi (j := j) (by omega) (by omega) (H := H1)) ⟨callB_of _ hts hGw rfl rfl rfl (hts _ hM5.2.1) (hts _ (b1 (Or.inr rfl))) ⟨hM5.2.2.2.1.1, hM5.2.2.2.1.2, s3⟩ ⟨by decide, by decide⟩, hts _ s1⟩ ⟨fun a U g mk q => ⟨q.1, q.2.1, va_T.moved (kc_alike_eq rfl) q.2.2.1, va_Zq.moved (kc_alike_eq rfl) q.2.2.2⟩, fun Us h1 h2 => ⟨rfl, h1, (va_T.moved h2.alike hT5).kept hS1.2.1, (va_Zq.moved h2.alike hZq).kept hS1.2.1⟩⟩ rfl rfl hl.1 rfl (show 2 * 0 + 0 ≤ 8 by decide) (tw_V.1 1 12 _ _ (rfl : tt_cd 1 12 = some (.invokestatic 495, 3))) ⟨by decide, by decide⟩
        intro TT hTT XX
        obtain ⟨v9, st₀, t, T', L', g0, X', hL', e1, e2, ⟨r, y1, y2, y3, y4⟩, stp⟩ := hrun TT hTT XX
        cases y1
        have hk9 := tl_push (t := 1) (lo := 0) (hi := 65535) (v := .int r) (tl_locs (tl_locs hk hL1) hL') y3 y4 ⟨_, rfl, rfl⟩
        obtain ⟨t2, a1, b1⟩ := hJ _ B1 ws1 tys H1 _ ls lv _ hk9 (hg.ext (fun k hk => va_up_ne _ _ (Nat.ne_of_lt hk)) (by simp)) T' (by rw [e1, y2, g0]) X'
        exact ⟨t2, stp t2 a1, b1⟩
theorem tu_c0 : tx_Con l D A tu_k0 := tx_ch (i := 1) (by decide) rfl
theorem tu_c1 : tx_Con l D A tu_k1 := tx_ch (i := 20) (by decide) rfl
theorem tu_c2 : tx_Con l D A tu_k2 := tx_ch (i := 28) (by decide) rfl
theorem tu_c3 : tx_Con l D A tu_k3 := tx_ch (i := 0) (by decide) rfl
theorem tu_c4 : tx_Con l D A tu_k4 := tx_ch (i := 19) (by decide) rfl
theorem tu_c5 : tx_Con l D A tu_k5 := tx_ch (i := 30) (by decide) rfl
theorem tu_c6 : tx_Con l D A tu_k6 := tx_ch (i := 12) (by decide) rfl
theorem tu_c7 : tx_Con l D A tu_k7 := tx_ch (i := 13) (by decide) rfl
theorem tu_c8 : tx_Con l D A tu_k8 := tx_ch (i := 16) (by decide) rfl
theorem tu_c9 : tx_Con l D A tu_k9 := tx_ch (i := 21) (by decide) rfl
theorem tu_c10 : tx_Con l D A tu_k10 := tx_ch (i := 29) (by decide) rfl
theorem tu_c11 : tx_Con l D A tu_k11 := tx_ch (i := 10) (by decide) rfl
theorem tu_c12 : tx_Con l D A tu_k12 := tx_ch (i := 11) (by decide) rfl
theorem tu_c13 : tx_Con l D A tu_k13 := tx_ch (i := 14) (by decide) rfl
theorem tu_c14 : tx_Con l D A tu_k14 := tx_ch (i := 18) (by decide) rfl
theorem tu_c15 : tx_Con l D A tu_k15 := tx_ch (i := 22) (by decide) rfl
theorem tu_c16 : tx_Con l D A tu_k16 := tx_ch (i := 24) (by decide) rfl
theorem tu_c17 : tx_Con l D A tu_k17 := tx_ch (i := 25) (by decide) rfl
theorem tu_c18 : tx_Con l D A tu_k18 := tx_ch (i := 3) (by decide) rfl
theorem tu_c19 : tx_Con l D A tu_k19 := tx_ch (i := 5) (by decide) rfl
theorem tu_c20 : tx_Con l D A tu_k20 := tx_ch (i := 6) (by decide) rfl
theorem tu_c21 : tx_Con l D A tu_k21 := tx_ch (i := 9) (by decide) rfl
theorem tu_c22 : tx_Con l D A tu_k22 := tx_ch (i := 17) (by decide) rfl
theorem tu_c23 : tx_Con l D A tu_k23 := tx_ch (i := 26) (by decide) rfl
theorem tu_c24 : tx_Con l D A tu_k24 := tx_ch (i := 27) (by decide) rfl
theorem tu_c25 : tx_Con l D A tu_k25 := tx_ch (i := 4) (by decide) rfl
theorem tu_c26 : tx_Con l D A tu_k26 := tx_ch (i := 7) (by decide) rfl
theorem tu_c27 : tx_Con l D A tu_k27 := tx_ch (i := 8) (by decide) rfl
theorem tu_c28 : tx_Con l D A tu_k28 := tx_ch (i := 15) (by decide) rfl
theorem tu_c29 : tx_Con l D A tu_k29 := tx_ch (i := 2) (by decide) rfl
theorem tu_c30 : tx_Con l D A tu_k30 := tx_ch (i := 23) (by decide) rfl
end TS
