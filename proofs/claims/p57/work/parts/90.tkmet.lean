/-- as Met.ofW, for classes of the JDK too -/
theorem tk_ofW {l : Launch} {y : MethodName} {ws ws' : List Cond} {rm : Room} {Pc : Array Value → State → Prop} {Qc : Array Value → State → Outcome → State → Prop} {mc ms : Nat} {free : Addr → Prop} {cc : ByteArray} {maxL : Nat} {ret : Option FieldType}
    (hy : plainFor y = true) (hw : ws = Cond.code y cc maxL ret :: ws')
    (body : ∀ p e s m args below meth c s₁, BodyLoose p l y (headSpec ws rm) cc maxL ret e s m args below meth c s₁ → c.maxLocals = maxL → Pc args s →
      W p l e (headSpec ws rm).room s m args below meth c s.heap [] 0 0 (MQ below Qc args s mc ms free) (entryFrame m args maxL)) : Met l y ws rm Pc Qc mc ms free := by
  refine MetFree.of_bodySF (code := cc) (maxLocals := maxL) (ret := ret) hy ?_ ?_
  · intro args s m h hn
    obtain ⟨meth, c, h1, h2, h3, h4, h5, h6, -, -⟩ := Cond.code_spec hn (atoms_spec (ws := ws) h _ (by rw [hw]; exact List.mem_cons_self))
    exact ⟨meth, c, h1, h2, h3, h4, h5, h6⟩
  · intro p e s m args below meth c s₁ B hml hP _
    have hh0 : s₁.heap = s.heap := by rw [B.state]; rfl
    obtain ⟨t, a1, o, b1, b2, b3⟩ := body p e s m args below meth c s₁ B hml hP s₁ hh0 (Stand.of_body B)
    exact ⟨t, o, a1, b1, b2, ⟨b3.1, b3.2⟩⟩
/-- the tables: instructions, methods, links to methods, fields, constants, texts, a class' fields, a class as a component, what a method answers (0 nothing, 1 an int, 2 a long, 3 a reference, 4 a boolean, 5 a char), kinds, heads, splits, kinds of new arrays -/
abbrev tk_T : Type := (Nat → Nat → Option (Instr × Nat)) × (Nat → kc_M) × (Nat → Nat → Option (Nat × Nat)) × (Nat → Nat → Option (Nat × Nat)) × (Nat → Nat → Option (Nat × Int)) × (Nat → Nat → Option Nat) × (Nat → List (FieldType × Bool)) × (Nat → FieldType) × (Nat → Nat) × (Nat → tk_G) × (Nat → Nat → Bool) × (Nat → Nat → Option Nat) × (Nat → Nat → Option Nat)
def tk_Tcd (T : tk_T) := T.1
def tk_Tmi (T : tk_T) := T.2.1
def tk_Tlk (T : tk_T) := T.2.2.1
def tk_Tfl (T : tk_T) := T.2.2.2.1
def tk_Tkw (T : tk_T) := T.2.2.2.2.1
def tk_Ttx (T : tk_T) := T.2.2.2.2.2.1
def tk_Tfd (T : tk_T) := T.2.2.2.2.2.2.1
def tk_Tcn (T : tk_T) := T.2.2.2.2.2.2.2.1
def tk_Trk (T : tk_T) := T.2.2.2.2.2.2.2.2.1
def tk_TKT (T : tk_T) := T.2.2.2.2.2.2.2.2.2.1
def tk_Thd (T : tk_T) := T.2.2.2.2.2.2.2.2.2.2.1
def tk_Tsp (T : tk_T) := T.2.2.2.2.2.2.2.2.2.2.2.1
def tk_Tnk (T : tk_T) := T.2.2.2.2.2.2.2.2.2.2.2.2
/-- what holds of every state beside the tables' words: nest mates' links, the texts, and what is said of the texts' cells -/
def tk_Dx (NWs : List (String × Nat × MethodName × String)) (TXs : List (String × Nat × String × Nat)) (St : (Nat → Nat) → State → Heap → Prop) (ad : Nat → Nat) (s : State) (H : Heap) : Prop := (∀ q ∈ NWs, va_Nw (.methodLinkNest q.1 q.2.1 q.2.2.1 q.2.2.2) s) ∧ (∀ q ∈ TXs, vk_R q.1 q.2.1 q.2.2.1 (ad q.2.2.2) s) ∧ St ad s H
def tk_Sc (A : Nat → Prop) (St : (Nat → Nat) → State → Heap → Prop) : Prop := (∀ (ad : Nat → Nat) (s U : State) (H : Heap), s.vm.Alike U.vm → St ad s H → St ad U H) ∧ ∀ (ad : Nat → Nat) (s : State) (H H1 : Heap), H.size ≤ H1.size → (∀ q : Nat, q < H.size → ¬ A q → H1[q]? = H[q]?) → St ad s H → St ad s H1
theorem tk_Dx.warm {A : Nat → Prop} {NWs : List (String × Nat × MethodName × String)} {TXs : List (String × Nat × String × Nat)} {St : (Nat → Nat) → State → Heap → Prop} {ad : Nat → Nat} {s U : State} {H : Heap} (hS : tk_Sc A St) (hW : s.WarmedH U.vm) (h : tk_Dx NWs TXs St ad s H) : tk_Dx NWs TXs St ad U H := ⟨fun q hq => (h.1 q hq).warmM hW, fun q hq => (h.2.1 q hq).warm hW, hS.1 _ _ _ _ hW.alike h.2.2⟩
theorem tk_Dx.same {A : Nat → Prop} {NWs : List (String × Nat × MethodName × String)} {TXs : List (String × Nat × String × Nat)} {St : (Nat → Nat) → State → Heap → Prop} {ad : Nat → Nat} {u U : State} {H : Heap} (hS : tk_Sc A St) (hv : u.vm = U.vm) (h : tk_Dx NWs TXs St ad u H) : tk_Dx NWs TXs St ad U H := ⟨fun q hq => (h.1 q hq).same rfl hv, fun q hq => (h.2.1 q hq).same hv.symm, hS.1 _ _ _ _ (kc_alike_eq hv) h.2.2⟩
theorem tk_Dx.kept {A : Nat → Prop} {NWs : List (String × Nat × MethodName × String)} {TXs : List (String × Nat × String × Nat)} {St : (Nat → Nat) → State → Heap → Prop} {ad : Nat → Nat} {s : State} {H H1 : Heap} {locs : List Loc} (hS : tk_Sc A St) (hk : va_S A H H1 locs) (h : tk_Dx NWs TXs St ad s H) : tk_Dx NWs TXs St ad s H1 := ⟨h.1, h.2.1, hS.2 _ _ _ _ hk.1 hk.2.1 h.2.2⟩
/-- the tables say what the class files say -/
def tk_TV (T : tk_T) (U : kc_U) (cl : List vw_C) (Ts : List Jvm.Cond) (TXs : List (String × Nat × String × Nat)) : Prop :=
  (∀ (y pc : Nat) (i : Instr) (n : Nat), tk_Tcd T y pc = some (i, n) → decode (U.2.2.1 y) pc = .ok (i, n)) ∧ kc_CL cl (tk_Tfd T) Ts ∧ (∀ ci : Nat, kc_FL cl (U.1 ci) Ts (tk_Tfl T ci)) ∧ (∀ ci : Nat, kc_KL (U.1 ci) Ts (tk_Tkw T ci)) ∧ (∀ (ci : Nat) (z : vw_C), cl[ci]? = some z → tk_Tcn T ci = .object z.1 ∧ z.1 = U.1 ci) ∧ (∀ ty : FieldType, ty = .int ∨ ty = .byte ∨ ty = .short ∨ ty = .boolean ∨ ty = .long → Jvm.Cond.arrayClass ty ∈ Ts) ∧ (∀ ci ix k : Nat, tk_Ttx T ci ix = some k → ∃ tx, (U.1 ci, ix, tx, k) ∈ TXs)
/-- what the tables say of a method -/
def tk_MV (T : tk_T) (U : kc_U) (Ts : List Jvm.Cond) (y : Nat) : Prop :=
  Cond.code (U.2.1 y) (U.2.2.1 y) (tk_Tmi T y).1 (U.2.2.2 y) ∈ Ts ∧ Cond.initialized (U.2.1 y).cls ∈ Ts ∧ plainFor (U.2.1 y) = true ∧ ((U.2.1 y).cls ≠ "java/lang/invoke/MethodHandle" ∧ (U.2.1 y).cls ≠ "java/lang/invoke/VarHandle") ∧ U.1 (tk_Tmi T y).2.2.2.2.2.2.1 = (U.2.1 y).cls ∧
  (tk_Trk T y = 0 → U.2.2.2 y = none) ∧ (tk_Trk T y = 1 → U.2.2.2 y = some .int) ∧ (tk_Trk T y = 2 → U.2.2.2 y = some .long) ∧ (tk_Trk T y = 3 → ∃ rt, U.2.2.2 y = some rt ∧ ((∃ n, rt = .object n) ∨ ∃ t, rt = .array t)) ∧ (tk_Trk T y = 4 → U.2.2.2 y = some .boolean) ∧ (tk_Trk T y = 5 → U.2.2.2 y = some .char)
/-- the method y runs; its script, if it is the law (y 0) -/
def tk_Cx (T : tk_T) (U : kc_U) (Ts : List Jvm.Cond) (NWs : List (String × Nat × MethodName × String)) (TXs : List (String × Nat × String × Nat)) (St : (Nat → Nat) → State → Heap → Prop) (y : Nat) (p : Program) (R : Room) (s : State) (m : MethodId) (args : Array Value) (meth : Method) (c : Code) (A : Nat → Prop) (H0 : Heap) (B0 : tk_B) (nA : Nat) (ρ0 : Nat → Int) : Prop :=
  p.tables.exec = Jvm.exec ∧ c.code = U.2.2.1 y ∧ c.maxLocals = (tk_Tmi T y).1 ∧ s.vm.findClass (U.1 (tk_Tmi T y).2.2.2.2.2.2.1) = some m.cls ∧ (∀ w ∈ Ts, w.before args s = true) ∧ tk_Dx NWs TXs St B0.2.1 s H0 ∧ (∀ q, H0.size ≤ q → A q) ∧ ((tk_Tmi T y).2.2.1 ≤ R.cells ∧ (tk_Tmi T y).2.2.2.1 ≤ R.slots ∧ (tk_Tmi T y).2.2.2.2.1 ≤ R.frames ∧ (tk_Tmi T y).2.2.2.2.2.1 ≤ R.locals) ∧ B0.2.2.length + (tk_Tmi T y).2.2.1 ≤ 1000000000 ∧ (y = 0 → tk_X s A H0 nA ρ0 B0.1)
/-- a return -/
def tk_rok (rk mc ms : Nat) (i : Instr) (n : Nat) (S : tk_S) : Bool := Nat.beq n 1 && Nat.ble S.2.2.2.2.1 mc && Nat.ble S.2.2.2.2.2 ms && (match i, S.2.2.1 with
  | .ireturn, [(1, a)] => Nat.beq rk 1 || (Nat.beq rk 4 && decide (0 ≤ tk_lo S.1 a ∧ tk_hi S.1 a ≤ 1)) || (Nat.beq rk 5 && decide (0 ≤ tk_lo S.1 a ∧ tk_hi S.1 a ≤ 65535))
  | .lreturn, [(2, _)] => Nat.beq rk 2
  | .areturn, [(t, _)] => Nat.beq rk 3 && Nat.ble 10 t
  | .return_, [] => Nat.beq rk 0
  | _, _ => false)
def tk_Ret (T : tk_T) (y : Nat) (o : Nat × tk_S) : Prop := ∃ (i : Instr) (n : Nat), tk_Tcd T y o.1 = some (i, n) ∧ tk_rok (tk_Trk T y) (tk_Tmi T y).2.2.1 (tk_Tmi T y).2.2.2.1 i n o.2 = true
/-- how a method ends: by one of the executor's ends -/
def tk_Qc (D : va_G) (cl : List vw_C) (A : Nat → Prop) (KT : Nat → tk_G) (F : List (Nat × Nat × Nat)) (mc : Nat) (os : List (Nat × tk_S)) (n : Nat) (ρ : Nat → Int) (B : tk_B) (ws : va_W) : Array Value → State → Outcome → State → Prop := fun _ st oc t => ∃ o ∈ os, ∃ (ρ' : Nat → Int) (B' : tk_B) (ws' : va_W) (tys' : List (ClassId × FieldType)) (v : Option Value), oc = .returned v ∧ tk_stk ρ' B' o.2.1.length o.2.2.2.1 v.toList ∧ tk_env ρ' o.2.1 ∧ (0 < o.2.1.length ∧ ρ' 0 = 0) ∧ tk_ag n ρ o.2.1.length ρ' ∧ tk_mem ρ' B' o.2.1.length ws' o.2.2.2.2.1 ∧ va_K D cl tys' t ∧ va_P D cl ws' t.heap ∧ va_D A ws' ∧ tk_C KT tys' B' ws' ∧ tk_fr F B ws ws' ∧ tk_le B B' ∧ B'.2.2.length ≤ B.2.2.length + mc ∧ va_F A st t
theorem tk_nzc {x : Int32} (h1 : 0 ≤ x.toInt) (h2 : x.toInt ≤ 65535) : narrow .char (.int x) = .int x := by
  obtain ⟨j, hj, e1, e2⟩ := kc_nn h1
  have h3 : (nI j).toInt = (j : Int) := nI_toInt hj
  have hj2 : j ≤ 65535 := by
    rw [e1, h3] at h2
    omega
  have e4 : (nI j).toUInt32.toNat = j := by
    show (Int32.ofNat j).toUInt32.toNat = j
    simp only [Int32.toUInt32_ofNat', UInt32.toNat_ofNat', Nat.reducePow]
    exact Nat.mod_eq_of_lt (by omega)
  rw [e1]
  show Value.int (((nI j).toUInt32 % 65536).toInt32) = Value.int (nI j)
  congr 1
  have e5 : (nI j).toUInt32 % 65536 = (nI j).toUInt32 := by
    apply UInt32.toNat_inj.mp
    rw [UInt32.toNat_mod, e4]
    show j % 65536 = j
    exact Nat.mod_eq_of_lt (by omega)
  rw [e5]
  rfl
section TL
variable {T : tk_T} {U : kc_U} {Ts : List Jvm.Cond} {NWs : List (String × Nat × MethodName × String)} {TXs : List (String × Nat × String × Nat)} {St : (Nat → Nat) → State → Heap → Prop} {y : Nat}
variable {p : Program} {l : Launch} {e : Env} {R : Room} {s : State} {m : MethodId} {args : Array Value} {below : List Frame} {meth : Method} {c : Code} {Q : State → Prop}
variable {D : va_G} {cl : List vw_C} {A : Nat → Prop} {H0 : Heap} {F : List (Nat × Nat × Nat)} {B0 : tk_B} {ws0 : va_W}
variable {nA : Nat} {ρ0 : Nat → Int}
set_option maxHeartbeats 4000000 in
/-- a return, as its method's contract wants it -/
theorem tk_J.ret {o : Nat × tk_S} {os : List (Nat × tk_S)} (hV : tk_TV T U cl Ts TXs) (hM : tk_MV T U Ts y) (hX : tk_Cx T U Ts NWs TXs St y p R s m args meth c A H0 B0 nA ρ0) (hr : meth.sig.returnType = U.2.2.2 y) (hlocks : meth.locks = false) (hH : H0 = s.heap) (ho : o ∈ os) (hR : tk_Ret T y o) :
    tk_J p l e R s m args below meth c (MQ below (tk_Qc D cl A (tk_TKT T) F (tk_Tmi T y).2.2.1 os nA ρ0 B0 ws0) args s (tk_Tmi T y).2.2.1 (tk_Tmi T y).2.2.2.1 A) D cl A H0 (tk_TKT T) F B0 ws0 (tk_Tmi T y).1 nA ρ0 o.1 o.2 := by
  obtain ⟨i, n, hc, hk1⟩ := hR
  have hd := hV.1 _ _ _ _ hc
  obtain ⟨-, -, -, -, -, m0, m1, m2, m3, m4, m5⟩ := hM
  intro ρ B ws tys H locs ls lv st hk hg
  obtain ⟨hE, h0, hL, hl, hst, hMm, hK, hPw, hD, hS, hC, hFr, hLe, hBl⟩ := hk
  unfold tk_rok at hk1
  simp only [Bool.and_eq_true] at hk1
  obtain ⟨⟨⟨k1, k2⟩, k2'⟩, k3⟩ := hk1
  have k1 := tk_bq k1
  subst k1
  have k2 := Nat.le_of_ble_eq_true k2
  have k2' := Nat.le_of_ble_eq_true k2'
  have fin : ∀ v : Option Value, tk_stk ρ B o.2.1.length o.2.2.2.1 v.toList → ∀ t : State, t.heap = H → s.WarmedH t.vm → tk_Qc D cl A (tk_TKT T) F (tk_Tmi T y).2.2.1 os nA ρ0 B0 ws0 args s (.returned v) t := fun v hv t ht hW => ⟨o, ho, ρ, B, ws, tys, v, rfl, hv, hE, h0, hg, hMm, hK.moved hW.alike, by rw [ht]; exact hPw, hD, hC, hFr, hLe, by omega, va_S.F (by rw [← hH]; exact hS) ht⟩
  refine W.widen k2 k2' ?_
  split at k3
  · rename_i a hKK
    rw [hKK] at hst fin
    obtain ⟨v, st', rfl, hlt, ⟨x, rfl, ex⟩, hst'⟩ := tk_stk.uncons hst
    cases st' with
    | cons _ _ => exact absurd hst' id
    | nil =>
      rw [Bool.or_eq_true, Bool.or_eq_true] at k3
      rcases k3 with (k3 | k3) | k3
      · exact W.iret hX.1 hX.2.1 (hr.trans (m1 (tk_bq k3))) (fin (some (.int x)) ⟨hlt, ⟨x, rfl, ex⟩, trivial⟩) hS.2.2 hd hlocks
      · rw [Bool.and_eq_true] at k3
        have hb := of_decide_eq_true k3.2
        have he := hE.at a
        dsimp only at ex
        exact W.zret hX.1 hX.2.1 (hr.trans (m4 (tk_bq k3.1))) (kc_nz01 (by omega) (by omega)) (fin (some (.int x)) ⟨hlt, ⟨x, rfl, ex⟩, trivial⟩) hS.2.2 hd hlocks
      · rw [Bool.and_eq_true] at k3
        have hb := of_decide_eq_true k3.2
        have he := hE.at a
        dsimp only at ex
        exact W.zret hX.1 hX.2.1 (hr.trans (m5 (tk_bq k3.1))) (tk_nzc (by omega) (by omega)) (fin (some (.int x)) ⟨hlt, ⟨x, rfl, ex⟩, trivial⟩) hS.2.2 hd hlocks
  · rename_i hKK
    rw [hKK] at hst fin
    obtain ⟨v, st', rfl, hlt, ⟨x, rfl, ex⟩, hst'⟩ := tk_stk.uncons hst
    cases st' with
    | cons _ _ => exact absurd hst' id
    | nil => exact W.lret hX.1 hX.2.1 (hr.trans (m2 (tk_bq k3))) (fin (some (.long x)) ⟨hlt, ⟨x, rfl, ex⟩, trivial⟩) hS.2.2 hd hlocks
  · rename_i t a hKK
    rw [hKK] at hst fin
    rw [Bool.and_eq_true] at k3
    have ht := Nat.le_of_ble_eq_true k3.2
    obtain ⟨v, st', rfl, hlt, hv, hst'⟩ := tk_stk.uncons hst
    cases st' with
    | cons _ _ => exact absurd hst' id
    | nil =>
      obtain ⟨rt, hrt, hrt2⟩ := m3 (tk_bq k3.1)
      refine W.aret hX.1 hX.2.1 (hr.trans hrt) hrt2 ?_ (fin (some v) ⟨hlt, hv, trivial⟩) hS.2.2 hd hlocks
      rcases (tk_vn.ref ht).mp hv with ⟨rfl, -⟩ | ⟨j, ad, rfl, -⟩
      · exact Or.inl rfl
      · exact Or.inr ⟨_, rfl⟩
  · rename_i hKK
    rw [hKK] at hst fin
    cases st with
    | cons _ _ => exact absurd hst id
    | nil => exact W.vret hX.1 hX.2.1 (hr.trans (m0 (tk_bq k3))) (fin none trivial) hS.2.2 hd hlocks
  · cases k3
end TL
/-- a method's words: its code, and all tables -/
def tk_ws_ (T : tk_T) (U : kc_U) (Ts : List Jvm.Cond) (y : Nat) : List Jvm.Cond := Cond.code (U.2.1 y) (U.2.2.1 y) (tk_Tmi T y).1 (U.2.2.2 y) :: Ts
def tk_rm (T : tk_T) (y : Nat) : Room := { frames := (tk_Tmi T y).2.2.2.2.1, cells := (tk_Tmi T y).2.2.1, slots := (tk_Tmi T y).2.2.2.1, locals := (tk_Tmi T y).2.2.2.2.2.1 }
/-- locals at a method's start -/
def tk_loc0 : List tk_V → List tk_V
  | [] => []
  | a :: as => if Nat.beq a.1 2 = true then a :: (0, 0, 0) :: tk_loc0 as else a :: tk_loc0 as
def tk_lc (n : Nat) (as : List tk_V) : List tk_V := tk_loc0 as ++ List.replicate (n - (tk_loc0 as).length) (0, 0, 0)
theorem tk_loc0.ok {ρ : Nat → Int} {B : tk_B} {n : Nat} : ∀ {as : List tk_V} {vs : List Value} (i : Nat), tk_stk ρ B n as vs → (lg_sl vs).length = (tk_loc0 as).length ∧ ∀ (j : Nat) (a : tk_V), (tk_loc0 as)[j]? = some a → a.1 ≠ 0 → a.2.1 < n ∧ ∃ v : Value, (i + j, v) ∈ lv_args i vs ∧ tk_v ρ B a v
  | [], [], i, _ => ⟨rfl, fun j a h => by simp [tk_loc0] at h⟩
  | (t, b) :: as, v :: vs, i, h => by
    by_cases e : t = 2
    · subst e
      have hc := tk_vn.cat2 h.2.1
      obtain ⟨g1, g2⟩ := tk_loc0.ok (i + 2) h.2.2
      have e1 : tk_loc0 ((2, b) :: as) = (2, b) :: (0, 0, 0) :: tk_loc0 as := rfl
      have e2 : lv_args i (v :: vs) = (i, v) :: lv_args (i + 2) vs := by
        show (i, v) :: lv_args (if v.category = 2 then i + 2 else i + 1) vs = _
        rw [if_pos hc]
      have e3 : lg_sl (v :: vs) = [.val v, .second] ++ lg_sl vs := by
        unfold lg_sl
        rw [List.flatMap_cons, if_pos hc]
      rw [e1, e2, e3]
      refine ⟨by simp [g1], fun j a ha hne => ?_⟩
      match j, ha with
      | 0, ha => cases ha; exact ⟨h.1, v, List.mem_cons_self, h.2.1⟩
      | 1, ha => cases ha; exact absurd rfl hne
      | j + 2, ha =>
        obtain ⟨y1, w, y2, y3⟩ := g2 j a (by simpa using ha) hne
        exact ⟨y1, w, List.mem_cons_of_mem _ (by rw [show i + (j + 2) = i + 2 + j by omega]; exact y2), y3⟩
    · have hc := tk_vn.cat1 h.2.1 e
      obtain ⟨g1, g2⟩ := tk_loc0.ok (i + 1) h.2.2
      have e1 : tk_loc0 ((t, b) :: as) = (t, b) :: tk_loc0 as := by
        show (if Nat.beq t 2 = true then _ else _) = _
        rw [if_neg (fun q => e (tk_bq q))]
      have e2 : lv_args i (v :: vs) = (i, v) :: lv_args (i + 1) vs := by
        show (i, v) :: lv_args (if v.category = 2 then i + 2 else i + 1) vs = _
        rw [if_neg (by rw [hc]; decide)]
      have e3 : lg_sl (v :: vs) = [.val v] ++ lg_sl vs := by
        unfold lg_sl
        rw [List.flatMap_cons, if_neg (by rw [hc]; decide)]
      rw [e1, e2, e3]
      refine ⟨by simp [g1], fun j a ha hne => ?_⟩
      match j, ha with
      | 0, ha => cases ha; exact ⟨h.1, v, List.mem_cons_self, h.2.1⟩
      | j + 1, ha =>
        obtain ⟨y1, w, y2, y3⟩ := g2 j a (by simpa using ha) hne
        exact ⟨y1, w, List.mem_cons_of_mem _ (by rw [show i + (j + 1) = i + 1 + j by omega]; exact y2), y3⟩
  | [], _ :: _, _, h => absurd h id
  | _ :: _, [], _, h => absurd h id
theorem tk_lc.ok {ρ : Nat → Int} {B : tk_B} {n k : Nat} {as : List tk_V} {vs : List Value} (h : tk_stk ρ B n as vs) : tk_loc ρ B n (tk_lc k as) (lv_args 0 vs) := fun i a ha hne => by
  obtain ⟨g1, g2⟩ := tk_loc0.ok 0 h
  unfold tk_lc at ha
  by_cases hi : i < (tk_loc0 as).length
  · rw [List.getElem?_append_left hi] at ha
    have h9 := g2 i a ha hne
    rw [Nat.zero_add] at h9
    exact h9
  · rw [List.getElem?_append_right (by omega), List.getElem?_replicate] at ha
    split at ha
    · cases ha
      exact absurd rfl hne
    · cases ha
/-- a method's contract at one call -/
def tk_Pc (NWs : List (String × Nat × MethodName × String)) (TXs : List (String × Nat × String × Nat)) (St : (Nat → Nat) → State → Heap → Prop) (D : va_G) (cl : List vw_C) (ad : Nat → Nat) (vs : List Value) (H : Heap) (tys : List (ClassId × FieldType)) : Array Value → State → Prop := fun v Us => v = vs.toArray ∧ Us.heap = H ∧ tk_Dx NWs TXs St ad Us H ∧ va_K D cl tys Us
section TM
variable {T : tk_T} {U : kc_U} {Ts : List Jvm.Cond} {NWs : List (String × Nat × MethodName × String)} {TXs : List (String × Nat × String × Nat)} {St : (Nat → Nat) → State → Heap → Prop} {y : Nat}
variable {p : Program} {l : Launch} {e : Env} {R : Room} {s : State} {m : MethodId} {args : Array Value} {below : List Frame} {meth : Method} {c : Code} {Q : State → Prop}
variable {D : va_G} {cl : List vw_C} {A : Nat → Prop} {H0 : Heap} {F : List (Nat × Nat × Nat)} {B0 : tk_B} {ws0 : va_W}
variable {nA : Nat} {ρ0 : Nat → Int}
theorem tk_Pc.blind {ad : Nat → Nat} {vs : List Value} {H : Heap} {tys : List (ClassId × FieldType)} (hS : tk_Sc A St) : FrameBlind (tk_Pc NWs TXs St D cl ad vs H tys) := fun a Us g mk q => by
  obtain ⟨q1, q2, q3, q4⟩ := q
  have hvm : Us.vm = (Us.calling g mk a).vm := rfl
  exact ⟨q1, q2, q3.same hS hvm, q4.moved (kc_alike_eq hvm)⟩
set_option maxHeartbeats 4000000 in
/-- a method's contract out of its run -/
theorem tk_met {as : List tk_V} {E : tk_E} {M : tk_M} {os : List (Nat × tk_S)} {vs : List Value} {ρ : Nat → Int} {B : tk_B} {ws : va_W} {tys : List (ClassId × FieldType)} {H : Heap} (hV : tk_TV T U cl Ts TXs) (hM : tk_MV T U Ts y) (hy0 : y ≠ 0) (hE : tk_env ρ E) (h0 : 0 < E.length ∧ ρ 0 = 0) (has : tk_stk ρ B E.length as vs) (hMm : tk_mem ρ B E.length ws M) (hP : va_P D cl ws H) (hD : va_D A ws) (hC : tk_C (tk_TKT T) tys B ws) (hA : ∀ q, H.size ≤ q → A q) (hcap : B.2.2.length + (tk_Tmi T y).2.2.1 ≤ 1000000000) (hlen : (tk_loc0 as).length ≤ (tk_Tmi T y).1)
    (hrun : ∀ (p : Program) (e : Env) (s : State) (m : MethodId) (args : Array Value) (below : List Frame) (meth : Method) (c : Code) (Q : State → Prop), tk_Cx T U Ts NWs TXs St y p (tk_rm T y) s m args meth c A H B E.length ρ → (∀ o ∈ os, tk_J p l e (tk_rm T y) s m args below meth c Q D cl A H (tk_TKT T) F B ws (tk_Tmi T y).1 E.length ρ o.1 o.2) → tk_J p l e (tk_rm T y) s m args below meth c Q D cl A H (tk_TKT T) F B ws (tk_Tmi T y).1 E.length ρ 0 (E, tk_lc (tk_Tmi T y).1 as, [], M, 0, 0))
    (hret : ∀ o ∈ os, tk_Ret T y o) : Met l (U.2.1 y) (tk_ws_ T U Ts y) (tk_rm T y) (tk_Pc NWs TXs St D cl B.2.1 vs H tys) (tk_Qc D cl A (tk_TKT T) F (tk_Tmi T y).2.2.1 os E.length ρ B ws) (tk_Tmi T y).2.2.1 (tk_Tmi T y).2.2.2.1 A := by
  obtain ⟨m1, m2, m3, m4, m5, m7⟩ := id hM
  refine tk_ofW (cc := U.2.2.1 y) (maxL := (tk_Tmi T y).1) (ret := U.2.2.2 y) m3 rfl ?_
  intro p e s m args below meth c s₁ Bd hml hv
  obtain ⟨rfl, hH, hdx, hK⟩ := hv
  have hts : ∀ w ∈ Ts, w.before vs.toArray s = true := fun w hw => atoms_spec (ws := tk_ws_ T U Ts y) Bd.pre w (List.mem_cons_of_mem _ hw)
  have Cx : tk_Cx T U Ts NWs TXs St y p (tk_rm T y) s m vs.toArray meth c A H B E.length ρ := ⟨Bd.exec, Bd.bytes, hml, by rw [m5]; exact findClass_of_methodNamed Bd.named, hts, hdx, hA, ⟨Nat.le_refl _, Nat.le_refl _, Nat.le_refl _, Nat.le_refl _⟩, hcap, fun q => absurd q hy0⟩
  have J0 := hrun p e s m vs.toArray below meth c _ Cx (fun o ho => tk_J.ret (l := l) (e := e) (below := below) (D := D) (F := F) (ws0 := ws) hV hM Cx Bd.returns Bd.notSynchronized hH.symm ho (hret o ho))
  obtain ⟨g1, -⟩ := tk_loc0.ok 0 has
  have hl := lv_entry vs (n := (tk_Tmi T y).1) (by rw [g1]; exact hlen)
  rw [lg_entry_eq]
  have hfr : tk_fr F B ws ws := fun j a κ hj => by
    obtain ⟨e0, g2, -⟩ := hC.2 j a κ hj
    exact ⟨e0, e0, g2, g2, fun _ _ => rfl⟩
  exact J0 ρ B ws tys s.heap [] _ (lv_args 0 vs) [] ⟨hE, h0, tk_lc.ok has, hl, trivial, hMm, hK, by rw [hH]; exact hP, hD, by rw [hH]; exact va_S.rf, hC, hfr, tk_le.rf B, by dsimp only; omega⟩ ⟨Nat.le_refl _, fun _ _ => rfl⟩
theorem tk_fr.tr {F F' : List (Nat × Nat × Nat)} {B0 B1 : tk_B} {w0 w1 w2 : va_W} (h1 : tk_fr F B0 w0 w1) (h2 : tk_fr F' B1 w1 w2) (hle : tk_le B0 B1) (hF : ∀ κ i, tk_iF F' κ i = true → tk_iF F κ i = true) : tk_fr F B0 w0 w2 := fun j a κ hj => by
  obtain ⟨e0, e1, g1, g2, g3⟩ := h1 j a κ hj
  obtain ⟨e1', e2, k1, k2, k3⟩ := h2 j a κ (hle.at hj)
  rw [g2] at k1
  cases k1
  refine ⟨e0, e2, g1, k2, fun i hi => ?_⟩
  have hi' : tk_iF F' κ i = false := by
    cases hq : tk_iF F' κ i with
    | false => rfl
    | true => rw [hF κ i hq] at hi; cases hi
  rw [k3 i hi', g3 i hi]
end TM
