theorem kc_alike_eq {u U : State} (h : u.vm = U.vm) : u.vm.Alike U.vm := h ▸ Vm.Alike.refl u.vm
theorem kc_Dy.same {AOs : List String} {NWs : List (String × Nat × MethodName × String)} {u U : State} (h : u.vm = U.vm) (hd : kc_Dy AOs NWs u) : kc_Dy AOs NWs U := ⟨fun C hC => (hd.1 C hC).moved (kc_alike_eq h), hd.2.1.moved (kc_alike_eq h), fun q hq => (hd.2.2 q hq).same rfl h⟩
theorem kc_X.moved {u U : State} {A : Nat → Prop} {H0 H : Heap} {nA : Nat} {ρ0 : Nat → Int} {β0 : Nat → Nat} (hvm : u.vm.Alike U.vm) (hz : H0.size ≤ H.size) (hk : ∀ q : Nat, q < H0.size → ¬ A q → H[q]? = H0[q]?) (h : kc_X u A H0 nA ρ0 β0) : kc_X U A H nA ρ0 β0 := by
  trivial
/-- a method's words: its code, and all tables -/
def kc_ws (T : kc_T) (U : kc_U) (Ts : List Jvm.Cond) (y : Nat) : List Jvm.Cond := Cond.code (U.2.1 y) (U.2.2.1 y) (kc_Tmi T y).1 (U.2.2.2 y) :: Ts
def kc_rm (T : kc_T) (y : Nat) : Room := { frames := (kc_Tmi T y).2.2.2.2.1, cells := (kc_Tmi T y).2.2.1, slots := (kc_Tmi T y).2.2.2.1, locals := (kc_Tmi T y).2.2.2.2.2.1 }
/-- what the tables say of a method -/
def kc_MV (T : kc_T) (U : kc_U) (Ts : List Jvm.Cond) (y : Nat) : Prop :=
  Cond.code (U.2.1 y) (U.2.2.1 y) (kc_Tmi T y).1 (U.2.2.2 y) ∈ Ts ∧ Cond.initialized (U.2.1 y).cls ∈ Ts ∧ plainName (U.2.1 y).cls = true ∧ ((U.2.1 y).cls ≠ "java/lang/invoke/MethodHandle" ∧ (U.2.1 y).cls ≠ "java/lang/invoke/VarHandle") ∧ U.1 (kc_Tmi T y).2.2.2.2.2.2.1 = (U.2.1 y).cls ∧ ((kc_Tmi T y).2.2.2.2.2.2.2 = true → (U.2.1 y).name = "<init>") ∧
  (kc_Trk T y = 0 → U.2.2.2 y = none) ∧ (kc_Trk T y = 1 → U.2.2.2 y = some .int) ∧ (kc_Trk T y = 2 → U.2.2.2 y = some .long) ∧ (kc_Trk T y = 3 → ∃ rt, U.2.2.2 y = some rt ∧ ((∃ n, rt = .object n) ∨ ∃ t, rt = .array t)) ∧ (kc_Trk T y = 4 → U.2.2.2 y = some .boolean)
/-- a return that the executor let pass -/
def kc_Ret (T : kc_T) (y : Nat) (o : Nat × kc_S) : Prop := ∃ (i : Instr) (n : Nat), kc_Tcd T y o.1 = some (i, n) ∧ kc_retok (kc_Trk T y) (kc_Tmi T y).2.2.1 (kc_Tmi T y).2.2.2.1 i n o.2 = true
/-- arguments, and the machine's -/
def kc_as (ρ : Nat → Int) (β : Nat → Nat) (N n : Nat) : List kc_V → List Value → Prop := kc_stk ρ β N n
theorem kc_as.app {ρ : Nat → Int} {β : Nat → Nat} {N n : Nat} : ∀ {K1 K2 : List kc_V} {s1 s2 : List Value}, kc_stk ρ β N n K1 s1 → kc_stk ρ β N n K2 s2 → kc_stk ρ β N n (K1 ++ K2) (s1 ++ s2)
  | [], _, [], _, _, h => h
  | _ :: _, _, _ :: _, _, h1, h2 => ⟨h1.1, h1.2.1, kc_as.app h1.2.2 h2⟩
  | [], _, _ :: _, _, h, _ => absurd h id
  | _ :: _, _, [], _, h, _ => absurd h id
/-- arguments off the stack -/
theorem kc_args.ok {ρ : Nat → Int} {β : Nat → Nat} {N n : Nat} : ∀ {ts : List Nat} {K : List kc_V} {as0 : List kc_V} {as K' : List kc_V} {st vs0 : List Value}, kc_args ts K as0 = some (as, K') → kc_stk ρ β N n K st → kc_stk ρ β N n as0 vs0 → ∃ vs rest : List Value, kc_stk ρ β N n as (vs ++ vs0) ∧ kc_stk ρ β N n K' rest ∧ st = vs.reverse ++ rest ∧ vs.length = ts.length ∧ as.map (fun a => a.1) = ts.reverse ++ as0.map (fun a => a.1)
  | [], K, as0, as, K', st, vs0, h, h1, h2 => by
    cases h
    exact ⟨[], st, h2, h1, rfl, rfl, rfl⟩
  | t :: ts, a :: K, as0, as, K', st, vs0, h, h1, h2 => by
    unfold kc_args at h
    split at h
    · rename_i ht
      obtain ⟨v, st', rfl, hlt, hv, hst'⟩ := kc_stk.uncons h1
      obtain ⟨vs, rest, g1, g2, g3, g4, g5⟩ := kc_args.ok (vs0 := v :: vs0) h hst' ⟨hlt, hv, h2⟩
      refine ⟨vs ++ [v], rest, by rw [List.append_assoc]; exact g1, g2, ?_, by rw [List.length_append, g4]; rfl, ?_⟩
      · rw [g3]
        simp
      · rw [g5]
        simp [ht]
    · cases h
  | t :: ts, [], as0, as, K', st, vs0, h, h1, h2 => by cases h
theorem kc_loc0.ok {ρ : Nat → Int} {β : Nat → Nat} {N n : Nat} : ∀ {as : List kc_V} {vs : List Value} (i : Nat), kc_stk ρ β N n as vs → (lg_sl vs).length = (kc_loc0 as).length ∧ ∀ (j : Nat) (a : kc_V), (kc_loc0 as)[j]? = some a → a.1 ≠ 0 → a.2.1 < n ∧ ∃ v : Value, (i + j, v) ∈ lv_args i vs ∧ kc_v ρ β N a v
  | [], [], i, _ => ⟨rfl, fun j a h => by simp [kc_loc0] at h⟩
  | (t, b, d) :: as, v :: vs, i, h => by
    by_cases e : t = 2
    · subst e
      have hc := kc_cat2 h.2.1
      obtain ⟨g1, g2⟩ := kc_loc0.ok (i + 2) h.2.2
      have e1 : kc_loc0 ((2, b, d) :: as) = (2, b, d) :: (0, 0, 0) :: kc_loc0 as := rfl
      have e2 : lv_args i (v :: vs) = (i, v) :: lv_args (i + 2) vs := by
        show (i, v) :: lv_args (if v.category = 2 then i + 2 else i + 1) vs = _
        rw [if_pos hc]
      have e3 : lg_sl (v :: vs) = [.val v, .second] ++ lg_sl vs := by
        unfold lg_sl
        rw [List.flatMap_cons, if_pos hc]
      rw [e1, e2, e3]
      refine ⟨by simp [g1], fun j a ha hne => ?_⟩
      match j, ha with
      | 0, ha => cases ha; exact ⟨h.1, v, List.mem_cons_self, h.2.1⟩
      | 1, ha => cases ha; exact absurd rfl hne
      | j + 2, ha =>
        obtain ⟨y1, w, y2, y3⟩ := g2 j a (by simpa using ha) hne
        exact ⟨y1, w, List.mem_cons_of_mem _ (by rw [show i + (j + 2) = i + 2 + j by omega]; exact y2), y3⟩
    · have hc := kc_cat1 h.2.1 e
      obtain ⟨g1, g2⟩ := kc_loc0.ok (i + 1) h.2.2
      have e1 : kc_loc0 ((t, b, d) :: as) = (t, b, d) :: kc_loc0 as := by
        show (if t = 2 then _ else _) = _
        rw [if_neg e]
      have e2 : lv_args i (v :: vs) = (i, v) :: lv_args (i + 1) vs := by
        show (i, v) :: lv_args (if v.category = 2 then i + 2 else i + 1) vs = _
        rw [if_neg (by rw [hc]; decide)]
      have e3 : lg_sl (v :: vs) = [.val v] ++ lg_sl vs := by
        unfold lg_sl
        rw [List.flatMap_cons, if_neg (by rw [hc]; decide)]
      rw [e1, e2, e3]
      refine ⟨by simp [g1], fun j a ha hne => ?_⟩
      match j, ha with
      | 0, ha => cases ha; exact ⟨h.1, v, List.mem_cons_self, h.2.1⟩
      | j + 1, ha =>
        obtain ⟨y1, w, y2, y3⟩ := g2 j a (by simpa using ha) hne
        exact ⟨y1, w, List.mem_cons_of_mem _ (by rw [show i + (j + 1) = i + 1 + j by omega]; exact y2), y3⟩
  | [], _ :: _, _, h => absurd h id
  | _ :: _, [], _, h => absurd h id
/-- how a method ends: by one of the executor's ends -/
def kc_Qc (D : va_G) (cl : List vw_C) (A : Nat → Prop) (os : List (Nat × kc_S)) (n : Nat) (ρ : Nat → Int) (N : Nat) (β : Nat → Nat) : Array Value → State → Outcome → State → Prop := fun _ st oc t => ∃ o ∈ os, ∃ (ρ' : Nat → Int) (β' : Nat → Nat) (ws' : va_W) (tys' : List (ClassId × FieldType)) (v : Option Value), oc = .returned v ∧ kc_stk ρ' β' o.2.2.2.2.1.length o.2.1.length o.2.2.2.1 v.toList ∧ kc_env ρ' o.2.1 ∧ (0 < o.2.1.length ∧ ρ' 0 = 0) ∧ kc_ag n ρ N β o.2.1.length o.2.2.2.2.1.length ρ' β' ∧ va_K D cl tys' t ∧ va_P D cl ws' t.heap ∧ va_D A ws' ∧ kc_C ρ' β' o.2.1.length tys' o.2.2.2.2.1 ws' ∧ va_F A st t
theorem kc_nz01 {x : Int32} (h1 : 0 ≤ x.toInt) (h2 : x.toInt ≤ 1) : narrow .boolean (.int x) = .int x := by
  rcases (show x.toInt = 0 ∨ x.toInt = 1 by omega) with q | q
  · have : x = 0 := Int32.toInt_inj.mp q
    subst this
    rfl
  · have : x = 1 := Int32.toInt_inj.mp q
    subst this
    rfl
section KO
variable {T : kc_T} {U : kc_U} {Ts : List Jvm.Cond} {AOs : List String} {NWs : List (String × Nat × MethodName × String)} {y : Nat}
variable {p : Program} {l : Launch} {e : Env} {R : Room} {s : State} {m : MethodId} {args : Array Value} {below : List Frame} {meth : Method} {c : Code} {Q : State → Prop}
variable {D : va_G} {cl : List vw_C} {A : Nat → Prop} {H0 : Heap}
variable {nA : Nat} {ρ0 : Nat → Int} {nB : Nat} {β0 : Nat → Nat}
set_option maxHeartbeats 4000000 in
/-- a return, as its method's contract wants it -/
theorem kc_J.ret {o : Nat × kc_S} {os : List (Nat × kc_S)} (hV : kc_TV T U cl Ts AOs) (hM : kc_MV T U Ts y) (hX : kc_Cx T U Ts AOs NWs y p R s m args meth c A H0 nA ρ0 β0) (hr : meth.sig.returnType = U.2.2.2 y) (hlocks : meth.locks = false) (hH : H0 = s.heap) (ho : o ∈ os) (hR : kc_Ret T y o) :
    kc_J p l e R s m args below meth c (MQ below (kc_Qc D cl A os nA ρ0 nB β0) args s (kc_Tmi T y).2.2.1 (kc_Tmi T y).2.2.2.1 A) D cl A H0 (kc_Tmi T y).1 nA ρ0 nB β0 o.1 o.2 := by
  obtain ⟨i, n, hc, hk1⟩ := hR
  have hd := hV.1 _ _ _ _ hc
  obtain ⟨-, -, -, -, -, -, m0, m1, m2, m3, m4⟩ := hM
  intro ρ β ws tys H locs ls lv st hk hg
  obtain ⟨hE, h0, hL, hl, hst, hK, hPw, hD, hS, hC⟩ := hk
  unfold kc_retok at hk1
  rw [Bool.and_eq_true, Bool.and_eq_true] at hk1
  obtain ⟨⟨k1, k2⟩, k3⟩ := hk1
  have k1 := Nat.eq_of_beq_eq_true k1
  subst k1
  have k2 := of_decide_eq_true k2
  have fin : ∀ v : Option Value, kc_stk ρ β o.2.2.2.2.1.length o.2.1.length o.2.2.2.1 v.toList → ∀ t : State, t.heap = H → s.WarmedH t.vm → kc_Qc D cl A os nA ρ0 nB β0 args s (.returned v) t := fun v hv t ht hW => ⟨o, ho, ρ, β, ws, tys, v, rfl, hv, hE, h0, hg, hK.moved hW.alike, by rw [ht]; exact hPw, hD, hC, va_S.F (by rw [← hH]; exact hS) ht⟩
  refine W.widen k2.1 k2.2 ?_
  split at k3
  · rename_i k d hKK
    rw [hKK] at hst fin
    obtain ⟨v, st', rfl, hlt, ⟨x, rfl, ex⟩, hst'⟩ := kc_stk.uncons hst
    cases st' with
    | cons _ _ => exact absurd hst' id
    | nil =>
      rw [Bool.or_eq_true] at k3
      rcases k3 with k3 | k3
      · exact W.iret hX.1 hX.2.1 (hr.trans (m1 (Nat.eq_of_beq_eq_true k3))) (fin (some (.int x)) ⟨hlt, ⟨x, rfl, ex⟩, trivial⟩) hS.2.2 hd hlocks
      · rw [Bool.and_eq_true] at k3
        have hb := of_decide_eq_true k3.2
        have he := hE.at (1, k, d)
        dsimp only at he ex
        exact W.zret hX.1 hX.2.1 (hr.trans (m4 (Nat.eq_of_beq_eq_true k3.1))) (kc_nz01 (by omega) (by omega)) (fin (some (.int x)) ⟨hlt, ⟨x, rfl, ex⟩, trivial⟩) hS.2.2 hd hlocks
  · rename_i hKK
    rw [hKK] at hst fin
    obtain ⟨v, st', rfl, hlt, ⟨x, rfl, ex⟩, hst'⟩ := kc_stk.uncons hst
    cases st' with
    | cons _ _ => exact absurd hst' id
    | nil => exact W.lret hX.1 hX.2.1 (hr.trans (m2 (Nat.eq_of_beq_eq_true k3))) (fin (some (.long x)) ⟨hlt, ⟨x, rfl, ex⟩, trivial⟩) hS.2.2 hd hlocks
  · rename_i hKK
    rw [hKK] at hst fin
    obtain ⟨v, st', rfl, hlt, hv, hst'⟩ := kc_stk.uncons hst
    cases st' with
    | cons _ _ => exact absurd hst' id
    | nil =>
      obtain ⟨rt, hrt, hrt2⟩ := m3 (Nat.eq_of_beq_eq_true k3)
      refine W.aret hX.1 hX.2.1 (hr.trans hrt) hrt2 ?_ (fin (some v) ⟨hlt, hv, trivial⟩) hS.2.2 hd hlocks
      rcases hv with ⟨rfl, -⟩ | ⟨r, rfl, -⟩
      · exact Or.inl rfl
      · exact Or.inr ⟨_, rfl⟩
  · rename_i hKK
    rw [hKK] at hst fin
    cases st with
    | cons _ _ => exact absurd hst id
    | nil => exact W.vret hX.1 hX.2.1 (hr.trans (m0 (Nat.eq_of_beq_eq_true k3))) (fin none trivial) hS.2.2 hd hlocks
  · cases k3
end KO
