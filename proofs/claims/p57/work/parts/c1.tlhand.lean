def tx_len : List Nat := [3, 2, 8, 5, 6, 5, 5, 6, 6, 5, 5, 5, 4, 4, 5, 8, 4, 6, 5, 3, 2, 4, 5, 8, 5, 5, 6, 6, 2, 4, 3]
def tx_byt : List (List Int32) := [[97, 103, 101], [97, 116], [98, 97, 99, 107, 119, 97, 114, 100], [98, 101, 108, 111, 119], [98, 101, 121, 111, 110, 100], [99, 111, 117, 114, 116], [99, 114, 97, 119, 108], [100, 105, 103, 105, 116, 115], [100, 111, 117, 98, 108, 101], [101, 109, 112, 116, 121], [102, 105, 114, 115, 116], [102, 108, 117, 115, 104], [102, 114, 111, 109], [104, 97, 108, 102], [104, 111, 109, 101, 115], [108, 97, 110, 100, 108, 111, 114, 100], [108, 101, 97, 107], [108, 105, 116, 114, 101, 115], [109, 101, 116, 101, 114], [111, 108, 100], [111, 110], [114, 97, 116, 101], [115, 105, 110, 99, 101], [115, 116, 97, 110, 100, 105, 110, 103], [115, 116, 97, 114, 116], [115, 116, 117, 99, 107], [115, 117, 109, 109, 101, 114], [116, 97, 114, 105, 102, 102], [116, 111], [117, 112, 116, 111], [117, 115, 101]]
def tx_AOs : List String := ["WheelTown$Event", "WheelTown$Meter", "WheelTown$Readings", "WheelTown$Slot", "WheelTown$Tariff", "WheelTown$Town"]
def tx_pw : List Int32 := [1, 10, 100, 1000, 10000, 100000, 1000000]
/-- what is said of texts, and of a row of numbers that nobody writes -/
def tx_St (A : Nat → Prop) : (Nat → Nat) → State → Heap → Prop := fun ad s H => ∃ (adV : Nat → Nat) (pw : Nat), vk_S 31 tx_len tx_byt ad adV A s H ∧ va_Z "java/lang/String" "COMPACT_STRINGS" "Z" (.int 1) A s H ∧ va_Z "WheelTown$Meter" "POWERS" "[I" (.ref pw) A s H ∧ va_T .int pw 7 (fun j => .int (tx_pw.getD j 0)) A s H ∧ va_Zq "jdk/internal/util/Preconditions" "SIOOBE_FORMATTER" "Ljava/util/function/BiFunction;" A s H ∧ (∀ C ∈ tx_AOs, va_AO C s) ∧ va_AOA .int s
theorem tx_Sc (A : Nat → Prop) : tk_Sc A (tx_St A) := by
  refine ⟨fun ad s U H hvm h => ?_, fun ad s H H1 _ hq h => ?_⟩
  · obtain ⟨adV, pw, h1, h2, h3, h4, h5, h6, h7⟩ := h
    exact ⟨adV, pw, vk_S.moved hvm h1, va_Z.moved hvm h2, va_Z.moved hvm h3, va_T.moved hvm h4, va_Zq.moved hvm h5, fun C hC => (h6 C hC).moved hvm, h7.moved hvm⟩
  · obtain ⟨adV, pw, h1, h2, h3, h4, h5, h6, h7⟩ := h
    exact ⟨adV, pw, h1.kept hq, h2.kept hq, h3.kept hq, h4.kept hq, h5.kept hq, h6, h7⟩
theorem tx_Tx {A : Nat → Prop} {s : State} {H : Heap} {ad : Nat → Nat} (h : tk_Dx tw_NWs tw_TXs (tx_St A) ad s H) (k : Nat) (hk : k < tt_nt) : ∃ cell : Cell, H[ad k]? = some cell ∧ cell.vm.isStatics = false ∧ s.vm.findClass (tw_U.1 tt_sc) = some cell.cls := by
  obtain ⟨-, -, adV, pw, h1, -⟩ := h
  obtain ⟨cell, g1, g2, g3, -⟩ := (h1.1 k hk).1
  exact ⟨cell, g1, g2, g3⟩
/-- a result and nothing else -/
def tx_Qr (r : Int32) : Array Value → State → Outcome → State → Prop := fun _ st oc t => oc = .returned (some (.int r)) ∧ t.heap = st.heap
section TH
variable {p : Program} {l : Launch} {e : Env} {R : Room} {s : State} {m : MethodId} {args : Array Value} {below : List Frame} {meth : Method} {c : Code} {Q : State → Prop} {H : Heap} {locs : List Loc} {cells slots pc : Nat} {ls : Array Slot} {st rest : List Value} {A : Nat → Prop}
theorem tx_after {X : Array Value} {r : Int32} (hr : va_Run p l e R s m args below meth c H locs cells slots 0 0 (F0 m pc ls st) rest (tx_Qr r X) A) (k : ∀ L : List Loc, (∀ q ∈ L, A q.base) → W p l e R s m args below meth c H (locs ++ L) cells slots Q (F0 m (pc + 3) ls (.int r :: rest))) : W p l e R s m args below meth c H locs cells slots Q (F0 m pc ls st) := by
  intro TT hT XX
  obtain ⟨v, st₀, t, T', L', h0, X', hL', e1, e2, ⟨q1, q2⟩, stp⟩ := hr TT hT XX
  cases q1
  obtain ⟨t2, a1, b1⟩ := k L' hL' T' (by rw [e1, q2, h0]) X'
  exact ⟨t2, stp t2 a1, b1⟩
end TH
section TG
variable {D : va_G} {cl : List vw_C} {A : Nat → Prop} {s : State} {H0 : Heap} {KT : Nat → tk_G} {F : List (Nat × Nat × Nat)} {B0 : tk_B} {ws0 : va_W} {nL : Nat} {E : tk_E} {L K : List tk_V} {M : tk_M} {cs ss : Nat} {ρ : Nat → Int} {B : tk_B} {ws : va_W} {tys : List (ClassId × FieldType)} {H : Heap} {locs : List Loc} {ls : Array Slot} {lv : List (Nat × Value)} {st : List Value}
/-- a number more, in a symbol of its own -/
theorem tl_push {t : Nat} {z lo hi : Int} {v : Value} (hk : tk_ok D cl A s H0 KT F B0 ws0 nL (E, L, K, M, cs, ss) ρ B ws tys H locs ls lv st) (h1 : lo ≤ z) (h2 : z ≤ hi) (hv : tk_vn B t z v) : tk_ok D cl A s H0 KT F B0 ws0 nL (E ++ [(lo, hi, 0, 0, 0, 0)], L, (t, E.length, 0) :: K, M, cs, ss) (va_up ρ E.length z) B ws tys H locs ls lv (v :: st) := by
  obtain ⟨hE, h0, hL, hl, hst, hMm, hW⟩ := hk
  have g1 : ∀ k, k < E.length → va_up ρ E.length z k = ρ k := fun k hk => va_up_ne _ _ (Nat.ne_of_lt hk)
  have g4 : E.length ≤ (E ++ [(lo, hi, 0, 0, 0, 0)]).length := by simp
  refine ⟨hE.pushd (tk_dv.bare h1 h2), ⟨by simp, by rw [g1 0 h0.1]; exact h0.2⟩, hL.ext g1 (tk_le.rf B) g4, hl, ⟨by simp, ?_, tk_stk.ext g1 (tk_le.rf B) g4 hst⟩, hMm.ext g1 g4, hW⟩
  unfold tk_v
  dsimp only
  rw [va_up_self, Int.add_zero]
  exact hv
theorem tl_locs {L1 : List Loc} (hk : tk_ok D cl A s H0 KT F B0 ws0 nL (E, L, K, M, cs, ss) ρ B ws tys H locs ls lv st) (h : ∀ q ∈ L1, A q.base) : tk_ok D cl A s H0 KT F B0 ws0 nL (E, L, K, M, cs, ss) ρ B ws tys H (locs ++ L1) ls lv st := by
  obtain ⟨hE, h0, hL, hl, hst, hMm, hK, hPw, hD, hS, hC, hFr, hLe, hBl⟩ := hk
  refine ⟨hE, h0, hL, hl, hst, hMm, hK, hPw, hD, ⟨hS.1, hS.2.1, fun q hq => ?_⟩, hC, hFr, hLe, hBl⟩
  rcases List.mem_append.mp hq with q1 | q1
  · exact hS.2.2 q q1
  · exact h q q1
end TG
section TM
variable {T : tk_T} {U : kc_U} {Ts : List Jvm.Cond} {NWs : List (String × Nat × MethodName × String)} {TXs : List (String × Nat × String × Nat)} {St : (Nat → Nat) → State → Heap → Prop} {y : Nat}
variable {p : Program} {l : Launch} {e : Env} {R : Room} {s : State} {m : MethodId} {args : Array Value} {below : List Frame} {meth : Method} {c : Code} {Q : State → Prop}
variable {D : va_G} {cl : List vw_C} {A : Nat → Prop} {H0 : Heap} {F : List (Nat × Nat × Nat)} {B0 : tk_B} {ws0 : va_W}
variable {nA : Nat} {ρ0 : Nat → Int}
set_option maxHeartbeats 4000000 in
/-- a method's contract out of its run -/
theorem tk_metH {as : List tk_V} {E : tk_E} {M : tk_M} {os : List (Nat × tk_S)} {vs : List Value} {ρ : Nat → Int} {B : tk_B} {ws : va_W} {tys : List (ClassId × FieldType)} {H : Heap} (hV : tk_TV T U cl Ts TXs) (hM : tk_MV T U Ts y) (hy0 : y ≠ 0) (hE : tk_env ρ E) (h0 : 0 < E.length ∧ ρ 0 = 0) (has : tk_stk ρ B E.length as vs) (hMm : tk_mem ρ B E.length ws M) (hP : va_P D cl ws H) (hD : va_D A ws) (hC : tk_C (tk_TKT T) tys B ws) (hA : ∀ q, H.size ≤ q → A q) (hcap : B.2.2.length + (tk_Tmi T y).2.2.1 ≤ 1000000000) (hlen : (tk_loc0 as).length ≤ (tk_Tmi T y).1)
    (hrun : ∀ (p : Program) (e : Env) (s : State) (m : MethodId) (args : Array Value) (below : List Frame) (meth : Method) (c : Code) (Q : State → Prop), tk_Cx T U Ts NWs TXs St y p (tk_rm T y) s m args meth c A H B E.length ρ → H = s.heap → (∀ o ∈ os, tk_J p l e (tk_rm T y) s m args below meth c Q D cl A H (tk_TKT T) F B ws (tk_Tmi T y).1 E.length ρ o.1 o.2) → tk_J p l e (tk_rm T y) s m args below meth c Q D cl A H (tk_TKT T) F B ws (tk_Tmi T y).1 E.length ρ 0 (E, tk_lc (tk_Tmi T y).1 as, [], M, 0, 0))
    (hret : ∀ o ∈ os, tk_Ret T y o) : Met l (U.2.1 y) (tk_ws_ T U Ts y) (tk_rm T y) (tk_Pc NWs TXs St D cl B.2.1 vs H tys) (tk_Qc D cl A (tk_TKT T) F (tk_Tmi T y).2.2.1 os E.length ρ B ws) (tk_Tmi T y).2.2.1 (tk_Tmi T y).2.2.2.1 A := by
  obtain ⟨m1, m2, m3, m4, m5, m7⟩ := id hM
  refine tk_ofW (cc := U.2.2.1 y) (maxL := (tk_Tmi T y).1) (ret := U.2.2.2 y) m3 rfl ?_
  intro p e s m args below meth c s₁ Bd hml hv
  obtain ⟨rfl, hH, hdx, hK⟩ := hv
  have hts : ∀ w ∈ Ts, w.before vs.toArray s = true := fun w hw => atoms_spec (ws := tk_ws_ T U Ts y) Bd.pre w (List.mem_cons_of_mem _ hw)
  have Cx : tk_Cx T U Ts NWs TXs St y p (tk_rm T y) s m vs.toArray meth c A H B E.length ρ := ⟨Bd.exec, Bd.bytes, hml, by rw [m5]; exact findClass_of_methodNamed Bd.named, hts, hdx, hA, ⟨Nat.le_refl _, Nat.le_refl _, Nat.le_refl _, Nat.le_refl _⟩, hcap, fun q => absurd q hy0⟩
  have J0 := hrun p e s m vs.toArray below meth c _ Cx hH.symm (fun o ho => tk_J.ret (l := l) (e := e) (below := below) (D := D) (F := F) (ws0 := ws) hV hM Cx Bd.returns Bd.notSynchronized hH.symm ho (hret o ho))
  obtain ⟨g1, -⟩ := tk_loc0.ok 0 has
  have hl := lv_entry vs (n := (tk_Tmi T y).1) (by rw [g1]; exact hlen)
  rw [lg_entry_eq]
  have hfr : tk_fr F B ws ws := fun j a κ hj => by
    obtain ⟨e0, g2, -⟩ := hC.2 j a κ hj
    exact ⟨e0, e0, g2, g2, fun _ _ => rfl⟩
  exact J0 ρ B ws tys s.heap [] _ (lv_args 0 vs) [] ⟨hE, h0, tk_lc.ok has, hl, trivial, hMm, hK, by rw [hH]; exact hP, hD, by rw [hH]; exact va_S.rf, hC, hfr, tk_le.rf B, by dsimp only; omega⟩ ⟨Nat.le_refl _, fun _ _ => rfl⟩
end TM
section TJ
variable {T : tk_T} {U : kc_U} {Ts : List Jvm.Cond} {NWs : List (String × Nat × MethodName × String)} {TXs : List (String × Nat × String × Nat)} {St : (Nat → Nat) → State → Heap → Prop} {l : Launch} {D : va_G} {cl : List vw_C} {A : Nat → Prop}
/-- a contract with one end, by hand -/
theorem tl_hand {k : tk_K} {w : tk_A} {pcR : Nat} (hV : tk_TV T U cl Ts TXs) (hM : tk_MV T U Ts k.1) (hy0 : k.1 ≠ 0) (hlen : (tk_loc0 k.2.2.1).length ≤ (tk_Tmi T k.1).1) (hps : k.2.2.2.2.1 = [w]) (hret : tk_Ret T k.1 (pcR, tk_E0 k ++ w.1, tk_lc (tk_Tmi T k.1).1 k.2.2.1, w.2.2.1, w.2.2.2.1, 0, 0))
    (hrun : ∀ (ρ : Nat → Int) (B : tk_B) (ws : va_W) (H : Heap) (p : Program) (e : Env) (s : State) (m : MethodId) (args : Array Value) (below : List Frame) (meth : Method) (c : Code) (Q : State → Prop), tk_Cx T U Ts NWs TXs St k.1 p (tk_rm T k.1) s m args meth c A H B (tk_E0 k).length ρ → H = s.heap → tk_J p l e (tk_rm T k.1) s m args below meth c Q D cl A H (tk_TKT T) k.2.2.2.2.2 B ws (tk_Tmi T k.1).1 (tk_E0 k).length ρ pcR (tk_E0 k ++ w.1, tk_lc (tk_Tmi T k.1).1 k.2.2.1, w.2.2.1, w.2.2.2.1, 0, 0) → tk_J p l e (tk_rm T k.1) s m args below meth c Q D cl A H (tk_TKT T) k.2.2.2.2.2 B ws (tk_Tmi T k.1).1 (tk_E0 k).length ρ 0 (tk_E0 k, tk_lc (tk_Tmi T k.1).1 k.2.2.1, [], k.2.2.2.1, 0, 0)) : tk_Con T U Ts NWs TXs St l D cl A k := by
  intro ρ B ws tys H vs hE hρ has hMm hP hD hC hA hcap
  have hmet := tk_metH (l := l) (F := k.2.2.2.2.2) (os := [(pcR, tk_E0 k ++ w.1, tk_lc (tk_Tmi T k.1).1 k.2.2.1, w.2.2.1, w.2.2.2.1, 0, 0)]) hV hM hy0 hE ⟨Nat.zero_lt_succ _, hρ⟩ has hMm hP hD hC hA hcap hlen (fun p e s m args below meth c Q hCx hH hos => hrun ρ B ws H p e s m args below meth c Q hCx hH (hos _ List.mem_cons_self)) (fun o ho => by
    rw [List.mem_singleton] at ho
    subst ho
    exact hret)
  refine Jvm.Free.MetFree.mono hmet (fun _ _ q => q) (fun _ _ _ _ _ q => q) (fun a st o t _ q => ⟨?_, q.2⟩)
  obtain ⟨⟨o', ho', hrest⟩, -⟩ := q
  rw [List.mem_singleton] at ho'
  subst ho'
  exact ⟨tk_pS T k w, List.mem_map.mpr ⟨w, by rw [hps]; exact List.mem_cons_self, rfl⟩, hrest⟩
end TJ
abbrev tx_Con (l : Launch) (D : va_G) (A : Nat → Prop) (k : tk_K) : Prop := tk_Con tt_T tw_U tw_Ts tw_NWs tw_TXs (tx_St A) l D tw_cl A k
def tx_b1 (x : Int32) : Int32 := (x - (((x : Int32).toUInt32 >>> ((1 : Int32).toUInt32 &&& Int32.toUInt32 31)).toInt32 &&& 1431655765))
def tx_b2 (x : Int32) : Int32 := ((x &&& 858993459) + (((x : Int32).toUInt32 >>> ((2 : Int32).toUInt32 &&& Int32.toUInt32 31)).toInt32 &&& 858993459))
def tx_b3 (x : Int32) : Int32 := ((x + ((x : Int32).toUInt32 >>> ((4 : Int32).toUInt32 &&& Int32.toUInt32 31)).toInt32) &&& 252645135)
def tx_b4 (x : Int32) : Int32 := (x + ((x : Int32).toUInt32 >>> ((8 : Int32).toUInt32 &&& Int32.toUInt32 31)).toInt32)
def tx_b5 (x : Int32) : Int32 := (x + ((x : Int32).toUInt32 >>> ((16 : Int32).toUInt32 &&& Int32.toUInt32 31)).toInt32)
def tx_bc (x : Int32) : Int32 := ((tx_b5 (tx_b4 (tx_b3 (tx_b2 (tx_b1 x))))) &&& 63)
theorem tx_kwl : tt_kw 14 265 = some (1, 1431655765) ∧ tt_kw 14 266 = some (1, 858993459) ∧ tt_kw 14 267 = some (1, 252645135) := by decide +kernel
theorem tx_kw0 {ci ix : Nat} {v : Int} {x : Int32} (h : tt_kw ci ix = some (1, v)) (hx : x.toInt = v) : Jvm.Cond.constant (tw_cln ci) ix x ∈ tw_Ts := by
  obtain ⟨y, h1, h2⟩ := (tw_V.2.2.2.1 ci).1 ix v h
  have : y = x := Int32.toInt_inj.mp (h1.trans hx.symm)
  subst this
  exact h2
theorem tx_k265 : Jvm.Cond.constant "java/lang/Integer" 265 1431655765 ∈ tw_Ts := tx_kw0 (ci := 14) tx_kwl.1 (by decide)
theorem tx_k266 : Jvm.Cond.constant "java/lang/Integer" 266 858993459 ∈ tw_Ts := tx_kw0 (ci := 14) tx_kwl.2.1 (by decide)
theorem tx_k267 : Jvm.Cond.constant "java/lang/Integer" 267 252645135 ∈ tw_Ts := tx_kw0 (ci := 14) tx_kwl.2.2 (by decide)
section TK
variable {l : Launch} {D : va_G} {A : Nat → Prop}
set_option maxHeartbeats 4000000 in
theorem tx_bcM (x : Int32) {ad : Nat → Nat} {H : Heap} {tys : List (ClassId × FieldType)} : Met l (tw_U.2.1 6) (tk_ws_ tt_T tw_U tw_Ts 6) (tk_rm tt_T 6) (tk_Pc tw_NWs tw_TXs (tx_St A) D tw_cl ad [.int x] H tys) (tx_Qr (tx_bc x)) 0 0 A := by
  have hM := tw_mv (y := 6) (by decide) (by decide)
  refine tk_ofW (cc := tw_U.2.2.1 6) (maxL := 1) (ret := tw_U.2.2.2 6) hM.2.2.1 rfl ?_
  intro p e s m args below meth c s₁ Bd hml hv
  obtain ⟨rfl, hH, hdx, hK⟩ := hv
  have hts : ∀ w ∈ tw_Ts, w.before [Value.int x].toArray s = true := fun w hw => atoms_spec (ws := tk_ws_ tt_T tw_U tw_Ts 6) Bd.pre w (List.mem_cons_of_mem _ hw)
  have hl := lv_entry [Value.int x] (n := 1) (Nat.le_of_ble_eq_true rfl)
  have hx := Bd.exec
  have hb := Bd.bytes
  have hown : s.vm.findClass "java/lang/Integer" = some m.cls := findClass_of_methodNamed Bd.named
  rw [lg_entry_eq]
  refine lv_iload_n hx hb (tw_V.1 6 0 _ _ (rfl : tt_cd 6 0 = some (.iload_n 0, 1))) rfl (hl.2.2 (0, _) List.mem_cons_self) ?_
  refine lv_iload_n hx hb (tw_V.1 6 1 _ _ (rfl : tt_cd 6 1 = some (.iload_n 0, 1))) rfl (hl.2.2 (0, _) List.mem_cons_self) ?_
  refine lv_iconst hx hb (tw_V.1 6 2 _ _ (rfl : tt_cd 6 2 = some (.iconst 1, 1))) rfl ?_
  refine lv_iushr hx hb (tw_V.1 6 3 _ _ (rfl : tt_cd 6 3 = some (.iushr, 1))) rfl ?_
  refine lv_ldcw (v := 1431655765) hx hb hown (hts _ tx_k265) (tw_V.1 6 4 _ _ (rfl : tt_cd 6 4 = some (.ldc_w 265, 3))) ?_
  refine lv_iand hx hb (tw_V.1 6 7 _ _ (rfl : tt_cd 6 7 = some (.iand, 1))) ?_
  refine lv_isub hx hb (tw_V.1 6 8 _ _ (rfl : tt_cd 6 8 = some (.isub, 1))) ?_
  refine lv_istore_n (x := (tx_b1 x)) hx hb (tw_V.1 6 9 _ _ (rfl : tt_cd 6 9 = some (.istore_n 0, 1))) rfl hl (by decide) rfl (fun ls hl1 => ?_)
  refine lv_iload_n hx hb (tw_V.1 6 10 _ _ (rfl : tt_cd 6 10 = some (.iload_n 0, 1))) rfl (hl1.2.2 (0, _) List.mem_cons_self) ?_
  refine lv_ldcw (v := 858993459) hx hb hown (hts _ tx_k266) (tw_V.1 6 11 _ _ (rfl : tt_cd 6 11 = some (.ldc_w 266, 3))) ?_
  refine lv_iand hx hb (tw_V.1 6 14 _ _ (rfl : tt_cd 6 14 = some (.iand, 1))) ?_
  refine lv_iload_n hx hb (tw_V.1 6 15 _ _ (rfl : tt_cd 6 15 = some (.iload_n 0, 1))) rfl (hl1.2.2 (0, _) List.mem_cons_self) ?_
  refine lv_iconst hx hb (tw_V.1 6 16 _ _ (rfl : tt_cd 6 16 = some (.iconst 2, 1))) rfl ?_
  refine lv_iushr hx hb (tw_V.1 6 17 _ _ (rfl : tt_cd 6 17 = some (.iushr, 1))) rfl ?_
  refine lv_ldcw (v := 858993459) hx hb hown (hts _ tx_k266) (tw_V.1 6 18 _ _ (rfl : tt_cd 6 18 = some (.ldc_w 266, 3))) ?_
  refine lv_iand hx hb (tw_V.1 6 21 _ _ (rfl : tt_cd 6 21 = some (.iand, 1))) ?_
  refine lv_iadd hx hb (tw_V.1 6 22 _ _ (rfl : tt_cd 6 22 = some (.iadd, 1))) ?_
  refine lv_istore_n (x := (tx_b2 (tx_b1 x))) hx hb (tw_V.1 6 23 _ _ (rfl : tt_cd 6 23 = some (.istore_n 0, 1))) rfl hl1 (by decide) rfl (fun ls hl2 => ?_)
  refine lv_iload_n hx hb (tw_V.1 6 24 _ _ (rfl : tt_cd 6 24 = some (.iload_n 0, 1))) rfl (hl2.2.2 (0, _) List.mem_cons_self) ?_
  refine lv_iload_n hx hb (tw_V.1 6 25 _ _ (rfl : tt_cd 6 25 = some (.iload_n 0, 1))) rfl (hl2.2.2 (0, _) List.mem_cons_self) ?_
  refine lv_iconst hx hb (tw_V.1 6 26 _ _ (rfl : tt_cd 6 26 = some (.iconst 4, 1))) rfl ?_
  refine lv_iushr hx hb (tw_V.1 6 27 _ _ (rfl : tt_cd 6 27 = some (.iushr, 1))) rfl ?_
  refine lv_iadd hx hb (tw_V.1 6 28 _ _ (rfl : tt_cd 6 28 = some (.iadd, 1))) ?_
  refine lv_ldcw (v := 252645135) hx hb hown (hts _ tx_k267) (tw_V.1 6 29 _ _ (rfl : tt_cd 6 29 = some (.ldc_w 267, 3))) ?_
  refine lv_iand hx hb (tw_V.1 6 32 _ _ (rfl : tt_cd 6 32 = some (.iand, 1))) ?_
  refine lv_istore_n (x := (tx_b3 (tx_b2 (tx_b1 x)))) hx hb (tw_V.1 6 33 _ _ (rfl : tt_cd 6 33 = some (.istore_n 0, 1))) rfl hl2 (by decide) rfl (fun ls hl3 => ?_)
  refine lv_iload_n hx hb (tw_V.1 6 34 _ _ (rfl : tt_cd 6 34 = some (.iload_n 0, 1))) rfl (hl3.2.2 (0, _) List.mem_cons_self) ?_
  refine lv_iload_n hx hb (tw_V.1 6 35 _ _ (rfl : tt_cd 6 35 = some (.iload_n 0, 1))) rfl (hl3.2.2 (0, _) List.mem_cons_self) ?_
  refine lv_bipush hx hb (tw_V.1 6 36 _ _ (rfl : tt_cd 6 36 = some (.bipush 8, 2))) rfl ?_
  refine lv_iushr hx hb (tw_V.1 6 38 _ _ (rfl : tt_cd 6 38 = some (.iushr, 1))) rfl ?_
  refine lv_iadd hx hb (tw_V.1 6 39 _ _ (rfl : tt_cd 6 39 = some (.iadd, 1))) ?_
  refine lv_istore_n (x := (tx_b4 (tx_b3 (tx_b2 (tx_b1 x))))) hx hb (tw_V.1 6 40 _ _ (rfl : tt_cd 6 40 = some (.istore_n 0, 1))) rfl hl3 (by decide) rfl (fun ls hl4 => ?_)
  refine lv_iload_n hx hb (tw_V.1 6 41 _ _ (rfl : tt_cd 6 41 = some (.iload_n 0, 1))) rfl (hl4.2.2 (0, _) List.mem_cons_self) ?_
  refine lv_iload_n hx hb (tw_V.1 6 42 _ _ (rfl : tt_cd 6 42 = some (.iload_n 0, 1))) rfl (hl4.2.2 (0, _) List.mem_cons_self) ?_
  refine lv_bipush hx hb (tw_V.1 6 43 _ _ (rfl : tt_cd 6 43 = some (.bipush 16, 2))) rfl ?_
  refine lv_iushr hx hb (tw_V.1 6 45 _ _ (rfl : tt_cd 6 45 = some (.iushr, 1))) rfl ?_
  refine lv_iadd hx hb (tw_V.1 6 46 _ _ (rfl : tt_cd 6 46 = some (.iadd, 1))) ?_
  refine lv_istore_n (x := (tx_b5 (tx_b4 (tx_b3 (tx_b2 (tx_b1 x)))))) hx hb (tw_V.1 6 47 _ _ (rfl : tt_cd 6 47 = some (.istore_n 0, 1))) rfl hl4 (by decide) rfl (fun ls hl5 => ?_)
  refine lv_iload_n hx hb (tw_V.1 6 48 _ _ (rfl : tt_cd 6 48 = some (.iload_n 0, 1))) rfl (hl5.2.2 (0, _) List.mem_cons_self) ?_
  refine lv_bipush hx hb (tw_V.1 6 49 _ _ (rfl : tt_cd 6 49 = some (.bipush 63, 2))) rfl ?_
  refine lv_iand hx hb (tw_V.1 6 51 _ _ (rfl : tt_cd 6 51 = some (.iand, 1))) ?_
  exact W.iret hx hb (Bd.returns.trans rfl) (fun t ht _ => ⟨rfl, by rw [ht]⟩) (fun q hq => absurd hq List.not_mem_nil) (tw_V.1 6 52 _ _ (rfl : tt_cd 6 52 = some (.ireturn, 1))) Bd.notSynchronized
end TK
