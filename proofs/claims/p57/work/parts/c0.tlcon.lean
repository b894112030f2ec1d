/-! ===== contracts with more: what a hand says of an end; rooms by the heaps themselves ===== -/
def tl_tot (H : Heap) : Nat := H.foldl (fun n c => n + c.slots.size) 0
/-- so many new cells, so many new slots at the most -/
def tl_rm (H H' : Heap) (c n : Nat) : Prop := H'.size ≤ H.size + c ∧ tl_tot H' ≤ tl_tot H + n
section TA
variable {p : Program} {l : Launch} {e : Env} {R : Room} {s : State} {m : MethodId} {args : Array Value} {below : List Frame} {meth : Method} {c : Code} {Q : State → Prop} {T : State} {H : Heap} {locs : List Loc} {cells slots : Nat} {g : JFrame}
theorem tl_book (X : Stand p l e R s m args below meth c T locs cells slots) : T.slotsUsed = tl_tot T.heap ∧ s.slotsUsed = tl_tot s.heap := by
  have h1 := X.book
  have h0 : s.slotsTrue = true := by
    have h := X.room
    simp only [State.hasRoom, Bool.and_eq_true] at h
    exact h.2
  unfold State.slotsTrue at h0 h1
  exact ⟨eq_of_beq h1, eq_of_beq h0⟩
theorem tl_room (X : Stand p l e R s m args below meth c T locs cells slots) : tl_rm s.heap T.heap cells slots := by
  obtain ⟨h1, h2⟩ := tl_book X
  have h3 := X.used
  exact ⟨X.heapSize, by omega⟩
theorem tl_W.with (h : tl_rm s.heap H cells slots → W p l e R s m args below meth c H locs cells slots Q g) : W p l e R s m args below meth c H locs cells slots Q g := fun T hT X => h (hT ▸ tl_room X) T hT X
theorem tl_W.tight {c' n' : Nat} (hr : tl_rm s.heap H c' n') (k : W p l e R s m args below meth c H locs c' n' Q g) : W p l e R s m args below meth c H locs cells slots Q g := fun T hT X => by
  obtain ⟨h1, h2⟩ := tl_book X
  obtain ⟨s1, s2, s3, s4, s5, s6⟩ := X.same
  have s4' : T.slotsUsed = s.slotsUsed + ((T.heap.toList.drop s.heap.size).map (·.slots.size)).sum := s4
  have hT2 : tl_tot T.heap = tl_tot H := by rw [hT]
  obtain ⟨r1, r2⟩ := hr
  refine k T hT { X with same := ⟨s1, s2, ?_, s4, ?_, s6⟩ }
  · show T.heap.size ≤ _
    rw [hT]
    exact r1
  · show ((T.heap.toList.drop s.heap.size).map (·.slots.size)).sum ≤ n'
    omega
end TA
theorem tl_rm.tr {H0 H1 H2 : Heap} {a b c d : Nat} (h1 : tl_rm H0 H1 a b) (h2 : tl_rm H1 H2 c d) : tl_rm H0 H2 (a + c) (b + d) := by
  obtain ⟨x1, x2⟩ := h1
  obtain ⟨y1, y2⟩ := h2
  exact ⟨by omega, by omega⟩
theorem tl_rm.mono {H0 H1 : Heap} {a b c d : Nat} (h1 : tl_rm H0 H1 a b) (h2 : a ≤ c) (h3 : b ≤ d) : tl_rm H0 H1 c d := by
  obtain ⟨x1, x2⟩ := h1
  exact ⟨by omega, by omega⟩
/-- how a method ends, and what a hand says of the end -/
def tl_Qc (T : tk_T) (D : va_G) (cl : List vw_C) (A : Nat → Prop) (k : tk_K) (ρ : Nat → Int) (B : tk_B) (ws : va_W) (Z : tk_A → tk_B → va_W → Heap → Heap → Prop) : Array Value → State → Outcome → State → Prop := fun _ st oc t => ∃ w ∈ k.2.2.2.2.1, ∃ (ρ' : Nat → Int) (B' : tk_B) (ws' : va_W) (tys' : List (ClassId × FieldType)) (v : Option Value), oc = .returned v ∧ tk_stk ρ' B' (tk_pS T k w).2.1.length w.2.2.1 v.toList ∧ tk_env ρ' (tk_pS T k w).2.1 ∧ (0 < (tk_pS T k w).2.1.length ∧ ρ' 0 = 0) ∧ tk_ag (tk_E0 k).length ρ (tk_pS T k w).2.1.length ρ' ∧ tk_mem ρ' B' (tk_pS T k w).2.1.length ws' w.2.2.2.1 ∧ va_K D cl tys' t ∧ va_P D cl ws' t.heap ∧ va_D A ws' ∧ tk_C (tk_TKT T) tys' B' ws' ∧ tk_fr k.2.2.2.2.2 B ws ws' ∧ tk_le B B' ∧ B'.2.2.length ≤ B.2.2.length + (tk_Tmi T k.1).2.2.1 ∧ va_F A st t ∧ Z w B' ws' st.heap t.heap
/-- what such a contract says: P of the start, Z of the end -/
def tl_Con (T : tk_T) (U : kc_U) (Ts : List Jvm.Cond) (NWs : List (String × Nat × MethodName × String)) (TXs : List (String × Nat × String × Nat)) (St : (Nat → Nat) → State → Heap → Prop) (l : Launch) (D : va_G) (cl : List vw_C) (A : Nat → Prop) (k : tk_K) (P : (Nat → Int) → tk_B → va_W → Prop) (Z : (Nat → Int) → tk_B → va_W → tk_A → tk_B → va_W → Heap → Heap → Prop) : Prop :=
  ∀ (ρ : Nat → Int) (B : tk_B) (ws : va_W) (tys : List (ClassId × FieldType)) (H : Heap) (vs : List Value), tk_env ρ (tk_E0 k) → ρ 0 = 0 → tk_stk ρ B (tk_E0 k).length k.2.2.1 vs → tk_mem ρ B (tk_E0 k).length ws k.2.2.2.1 → va_P D cl ws H → va_D A ws → tk_C (tk_TKT T) tys B ws → (∀ q, H.size ≤ q → A q) → B.2.2.length + (tk_Tmi T k.1).2.2.1 ≤ 1000000000 → P ρ B ws →
    Met l (U.2.1 k.1) (tk_ws_ T U Ts k.1) (tk_rm T k.1) (tk_Pc NWs TXs St D cl B.2.1 vs H tys) (tl_Qc T D cl A k ρ B ws (Z ρ B ws)) (tk_Tmi T k.1).2.2.1 (tk_Tmi T k.1).2.2.2.1 A
section TL
variable {T : tk_T} {U : kc_U} {Ts : List Jvm.Cond} {NWs : List (String × Nat × MethodName × String)} {TXs : List (String × Nat × String × Nat)} {St : (Nat → Nat) → State → Heap → Prop} {y : Nat}
variable {p : Program} {l : Launch} {e : Env} {R : Room} {s : State} {m : MethodId} {args : Array Value} {below : List Frame} {meth : Method} {c : Code} {Q : State → Prop}
variable {D : va_G} {cl : List vw_C} {A : Nat → Prop} {H0 : Heap} {F : List (Nat × Nat × Nat)} {B0 : tk_B} {ws0 : va_W}
variable {nA : Nat} {ρ0 : Nat → Int}
set_option maxHeartbeats 4000000 in
/-- a return, as such a contract wants it -/
theorem tl_ret {k : tk_K} {o : Nat × tk_S} {w : tk_A} {xs : List tk_Lx} {Z : tk_A → tk_B → va_W → Heap → Heap → Prop} (hV : tk_TV T U cl Ts TXs) (hM : tk_MV T U Ts k.1) (hX : tk_Cx T U Ts NWs TXs St k.1 p R s m args meth c A H0 B0 (tk_E0 k).length ρ0) (hr : meth.sig.returnType = U.2.2.2 k.1) (hlocks : meth.locks = false) (hH : H0 = s.heap) (hR : tk_Ret T k.1 o)
    {ρ : Nat → Int} {B : tk_B} {ws : va_W} {tys : List (ClassId × FieldType)} {H : Heap} {locs : List Loc} {ls : Array Slot} {lv : List (Nat × Value)} {st : List Value} (hk : tk_ok D cl A s H0 (tk_TKT T) k.2.2.2.2.2 B0 ws0 (tk_Tmi T k.1).1 o.2 ρ B ws tys H locs ls lv st) (hg : tk_ag (tk_E0 k).length ρ0 o.2.1.length ρ) (hE0 : tk_env ρ0 (tk_E0 k)) (hw : w ∈ k.2.2.2.2.1) (hxs : tk_wi (tk_E0 k).length (tk_Tmi T k.1).2.2.1 (tk_Tmi T k.1).2.2.2.1 w (o.2.1, [], o.2.2.2.1, o.2.2.2.2.1, (tk_Tmi T k.1).2.2.1, (tk_Tmi T k.1).2.2.2.1) = some xs) (hz : tl_rm s.heap H o.2.2.2.2.2.1 o.2.2.2.2.2.2 → Z w B ws s.heap H) :
    W p l e R s m args below meth c H locs o.2.2.2.2.2.1 o.2.2.2.2.2.2 (MQ below (tl_Qc T D cl A k ρ0 B0 ws0 Z) args s (tk_Tmi T k.1).2.2.1 (tk_Tmi T k.1).2.2.2.1 A) (F0 m o.1 ls st) := by
  refine tl_W.with (fun hrm => ?_)
  have hzz := hz hrm
  obtain ⟨i, n, hc, hk1⟩ := hR
  have hd := hV.1 _ _ _ _ hc
  obtain ⟨-, -, -, -, -, m0, m1, m2, m3, m4, m5⟩ := hM
  obtain ⟨hE, h0, hL, hl, hst, hMm, hK, hPw, hD, hS, hC, hFr, hLe, hBl⟩ := id hk
  unfold tk_rok at hk1
  simp only [Bool.and_eq_true] at hk1
  obtain ⟨⟨⟨k1, k2⟩, k2'⟩, k3⟩ := hk1
  have k1 := tk_bq k1
  subst k1
  have k2 := Nat.le_of_ble_eq_true k2
  have k2' := Nat.le_of_ble_eq_true k2'
  have fin : ∀ v : Option Value, tk_stk ρ B o.2.1.length o.2.2.2.1 v.toList → ∀ t : State, t.heap = H → s.WarmedH t.vm → tl_Qc T D cl A k ρ0 B0 ws0 Z args s (.returned v) t := fun v hv t ht hW => by
    have hk1 : tk_ok D cl A t t.heap (tk_TKT T) k.2.2.2.2.2 B0 ws0 0 (o.2.1, [], o.2.2.2.1, o.2.2.2.2.1, (tk_Tmi T k.1).2.2.1, (tk_Tmi T k.1).2.2.2.1) ρ B ws tys t.heap [] _ (lv_args 0 []) v.toList := ⟨hE, h0, fun i a h => by simp at h, lv_entry [] (n := 0) (Nat.le_refl _), hv, hMm, hK.moved hW.alike, by rw [ht]; exact hPw, hD, va_S.rf, hC, hFr, hLe, by dsimp only; omega⟩
    obtain ⟨g1, -, g7⟩ := tk_wi.ok (E0 := tk_E0 k) hxs (Nat.zero_lt_succ _) rfl hk1 (fun j hj => by
      rw [hg.2 j hj]
      exact (hE0 j).ext (fun i hi => hg.2 i (by omega)))
    obtain ⟨y1, y2, -, -, y3, y4, y5, y6, y7, -, y8, y9, y10, y11⟩ := g1
    exact ⟨w, hw, tk_rw (tk_E0 k).length xs ρ, B, ws, tys, v, rfl, y3, y1, y2, ⟨by show _ ≤ (tk_E0 k ++ w.1).length; rw [List.length_append]; omega, fun j hj => by rw [tk_rw.lt hj]; exact hg.2 j hj⟩, y4, y5, y6, y7, y8, y9, y10, y11, va_S.F (by rw [← hH]; exact hS) ht, by rw [ht]; exact hzz⟩
  refine W.widen k2 k2' ?_
  split at k3
  · rename_i a hKK
    rw [hKK] at hst fin
    obtain ⟨v, st', rfl, hlt, ⟨x, rfl, ex⟩, hst'⟩ := tk_stk.uncons hst
    cases st' with
    | cons _ _ => exact absurd hst' id
    | nil =>
      rw [Bool.or_eq_true, Bool.or_eq_true] at k3
      rcases k3 with (k3 | k3) | k3
      · exact W.iret hX.1 hX.2.1 (hr.trans (m1 (tk_bq k3))) (fin (some (.int x)) ⟨hlt, ⟨x, rfl, ex⟩, trivial⟩) hS.2.2 hd hlocks
      · rw [Bool.and_eq_true] at k3
        have hb := of_decide_eq_true k3.2
        have he := hE.at a
        dsimp only at ex
        exact W.zret hX.1 hX.2.1 (hr.trans (m4 (tk_bq k3.1))) (kc_nz01 (by omega) (by omega)) (fin (some (.int x)) ⟨hlt, ⟨x, rfl, ex⟩, trivial⟩) hS.2.2 hd hlocks
      · rw [Bool.and_eq_true] at k3
        have hb := of_decide_eq_true k3.2
        have he := hE.at a
        dsimp only at ex
        exact W.zret hX.1 hX.2.1 (hr.trans (m5 (tk_bq k3.1))) (tk_nzc (by omega) (by omega)) (fin (some (.int x)) ⟨hlt, ⟨x, rfl, ex⟩, trivial⟩) hS.2.2 hd hlocks
  · rename_i hKK
    rw [hKK] at hst fin
    obtain ⟨v, st', rfl, hlt, ⟨x, rfl, ex⟩, hst'⟩ := tk_stk.uncons hst
    cases st' with
    | cons _ _ => exact absurd hst' id
    | nil => exact W.lret hX.1 hX.2.1 (hr.trans (m2 (tk_bq k3))) (fin (some (.long x)) ⟨hlt, ⟨x, rfl, ex⟩, trivial⟩) hS.2.2 hd hlocks
  · rename_i t a hKK
    rw [hKK] at hst fin
    rw [Bool.and_eq_true] at k3
    have ht := Nat.le_of_ble_eq_true k3.2
    obtain ⟨v, st', rfl, hlt, hv, hst'⟩ := tk_stk.uncons hst
    cases st' with
    | cons _ _ => exact absurd hst' id
    | nil =>
      obtain ⟨rt, hrt, hrt2⟩ := m3 (tk_bq k3.1)
      refine W.aret hX.1 hX.2.1 (hr.trans hrt) hrt2 ?_ (fin (some v) ⟨hlt, hv, trivial⟩) hS.2.2 hd hlocks
      rcases (tk_vn.ref ht).mp hv with ⟨rfl, -⟩ | ⟨j, ad, rfl, -⟩
      · exact Or.inl rfl
      · exact Or.inr ⟨_, rfl⟩
  · rename_i hKK
    rw [hKK] at hst fin
    cases st with
    | cons _ _ => exact absurd hst id
    | nil => exact W.vret hX.1 hX.2.1 (hr.trans (m0 (tk_bq k3))) (fin none trivial) hS.2.2 hd hlocks
  · cases k3
end TL
section TM
variable {T : tk_T} {U : kc_U} {Ts : List Jvm.Cond} {NWs : List (String × Nat × MethodName × String)} {TXs : List (String × Nat × String × Nat)} {St : (Nat → Nat) → State → Heap → Prop} {y : Nat}
variable {p : Program} {l : Launch} {e : Env} {R : Room} {s : State} {m : MethodId} {args : Array Value} {below : List Frame} {meth : Method} {c : Code} {Q : State → Prop}
variable {D : va_G} {cl : List vw_C} {A : Nat → Prop} {H0 : Heap} {F : List (Nat × Nat × Nat)} {B0 : tk_B} {ws0 : va_W}
variable {nA : Nat} {ρ0 : Nat → Int}
set_option maxHeartbeats 4000000 in
/-- such a contract out of a walk by hand -/
theorem tl_met {k : tk_K} {P : (Nat → Int) → tk_B → va_W → Prop} {Z : (Nat → Int) → tk_B → va_W → tk_A → tk_B → va_W → Heap → Heap → Prop} (hV : tk_TV T U cl Ts TXs) (hM : tk_MV T U Ts k.1) (hy0 : k.1 ≠ 0) (hlen : (tk_loc0 k.2.2.1).length ≤ (tk_Tmi T k.1).1)
    (hrun : ∀ (ρ : Nat → Int) (B : tk_B) (ws : va_W) (tys : List (ClassId × FieldType)) (H : Heap) (p : Program) (e : Env) (s : State) (m : MethodId) (args : Array Value) (below : List Frame) (meth : Method) (c : Code) (ls : Array Slot) (lv : List (Nat × Value)), tk_env ρ (tk_E0 k) → P ρ B ws → tk_Cx T U Ts NWs TXs St k.1 p (tk_rm T k.1) s m args meth c A H B (tk_E0 k).length ρ → meth.sig.returnType = U.2.2.2 k.1 → meth.locks = false → H = s.heap → tk_ok D cl A s H (tk_TKT T) k.2.2.2.2.2 B ws (tk_Tmi T k.1).1 (tk_E0 k, tk_lc (tk_Tmi T k.1).1 k.2.2.1, [], k.2.2.2.1, 0, 0) ρ B ws tys H [] ls lv [] → W p l e (tk_rm T k.1) s m args below meth c H [] 0 0 (MQ below (tl_Qc T D cl A k ρ B ws (Z ρ B ws)) args s (tk_Tmi T k.1).2.2.1 (tk_Tmi T k.1).2.2.2.1 A) (F0 m 0 ls [])) : tl_Con T U Ts NWs TXs St l D cl A k P Z := by
  intro ρ B ws tys H vs hE h0 has hMm hP hD hC hA hcap hPP
  obtain ⟨m1, m2, m3, m4, m5, m7⟩ := id hM
  refine tk_ofW (cc := U.2.2.1 k.1) (maxL := (tk_Tmi T k.1).1) (ret := U.2.2.2 k.1) m3 rfl ?_
  intro p e s m args below meth c s₁ Bd hml hv
  obtain ⟨rfl, hH, hdx, hK⟩ := hv
  have hts : ∀ w ∈ Ts, w.before vs.toArray s = true := fun w hw => atoms_spec (ws := tk_ws_ T U Ts k.1) Bd.pre w (List.mem_cons_of_mem _ hw)
  have Cx : tk_Cx T U Ts NWs TXs St k.1 p (tk_rm T k.1) s m vs.toArray meth c A H B (tk_E0 k).length ρ := ⟨Bd.exec, Bd.bytes, hml, by rw [m5]; exact findClass_of_methodNamed Bd.named, hts, hdx, hA, ⟨Nat.le_refl _, Nat.le_refl _, Nat.le_refl _, Nat.le_refl _⟩, hcap, fun q => absurd q hy0⟩
  obtain ⟨g1, -⟩ := tk_loc0.ok 0 has
  have hl := lv_entry vs (n := (tk_Tmi T k.1).1) (by rw [g1]; exact hlen)
  rw [lg_entry_eq]
  have hfr : tk_fr k.2.2.2.2.2 B ws ws := fun j a κ hj => by
    obtain ⟨e0, g2, -⟩ := hC.2 j a κ hj
    exact ⟨e0, e0, g2, g2, fun _ _ => rfl⟩
  have h9 := hrun ρ B ws tys H p e s m vs.toArray below meth c _ (lv_args 0 vs) hE hPP Cx Bd.returns Bd.notSynchronized hH.symm ⟨hE, ⟨Nat.zero_lt_succ _, h0⟩, tk_lc.ok has, hl, trivial, hMm, hK, hP, hD, va_S.rf, hC, hfr, tk_le.rf B, by dsimp only; omega⟩
  rw [← hH] at h9
  exact h9
end TM
section TN
variable {T : tk_T} {U : kc_U} {Ts : List Jvm.Cond} {NWs : List (String × Nat × MethodName × String)} {TXs : List (String × Nat × String × Nat)} {St : (Nat → Nat) → State → Heap → Prop} {y : Nat}
variable {p : Program} {l : Launch} {e : Env} {R : Room} {s : State} {m : MethodId} {args : Array Value} {below : List Frame} {meth : Method} {c : Code} {Q : State → Prop}
variable {D : va_G} {cl : List vw_C} {A : Nat → Prop} {H0 : Heap} {F F' : List (Nat × Nat × Nat)} {B0 : tk_B} {ws0 : va_W}
variable {nA : Nat} {ρ0 : Nat → Int}
/-- behind a call by such a contract -/
theorem tl_after {k : tk_K} {cs ss mc ms pc : Nat} {X : Array Value} {ρ1 : Nat → Int} {B : tk_B} {ws : va_W} {H : Heap} {locs : List Loc} {ls : Array Slot} {st rest : List Value} {Z : tk_A → tk_B → va_W → Heap → Heap → Prop}
    (hr : va_Run p l e R s m args below meth c H locs cs ss mc ms (F0 m pc ls st) rest (tl_Qc T D cl A k ρ1 B ws Z X) A) (hS : va_S A H0 H locs)
    (kk : ∀ w ∈ k.2.2.2.2.1, ∀ (ρ' : Nat → Int) (B' : tk_B) (ws' : va_W) (tys' : List (ClassId × FieldType)) (v : Option Value) (H' : Heap) (locs' : List Loc), tk_stk ρ' B' (tk_pS T k w).2.1.length w.2.2.1 v.toList → tk_env ρ' (tk_pS T k w).2.1 → (0 < (tk_pS T k w).2.1.length ∧ ρ' 0 = 0) → tk_ag (tk_E0 k).length ρ1 (tk_pS T k w).2.1.length ρ' → tk_mem ρ' B' (tk_pS T k w).2.1.length ws' w.2.2.2.1 → va_K D cl tys' s → va_P D cl ws' H' → va_D A ws' → va_S A H0 H' locs' → tk_C (tk_TKT T) tys' B' ws' → tk_fr k.2.2.2.2.2 B ws ws' → tk_le B B' → B'.2.2.length ≤ B.2.2.length + (tk_Tmi T k.1).2.2.1 → Z w B' ws' H H' → W p l e R s m args below meth c H' locs' (cs + mc) (ss + ms) Q (F0 m (pc + 3) ls (v.toList ++ rest))) : W p l e R s m args below meth c H locs cs ss Q (F0 m pc ls st) := by
  intro TT hT XX
  obtain ⟨v, st₀, t, T', L', h0, X', hL', e1, e2, ⟨w, hw, ρ', B', ws', tys', v', hv, q1, q2, q3, q4, q5, q6, q7, q8, q9, q10, q11, q12, q13, q14⟩, stp⟩ := hr TT hT XX
  cases hv
  obtain ⟨f1, f2⟩ := q13
  rw [h0] at f1 f2 q14
  have hKs : va_K D cl tys' s := q6.moved (by rw [← e2]; exact X'.warmed.alike.symm)
  obtain ⟨t2, a1, b1⟩ := kk w hw ρ' B' ws' tys' v T'.heap (locs ++ L') q1 q2 q3 q4 q5 hKs (by rw [e1]; exact q7) q8 ⟨by rw [e1]; exact Nat.le_trans hS.1 f1, fun q h1 h2 => by rw [e1, f2 q (Nat.lt_of_lt_of_le h1 hS.1) h2]; exact hS.2.1 q h1 h2, fun q hq => by
      rcases List.mem_append.mp hq with h | h
      · exact hS.2.2 q h
      · exact hL' q h⟩ q9 q10 q11 q12 (by rw [e1]; exact q14) T' rfl X'
  exact ⟨t2, stp t2 a1, b1⟩
set_option maxHeartbeats 8000000 in
/-- a call by such a contract -/
theorem tl_app {sc nt : Nat} {i : Instr} {n pc : Nat} {S : tk_S} {k : tk_K} {as K' : List tk_V} {xs : List tk_Lx} (hV : tk_TV T U cl Ts TXs) (hLV : tk_LV T U Ts NWs) (hG : GoodIn Ts Ts) (hSc : tk_Sc A St) (hTx : ∀ (s : State) (H : Heap) (ad : Nat → Nat), tk_Dx NWs TXs St ad s H → ∀ k, k < nt → ∃ cell : Cell, H[ad k]? = some cell ∧ cell.vm.isStatics = false ∧ s.vm.findClass (U.1 sc) = some cell.cls)
    (hX : tk_Cx T U Ts NWs TXs St y p R s m args meth c A H0 B0 nA ρ0) (hc : tk_Tcd T y pc = some (i, n)) (h : tk_cal T sc nt y i n S = some (k.1, as, K')) {P : (Nat → Int) → tk_B → va_W → Prop} {Z : (Nat → Int) → tk_B → va_W → tk_A → tk_B → va_W → Heap → Heap → Prop} (hcon : tl_Con T U Ts NWs TXs St l D cl A k P Z) (hF : k.2.2.2.2.2.all (fun q => tk_iG F q.1 q.2.1 q.2.2) = true) (hxs : tk_wi 1 S.2.2.2.2.1 S.2.2.2.2.2 (k.2.1, [], k.2.2.1, k.2.2.2.1, (0, 0), true) (S.1, [], as, S.2.2.2.1, S.2.2.2.2.1, S.2.2.2.2.2) = some xs)
    {ρ : Nat → Int} {B : tk_B} {ws : va_W} {tys : List (ClassId × FieldType)} {H : Heap} {locs : List Loc} {ls : Array Slot} {lv : List (Nat × Value)} {st : List Value} (hk : tk_ok D cl A s H0 (tk_TKT T) F B0 ws0 (tk_Tmi T y).1 S ρ B ws tys H locs ls lv st) (hg : tk_ag nA ρ0 S.1.length ρ) (hPP : P (tk_rw 1 xs ρ) B ws)
    (kk : ∀ w ∈ k.2.2.2.2.1, ∃ r : tk_S, tk_ap1 T k xs K' S w = some r ∧ ∀ (ρ' : Nat → Int) (B' : tk_B) (ws' : va_W) (tys' : List (ClassId × FieldType)) (H' : Heap) (locs' : List Loc) (st' : List Value), tk_ok D cl A s H0 (tk_TKT T) F B0 ws0 (tk_Tmi T y).1 r ρ' B' ws' tys' H' locs' ls lv st' → tk_ag nA ρ0 r.1.length ρ' → tk_ag S.1.length ρ r.1.length ρ' → tk_fr k.2.2.2.2.2 B ws ws' → tk_le B B' → Z (tk_rw 1 xs ρ) B ws w B' ws' H H' → W p l e R s m args below meth c H' locs' r.2.2.2.2.1 r.2.2.2.2.2 Q (F0 m (pc + 3) ls st')) : W p l e R s m args below meth c H locs S.2.2.2.2.1 S.2.2.2.2.2 Q (F0 m pc ls st) := by
  obtain ⟨hE, h0, hL, hl, hst, hMm, hK, hPw, hD, hS, hC, hFr, hLe, hBl⟩ := id hk
  have hcap := hX.2.2.2.2.2.2.2.2.1
  have hA := hX.2.2.2.2.2.2.1
  refine tk_cal.ok hV hLV hG hSc hTx hX hc h hk (fun vs rest q1 q2 c6 c2 hy0 hM => ?_)
  have hk1 : tk_ok D cl A s H0 (tk_TKT T) F B0 ws0 (tk_Tmi T y).1 (S.1, [], as, S.2.2.2.1, S.2.2.2.2.1, S.2.2.2.2.2) ρ B ws tys H locs ls lv vs := ⟨hE, h0, fun i a h => by simp at h, hl, q1, hMm, hK, hPw, hD, hS, hC, hFr, hLe, hBl⟩
  obtain ⟨w1, w2, w3⟩ := tk_wi.ok (E0 := [(0, 0, 0, 0, 0, 0)]) hxs (by decide) rfl hk1 (fun j hj => by
    have : j = 0 := by omega
    subst this
    rw [h0.2]
    exact tk_dv.bare (Int.le_refl _) (Int.le_refl _))
  obtain ⟨wE, wz, -, -, wst, wM, -⟩ := w1
  have wE : tk_env (tk_rw 1 xs ρ) (tk_E0 k) := wE
  refine ⟨_, hcon (tk_rw 1 xs ρ) B ws tys H vs wE wz.2 wst wM hPw hD hC (fun q hq => hA q (Nat.le_trans hS.1 hq)) (by omega) hPP, fun X hr => tl_after hr hS (fun w hw ρ' B' ws' tys' v H' locs' g1 g2 g3 g4 g5 g6 g7 g8 g9 g10 g11 g12 g13 g14 => ?_)⟩
  obtain ⟨r, hr2, kr⟩ := kk w hw
  unfold tk_ap1 at hr2
  split at hr2
  · rename_i E' Kp Mp e1 e2 e3
    cases hr2
    have hag : ∀ j, j < (tk_E0 k).length → ρ' j = tk_rw 1 xs ρ j := g4.2
    obtain ⟨r1, r2⟩ := tk_rE.ok (ρ := ρ) hag e1
    have hol : ((tk_pS T k w).2.1).length = (tk_E0 k).length + w.1.length := by
      show (tk_E0 k ++ w.1).length = _
      rw [List.length_append]
    have hpre : ∀ j, j < S.1.length → tk_r2 (tk_E0 k).length S.1.length ρ ρ' j = ρ j := fun j hj => if_pos hj
    have hlen : (S.1 ++ E').length = S.1.length + w.1.length := by rw [List.length_append, r1]
    rw [hol] at g1 g5
    refine kr (tk_r2 (tk_E0 k).length S.1.length ρ ρ') B' ws' tys' H' locs' (v.toList ++ rest) ⟨fun j => ?_, ⟨by dsimp only; rw [hlen]; have := h0.1; omega, by rw [hpre 0 h0.1]; exact h0.2⟩, hL.ext hpre g12 (by dsimp only; rw [hlen]; omega), hl, ?_, ?_, g6, g7, g8, g9, g10, ?_, hLe.tr g12, by dsimp only; omega⟩ ⟨by dsimp only; rw [hlen]; have := hg.1; omega, fun j hj => by rw [hpre j (Nat.lt_of_lt_of_le hj hg.1)]; exact hg.2 j hj⟩ ⟨by dsimp only; rw [hlen]; omega, fun j hj => hpre j hj⟩ g11 g12 g14
    · dsimp only
      by_cases q : j < S.1.length
      · rw [tk_at.app q, hpre j q]
        exact (hE j).ext (fun i hi => hpre i (by omega))
      · by_cases q3 : j < S.1.length + w.1.length
        · have h3 : w.1[j - S.1.length]? = some w.1[j - S.1.length] := List.getElem?_eq_getElem (by omega)
          have h4 : E'[j - S.1.length]? = some E'[j - S.1.length] := List.getElem?_eq_getElem (by omega)
          have h5 := g2 ((tk_E0 k).length + (j - S.1.length))
          have h6 : tk_at (tk_pS T k w).2.1 ((tk_E0 k).length + (j - S.1.length)) = w.1[j - S.1.length] := by
            show tk_at (tk_E0 k ++ w.1) _ = _
            unfold tk_at
            rw [List.getD_eq_getElem?_getD, List.getElem?_append_right (by omega), Nat.add_sub_cancel_left, h3]
            rfl
          rw [h6] at h5
          have h7 := r2 (j - S.1.length) _ _ _ h3 h4 (by rw [Nat.zero_add]; exact h5)
          rw [Nat.zero_add, show S.1.length + (j - S.1.length) = j by omega] at h7
          have h8 : tk_at (S.1 ++ E') j = E'[j - S.1.length] := by
            unfold tk_at
            rw [List.getD_eq_getElem?_getD, List.getElem?_append_right (by omega), h4]
            rfl
          rw [h8]
          have h9 : tk_r2 (tk_E0 k).length S.1.length ρ ρ' j = ρ' ((tk_E0 k).length + (j - S.1.length)) := if_neg q
          rw [h9]
          exact h7
        · rw [tk_at.out (by rw [hlen]; omega)]
          have h5 := g2 ((tk_E0 k).length + (j - S.1.length))
          rw [tk_at.out (by rw [hol]; omega)] at h5
          have h9 : tk_r2 (tk_E0 k).length S.1.length ρ ρ' j = ρ' ((tk_E0 k).length + (j - S.1.length)) := if_neg q
          rw [h9]
          exact tk_dv.bare h5.1 h5.2.1
    · dsimp only
      rw [hlen]
      exact tk_stk.app (tk_rK.ok hag e2 g1) (tk_stk.ext hpre g12 (by omega) q2)
    · dsimp only
      rw [hlen]
      have m1 := tk_rM.ok (ρ := ρ) hag e3 g5
      intro f hf
      rcases List.mem_append.mp hf with hf | hf
      · exact m1 f hf
      · obtain ⟨f1, f2⟩ := List.mem_filter.mp hf
        obtain ⟨⟨a1, a2, a3⟩, a4⟩ := hMm f f1
        refine ⟨⟨by omega, by omega, by omega⟩, ?_⟩
        rw [hpre _ a1, hpre _ a2, hpre _ a3]
        obtain ⟨j9, a9, e9, w9, b1, b2, b3, b4, b5, b6, b7⟩ := id a4
        exact a4.fr g11 g12 (tk_ef.ok hE f2 rfl b5 b1)
    · exact hFr.tr g11 hLe (fun κ i hi => by
        obtain ⟨q, y1, y2⟩ := List.any_eq_true.mp hi
        simp only [Bool.and_eq_true] at y2
        have y3 := List.all_eq_true.mp hF q y1
        rw [tk_bq y2.1.1] at y3
        exact tk_iG.ok y3 (Nat.le_of_ble_eq_true y2.1.2) (Nat.le_of_ble_eq_true y2.2))
  · cases hr2
end TN
/-- a contract by a run, with rooms of its own at each end -/
def tl_ck (T : tk_T) (sc nt : Nat) (Ks : Nat → Option tk_K) (nw : Nat → Nat × Nat × Nat × Nat) (f : Nat) (tp : List tk_I) (k : tk_K) : Bool := Nat.ble (tk_loc0 k.2.2.1).length (tk_Tmi T k.1).1 && !(Nat.beq k.1 0) && (match tk_run T k.2.2.2.2.2 sc nt Ks nw f k.1 [] tp [(0, tk_E0 k, tk_lc (tk_Tmi T k.1).1 k.2.2.1, [], k.2.2.2.1, 0, 0)] [] with
  | some z => z.1.all (fun o => k.2.2.2.2.1.any (fun w => (tk_wi (tk_E0 k).length (tk_Tmi T k.1).2.2.1 (tk_Tmi T k.1).2.2.2.1 w (o.2.1, [], o.2.2.2.1, o.2.2.2.2.1, (tk_Tmi T k.1).2.2.1, (tk_Tmi T k.1).2.2.2.1)).isSome && Nat.ble o.2.2.2.2.2.1 w.2.2.2.2.1.1 && Nat.ble o.2.2.2.2.2.2 w.2.2.2.2.1.2.toNat))
  | none => false)
section TX
variable {T : tk_T} {U : kc_U} {Ts : List Jvm.Cond} {NWs : List (String × Nat × MethodName × String)} {TXs : List (String × Nat × String × Nat)} {St : (Nat → Nat) → State → Heap → Prop} {sc nt : Nat} {Ks : Nat → Option tk_K} {nw : Nat → Nat × Nat × Nat × Nat}
variable {l : Launch} {D : va_G} {cl : List vw_C} {A : Nat → Prop}
set_option maxHeartbeats 8000000 in
theorem tl_ck.ok {f : Nat} {tp : List tk_I} {k : tk_K} (hV : tk_TV T U cl Ts TXs) (hLV : tk_LV T U Ts NWs) (hG : GoodIn Ts Ts) (hSc : tk_Sc A St) (hTx : ∀ (s : State) (H : Heap) (ad : Nat → Nat), tk_Dx NWs TXs St ad s H → ∀ k, k < nt → ∃ cell : Cell, H[ad k]? = some cell ∧ cell.vm.isStatics = false ∧ s.vm.findClass (U.1 sc) = some cell.cls) (hKs : ∀ (id : Nat) (k : tk_K), Ks id = some k → tk_Con T U Ts NWs TXs St l D cl A k) (hNV : tk_NV T U Ts NWs TXs St l D cl A nw) (hM : tk_MV T U Ts k.1) (h : tl_ck T sc nt Ks nw f tp k = true) : tl_Con T U Ts NWs TXs St l D cl A k (fun _ _ _ => True) (fun _ _ _ w _ _ H H' => tl_rm H H' w.2.2.2.2.1.1 w.2.2.2.2.1.2.toNat) := by
  unfold tl_ck at h
  rw [Bool.and_eq_true, Bool.and_eq_true] at h
  obtain ⟨⟨h1, h2⟩, h3⟩ := h
  have h1 := Nat.le_of_ble_eq_true h1
  have hy0 : k.1 ≠ 0 := fun q => by rw [q] at h2; cases h2
  split at h3
  · rename_i z hz
    have h3 := List.all_eq_true.mp h3
    refine tl_met hV hM hy0 h1 (fun ρ B ws tys H p e s m args below meth c ls lv hE _ hX hr hlocks hH hk => ?_)
    refine (tk_run.ok hV hLV hG hSc hTx hKs hNV f k.1 [] tp z.2 _ [] z.1 hz p e (tk_rm T k.1) s m args below meth c _ H B ws _ ρ hX (fun o ho => ?_)).1 _ List.mem_cons_self ρ B ws tys H [] ls lv [] hk ⟨Nat.le_refl _, fun _ _ => rfl⟩
    intro ρ' B' ws' tys' H' locs' ls' lv' st' hk' hg'
    have hret : tk_Ret T k.1 o := by
      rcases tk_run.outs f k.1 [] tp z.2 _ [] z.1 hz (fun o h => by cases h) o ho with q | q
      · cases q
      · exact q
    obtain ⟨w, hw, hx⟩ := List.any_eq_true.mp (h3 o ho)
    rw [Bool.and_eq_true, Bool.and_eq_true] at hx
    obtain ⟨⟨hx1, hx2⟩, hx3⟩ := hx
    obtain ⟨xs, hxs⟩ := Option.isSome_iff_exists.mp hx1
    exact tl_ret hV hM hX hr hlocks hH hret hk' hg' hE hw hxs (fun hrm => hrm.mono (Nat.le_of_ble_eq_true hx2) (Nat.le_of_ble_eq_true hx3))
  · cases h3
end TX
