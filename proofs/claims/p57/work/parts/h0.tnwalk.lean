/-! ===== contracts with a hand's words on what a call answers ===== -/
/-- how a method ends, and what a hand says of the end -/
def tn_Qc (T : tk_T) (D : va_G) (cl : List vw_C) (A : Nat → Prop) (k : tk_K) (ρ : Nat → Int) (B : tk_B) (ws : va_W) (Z : (Nat → Int) → tk_A → tk_B → va_W → Heap → Heap → Prop) : Array Value → State → Outcome → State → Prop := fun _ st oc t => ∃ w ∈ k.2.2.2.2.1, ∃ (ρ' : Nat → Int) (B' : tk_B) (ws' : va_W) (tys' : List (ClassId × FieldType)) (v : Option Value), oc = .returned v ∧ tk_stk ρ' B' (tk_pS T k w).2.1.length w.2.2.1 v.toList ∧ tk_env ρ' (tk_pS T k w).2.1 ∧ (0 < (tk_pS T k w).2.1.length ∧ ρ' 0 = 0) ∧ tk_ag (tk_E0 k).length ρ (tk_pS T k w).2.1.length ρ' ∧ tk_mem ρ' B' (tk_pS T k w).2.1.length ws' w.2.2.2.1 ∧ va_K D cl tys' t ∧ va_P D cl ws' t.heap ∧ va_D A ws' ∧ tk_C (tk_TKT T) tys' B' ws' ∧ tk_fr k.2.2.2.2.2 B ws ws' ∧ tk_le B B' ∧ B'.2.2.length ≤ B.2.2.length + (tk_Tmi T k.1).2.2.1 ∧ va_F A st t ∧ Z ρ' w B' ws' st.heap t.heap
/-- what such a contract says: P of the start, Z of the end -/
def tn_Con (T : tk_T) (U : kc_U) (Ts : List Jvm.Cond) (NWs : List (String × Nat × MethodName × String)) (TXs : List (String × Nat × String × Nat)) (St : (Nat → Nat) → State → Heap → Prop) (l : Launch) (D : va_G) (cl : List vw_C) (A : Nat → Prop) (k : tk_K) (P : (Nat → Int) → tk_B → va_W → Prop) (Z : (Nat → Int) → tk_B → va_W → (Nat → Int) → tk_A → tk_B → va_W → Heap → Heap → Prop) : Prop :=
  ∀ (ρ : Nat → Int) (B : tk_B) (ws : va_W) (tys : List (ClassId × FieldType)) (H : Heap) (vs : List Value), tk_env ρ (tk_E0 k) → ρ 0 = 0 → tk_stk ρ B (tk_E0 k).length k.2.2.1 vs → tk_mem ρ B (tk_E0 k).length ws k.2.2.2.1 → va_P D cl ws H → va_D A ws → tk_C (tk_TKT T) tys B ws → (∀ q, H.size ≤ q → A q) → B.2.2.length + (tk_Tmi T k.1).2.2.1 ≤ 1000000000 → P ρ B ws →
    Met l (U.2.1 k.1) (tk_ws_ T U Ts k.1) (tk_rm T k.1) (tk_Pc NWs TXs St D cl B.2.1 vs H tys) (tn_Qc T D cl A k ρ B ws (Z ρ B ws)) (tk_Tmi T k.1).2.2.1 (tk_Tmi T k.1).2.2.2.1 A
section TNL
variable {T : tk_T} {U : kc_U} {Ts : List Jvm.Cond} {NWs : List (String × Nat × MethodName × String)} {TXs : List (String × Nat × String × Nat)} {St : (Nat → Nat) → State → Heap → Prop} {y : Nat}
variable {p : Program} {l : Launch} {e : Env} {R : Room} {s : State} {m : MethodId} {args : Array Value} {below : List Frame} {meth : Method} {c : Code} {Q : State → Prop}
variable {D : va_G} {cl : List vw_C} {A : Nat → Prop} {H0 : Heap} {F : List (Nat × Nat × Nat)} {B0 : tk_B} {ws0 : va_W}
variable {nA : Nat} {ρ0 : Nat → Int}
set_option maxHeartbeats 4000000 in
/-- a return, as such a contract wants it -/
theorem tn_ret {k : tk_K} {o : Nat × tk_S} {w : tk_A} {xs : List tk_Lx} {Z : (Nat → Int) → tk_A → tk_B → va_W → Heap → Heap → Prop} (hV : tk_TV T U cl Ts TXs) (hM : tk_MV T U Ts k.1) (hX : tk_Cx T U Ts NWs TXs St k.1 p R s m args meth c A H0 B0 (tk_E0 k).length ρ0) (hr : meth.sig.returnType = U.2.2.2 k.1) (hlocks : meth.locks = false) (hH : H0 = s.heap) (hR : tk_Ret T k.1 o)
    {ρ : Nat → Int} {B : tk_B} {ws : va_W} {tys : List (ClassId × FieldType)} {H : Heap} {locs : List Loc} {ls : Array Slot} {lv : List (Nat × Value)} {st : List Value} (hk : tk_ok D cl A s H0 (tk_TKT T) k.2.2.2.2.2 B0 ws0 (tk_Tmi T k.1).1 o.2 ρ B ws tys H locs ls lv st) (hg : tk_ag (tk_E0 k).length ρ0 o.2.1.length ρ) (hE0 : tk_env ρ0 (tk_E0 k)) (hw : w ∈ k.2.2.2.2.1) (hxs : tk_wi (tk_E0 k).length (tk_Tmi T k.1).2.2.1 (tk_Tmi T k.1).2.2.2.1 w (o.2.1, [], o.2.2.2.1, o.2.2.2.2.1, (tk_Tmi T k.1).2.2.1, (tk_Tmi T k.1).2.2.2.1) = some xs) (hz : tl_rm s.heap H o.2.2.2.2.2.1 o.2.2.2.2.2.2 → Z (tk_rw (tk_E0 k).length xs ρ) w B ws s.heap H) :
    W p l e R s m args below meth c H locs o.2.2.2.2.2.1 o.2.2.2.2.2.2 (MQ below (tn_Qc T D cl A k ρ0 B0 ws0 Z) args s (tk_Tmi T k.1).2.2.1 (tk_Tmi T k.1).2.2.2.1 A) (F0 m o.1 ls st) := by
  refine tl_W.with (fun hrm => ?_)
  have hzz := hz hrm
  obtain ⟨i, n, hc, hk1⟩ := hR
  have hd := hV.1 _ _ _ _ hc
  obtain ⟨-, -, -, -, -, m0, m1, m2, m3, m4, m5⟩ := hM
  obtain ⟨hE, h0, hL, hl, hst, hMm, hK, hPw, hD, hS, hC, hFr, hLe, hBl⟩ := id hk
  unfold tk_rok at hk1
  simp only [Bool.and_eq_true] at hk1
  obtain ⟨⟨⟨k1, k2⟩, k2'⟩, k3⟩ := hk1
  have k1 := tk_bq k1
  subst k1
  have k2 := Nat.le_of_ble_eq_true k2
  have k2' := Nat.le_of_ble_eq_true k2'
  have fin : ∀ v : Option Value, tk_stk ρ B o.2.1.length o.2.2.2.1 v.toList → ∀ t : State, t.heap = H → s.WarmedH t.vm → tn_Qc T D cl A k ρ0 B0 ws0 Z args s (.returned v) t := fun v hv t ht hW => by
    have hk1 : tk_ok D cl A t t.heap (tk_TKT T) k.2.2.2.2.2 B0 ws0 0 (o.2.1, [], o.2.2.2.1, o.2.2.2.2.1, (tk_Tmi T k.1).2.2.1, (tk_Tmi T k.1).2.2.2.1) ρ B ws tys t.heap [] _ (lv_args 0 []) v.toList := ⟨hE, h0, fun i a h => by simp at h, lv_entry [] (n := 0) (Nat.le_refl _), hv, hMm, hK.moved hW.alike, by rw [ht]; exact hPw, hD, va_S.rf, hC, hFr, hLe, by dsimp only; omega⟩
    obtain ⟨g1, -, g7⟩ := tk_wi.ok (E0 := tk_E0 k) hxs (Nat.zero_lt_succ _) rfl hk1 (fun j hj => by
      rw [hg.2 j hj]
      exact (hE0 j).ext (fun i hi => hg.2 i (by omega)))
    obtain ⟨y1, y2, -, -, y3, y4, y5, y6, y7, -, y8, y9, y10, y11⟩ := g1
    exact ⟨w, hw, tk_rw (tk_E0 k).length xs ρ, B, ws, tys, v, rfl, y3, y1, y2, ⟨by show _ ≤ (tk_E0 k ++ w.1).length; rw [List.length_append]; omega, fun j hj => by rw [tk_rw.lt hj]; exact hg.2 j hj⟩, y4, y5, y6, y7, y8, y9, y10, y11, va_S.F (by rw [← hH]; exact hS) ht, by rw [ht]; exact hzz⟩
  refine W.widen k2 k2' ?_
  split at k3
  · rename_i a hKK
    rw [hKK] at hst fin
    obtain ⟨v, st', rfl, hlt, ⟨x, rfl, ex⟩, hst'⟩ := tk_stk.uncons hst
    cases st' with
    | cons _ _ => exact absurd hst' id
    | nil =>
      rw [Bool.or_eq_true, Bool.or_eq_true] at k3
      rcases k3 with (k3 | k3) | k3
      · exact W.iret hX.1 hX.2.1 (hr.trans (m1 (tk_bq k3))) (fin (some (.int x)) ⟨hlt, ⟨x, rfl, ex⟩, trivial⟩) hS.2.2 hd hlocks
      · rw [Bool.and_eq_true] at k3
        have hb := of_decide_eq_true k3.2
        have he := hE.at a
        dsimp only at ex
        exact W.zret hX.1 hX.2.1 (hr.trans (m4 (tk_bq k3.1))) (kc_nz01 (by omega) (by omega)) (fin (some (.int x)) ⟨hlt, ⟨x, rfl, ex⟩, trivial⟩) hS.2.2 hd hlocks
      · rw [Bool.and_eq_true] at k3
        have hb := of_decide_eq_true k3.2
        have he := hE.at a
        dsimp only at ex
        exact W.zret hX.1 hX.2.1 (hr.trans (m5 (tk_bq k3.1))) (tk_nzc (by omega) (by omega)) (fin (some (.int x)) ⟨hlt, ⟨x, rfl, ex⟩, trivial⟩) hS.2.2 hd hlocks
  · rename_i hKK
    rw [hKK] at hst fin
    obtain ⟨v, st', rfl, hlt, ⟨x, rfl, ex⟩, hst'⟩ := tk_stk.uncons hst
    cases st' with
    | cons _ _ => exact absurd hst' id
    | nil => exact W.lret hX.1 hX.2.1 (hr.trans (m2 (tk_bq k3))) (fin (some (.long x)) ⟨hlt, ⟨x, rfl, ex⟩, trivial⟩) hS.2.2 hd hlocks
  · rename_i t a hKK
    rw [hKK] at hst fin
    rw [Bool.and_eq_true] at k3
    have ht := Nat.le_of_ble_eq_true k3.2
    obtain ⟨v, st', rfl, hlt, hv, hst'⟩ := tk_stk.uncons hst
    cases st' with
    | cons _ _ => exact absurd hst' id
    | nil =>
      obtain ⟨rt, hrt, hrt2⟩ := m3 (tk_bq k3.1)
      refine W.aret hX.1 hX.2.1 (hr.trans hrt) hrt2 ?_ (fin (some v) ⟨hlt, hv, trivial⟩) hS.2.2 hd hlocks
      rcases (tk_vn.ref ht).mp hv with ⟨rfl, -⟩ | ⟨j, ad, rfl, -⟩
      · exact Or.inl rfl
      · exact Or.inr ⟨_, rfl⟩
  · rename_i hKK
    rw [hKK] at hst fin
    cases st with
    | cons _ _ => exact absurd hst id
    | nil => exact W.vret hX.1 hX.2.1 (hr.trans (m0 (tk_bq k3))) (fin none trivial) hS.2.2 hd hlocks
  · cases k3
end TNL
section TNM
variable {T : tk_T} {U : kc_U} {Ts : List Jvm.Cond} {NWs : List (String × Nat × MethodName × String)} {TXs : List (String × Nat × String × Nat)} {St : (Nat → Nat) → State → Heap → Prop} {y : Nat}
variable {p : Program} {l : Launch} {e : Env} {R : Room} {s : State} {m : MethodId} {args : Array Value} {below : List Frame} {meth : Method} {c : Code} {Q : State → Prop}
variable {D : va_G} {cl : List vw_C} {A : Nat → Prop} {H0 : Heap} {F : List (Nat × Nat × Nat)} {B0 : tk_B} {ws0 : va_W}
variable {nA : Nat} {ρ0 : Nat → Int}
set_option maxHeartbeats 4000000 in
/-- such a contract out of a walk by hand -/
theorem tn_met {k : tk_K} {P : (Nat → Int) → tk_B → va_W → Prop} {Z : (Nat → Int) → tk_B → va_W → (Nat → Int) → tk_A → tk_B → va_W → Heap → Heap → Prop} (hV : tk_TV T U cl Ts TXs) (hM : tk_MV T U Ts k.1) (hy0 : k.1 ≠ 0) (hlen : (tk_loc0 k.2.2.1).length ≤ (tk_Tmi T k.1).1)
    (hrun : ∀ (ρ : Nat → Int) (B : tk_B) (ws : va_W) (tys : List (ClassId × FieldType)) (H : Heap) (p : Program) (e : Env) (s : State) (m : MethodId) (args : Array Value) (below : List Frame) (meth : Method) (c : Code) (ls : Array Slot) (lv : List (Nat × Value)), tk_env ρ (tk_E0 k) → P ρ B ws → tk_Cx T U Ts NWs TXs St k.1 p (tk_rm T k.1) s m args meth c A H B (tk_E0 k).length ρ → meth.sig.returnType = U.2.2.2 k.1 → meth.locks = false → H = s.heap → tk_ok D cl A s H (tk_TKT T) k.2.2.2.2.2 B ws (tk_Tmi T k.1).1 (tk_E0 k, tk_lc (tk_Tmi T k.1).1 k.2.2.1, [], k.2.2.2.1, 0, 0) ρ B ws tys H [] ls lv [] → W p l e (tk_rm T k.1) s m args below meth c H [] 0 0 (MQ below (tn_Qc T D cl A k ρ B ws (Z ρ B ws)) args s (tk_Tmi T k.1).2.2.1 (tk_Tmi T k.1).2.2.2.1 A) (F0 m 0 ls [])) : tn_Con T U Ts NWs TXs St l D cl A k P Z := by
  intro ρ B ws tys H vs hE h0 has hMm hP hD hC hA hcap hPP
  obtain ⟨m1, m2, m3, m4, m5, m7⟩ := id hM
  refine tk_ofW (cc := U.2.2.1 k.1) (maxL := (tk_Tmi T k.1).1) (ret := U.2.2.2 k.1) m3 rfl ?_
  intro p e s m args below meth c s₁ Bd hml hv
  obtain ⟨rfl, hH, hdx, hK⟩ := hv
  have hts : ∀ w ∈ Ts, w.before vs.toArray s = true := fun w hw => atoms_spec (ws := tk_ws_ T U Ts k.1) Bd.pre w (List.mem_cons_of_mem _ hw)
  have Cx : tk_Cx T U Ts NWs TXs St k.1 p (tk_rm T k.1) s m vs.toArray meth c A H B (tk_E0 k).length ρ := ⟨Bd.exec, Bd.bytes, hml, by rw [m5]; exact findClass_of_methodNamed Bd.named, hts, hdx, hA, ⟨Nat.le_refl _, Nat.le_refl _, Nat.le_refl _, Nat.le_refl _⟩, hcap, fun q => absurd q hy0⟩
  obtain ⟨g1, -⟩ := tk_loc0.ok 0 has
  have hl := lv_entry vs (n := (tk_Tmi T k.1).1) (by rw [g1]; exact hlen)
  rw [lg_entry_eq]
  have hfr : tk_fr k.2.2.2.2.2 B ws ws := fun j a κ hj => by
    obtain ⟨e0, g2, -⟩ := hC.2 j a κ hj
    exact ⟨e0, e0, g2, g2, fun _ _ => rfl⟩
  have h9 := hrun ρ B ws tys H p e s m vs.toArray below meth c _ (lv_args 0 vs) hE hPP Cx Bd.returns Bd.notSynchronized hH.symm ⟨hE, ⟨Nat.zero_lt_succ _, h0⟩, tk_lc.ok has, hl, trivial, hMm, hK, hP, hD, va_S.rf, hC, hfr, tk_le.rf B, by dsimp only; omega⟩
  rw [← hH] at h9
  exact h9
end TNM
section TNN
variable {T : tk_T} {U : kc_U} {Ts : List Jvm.Cond} {NWs : List (String × Nat × MethodName × String)} {TXs : List (String × Nat × String × Nat)} {St : (Nat → Nat) → State → Heap → Prop} {y : Nat}
variable {p : Program} {l : Launch} {e : Env} {R : Room} {s : State} {m : MethodId} {args : Array Value} {below : List Frame} {meth : Method} {c : Code} {Q : State → Prop}
variable {D : va_G} {cl : List vw_C} {A : Nat → Prop} {H0 : Heap} {F F' : List (Nat × Nat × Nat)} {B0 : tk_B} {ws0 : va_W}
variable {nA : Nat} {ρ0 : Nat → Int}
/-- behind a call by such a contract -/
theorem tn_after {k : tk_K} {cs ss mc ms pc : Nat} {X : Array Value} {ρ1 : Nat → Int} {B : tk_B} {ws : va_W} {H : Heap} {locs : List Loc} {ls : Array Slot} {st rest : List Value} {Z : (Nat → Int) → tk_A → tk_B → va_W → Heap → Heap → Prop}
    (hr : va_Run p l e R s m args below meth c H locs cs ss mc ms (F0 m pc ls st) rest (tn_Qc T D cl A k ρ1 B ws Z X) A) (hS : va_S A H0 H locs)
    (kk : ∀ w ∈ k.2.2.2.2.1, ∀ (ρ' : Nat → Int) (B' : tk_B) (ws' : va_W) (tys' : List (ClassId × FieldType)) (v : Option Value) (H' : Heap) (locs' : List Loc), tk_stk ρ' B' (tk_pS T k w).2.1.length w.2.2.1 v.toList → tk_env ρ' (tk_pS T k w).2.1 → (0 < (tk_pS T k w).2.1.length ∧ ρ' 0 = 0) → tk_ag (tk_E0 k).length ρ1 (tk_pS T k w).2.1.length ρ' → tk_mem ρ' B' (tk_pS T k w).2.1.length ws' w.2.2.2.1 → va_K D cl tys' s → va_P D cl ws' H' → va_D A ws' → va_S A H0 H' locs' → tk_C (tk_TKT T) tys' B' ws' → tk_fr k.2.2.2.2.2 B ws ws' → tk_le B B' → B'.2.2.length ≤ B.2.2.length + (tk_Tmi T k.1).2.2.1 → Z ρ' w B' ws' H H' → W p l e R s m args below meth c H' locs' (cs + mc) (ss + ms) Q (F0 m (pc + 3) ls (v.toList ++ rest))) : W p l e R s m args below meth c H locs cs ss Q (F0 m pc ls st) := by
  intro TT hT XX
  obtain ⟨v, st₀, t, T', L', h0, X', hL', e1, e2, ⟨w, hw, ρ', B', ws', tys', v', hv, q1, q2, q3, q4, q5, q6, q7, q8, q9, q10, q11, q12, q13, q14⟩, stp⟩ := hr TT hT XX
  cases hv
  obtain ⟨f1, f2⟩ := q13
  rw [h0] at f1 f2 q14
  have hKs : va_K D cl tys' s := q6.moved (by rw [← e2]; exact X'.warmed.alike.symm)
  obtain ⟨t2, a1, b1⟩ := kk w hw ρ' B' ws' tys' v T'.heap (locs ++ L') q1 q2 q3 q4 q5 hKs (by rw [e1]; exact q7) q8 ⟨by rw [e1]; exact Nat.le_trans hS.1 f1, fun q h1 h2 => by rw [e1, f2 q (Nat.lt_of_lt_of_le h1 hS.1) h2]; exact hS.2.1 q h1 h2, fun q hq => by
      rcases List.mem_append.mp hq with h | h
      · exact hS.2.2 q h
      · exact hL' q h⟩ q9 q10 q11 q12 (by rw [e1]; exact q14) T' rfl X'
  exact ⟨t2, stp t2 a1, b1⟩
set_option maxHeartbeats 8000000 in
/-- a call by such a contract -/
theorem tn_app {sc nt : Nat} {i : Instr} {n pc : Nat} {S : tk_S} {k : tk_K} {as K' : List tk_V} {xs : List tk_Lx} (hV : tk_TV T U cl Ts TXs) (hLV : tk_LV T U Ts NWs) (hG : GoodIn Ts Ts) (hSc : tk_Sc A St) (hTx : ∀ (s : State) (H : Heap) (ad : Nat → Nat), tk_Dx NWs TXs St ad s H → ∀ k, k < nt → ∃ cell : Cell, H[ad k]? = some cell ∧ cell.vm.isStatics = false ∧ s.vm.findClass (U.1 sc) = some cell.cls)
    (hX : tk_Cx T U Ts NWs TXs St y p R s m args meth c A H0 B0 nA ρ0) (hc : tk_Tcd T y pc = some (i, n)) (h : tk_cal T sc nt y i n S = some (k.1, as, K')) {P : (Nat → Int) → tk_B → va_W → Prop} {Z : (Nat → Int) → tk_B → va_W → (Nat → Int) → tk_A → tk_B → va_W → Heap → Heap → Prop} (hcon : tn_Con T U Ts NWs TXs St l D cl A k P Z) (hF : k.2.2.2.2.2.all (fun q => tk_iG F q.1 q.2.1 q.2.2) = true) (hxs : tk_wi 1 S.2.2.2.2.1 S.2.2.2.2.2 (k.2.1, [], k.2.2.1, k.2.2.2.1, (0, 0), true) (S.1, [], as, S.2.2.2.1, S.2.2.2.2.1, S.2.2.2.2.2) = some xs)
    {ρ : Nat → Int} {B : tk_B} {ws : va_W} {tys : List (ClassId × FieldType)} {H : Heap} {locs : List Loc} {ls : Array Slot} {lv : List (Nat × Value)} {st : List Value} (hk : tk_ok D cl A s H0 (tk_TKT T) F B0 ws0 (tk_Tmi T y).1 S ρ B ws tys H locs ls lv st) (hg : tk_ag nA ρ0 S.1.length ρ) (hPP : P (tk_rw 1 xs ρ) B ws)
    (kk : ∀ w ∈ k.2.2.2.2.1, ∃ r : tk_S, tk_ap1 T k xs K' S w = some r ∧ ∀ (ρ' : Nat → Int) (B' : tk_B) (ws' : va_W) (tys' : List (ClassId × FieldType)) (H' : Heap) (locs' : List Loc) (st' : List Value), tk_ok D cl A s H0 (tk_TKT T) F B0 ws0 (tk_Tmi T y).1 r ρ' B' ws' tys' H' locs' ls lv st' → tk_ag nA ρ0 r.1.length ρ' → tk_ag S.1.length ρ r.1.length ρ' → tk_fr k.2.2.2.2.2 B ws ws' → tk_le B B' → (∃ ρe : Nat → Int, (∀ j : Nat, ρ' (S.1.length + j) = ρe ((tk_E0 k).length + j)) ∧ Z (tk_rw 1 xs ρ) B ws ρe w B' ws' H H') → W p l e R s m args below meth c H' locs' r.2.2.2.2.1 r.2.2.2.2.2 Q (F0 m (pc + 3) ls st')) : W p l e R s m args below meth c H locs S.2.2.2.2.1 S.2.2.2.2.2 Q (F0 m pc ls st) := by
  obtain ⟨hE, h0, hL, hl, hst, hMm, hK, hPw, hD, hS, hC, hFr, hLe, hBl⟩ := id hk
  have hcap := hX.2.2.2.2.2.2.2.2.1
  have hA := hX.2.2.2.2.2.2.1
  refine tk_cal.ok hV hLV hG hSc hTx hX hc h hk (fun vs rest q1 q2 c6 c2 hy0 hM => ?_)
  have hk1 : tk_ok D cl A s H0 (tk_TKT T) F B0 ws0 (tk_Tmi T y).1 (S.1, [], as, S.2.2.2.1, S.2.2.2.2.1, S.2.2.2.2.2) ρ B ws tys H locs ls lv vs := ⟨hE, h0, fun i a h => by simp at h, hl, q1, hMm, hK, hPw, hD, hS, hC, hFr, hLe, hBl⟩
  obtain ⟨w1, w2, w3⟩ := tk_wi.ok (E0 := [(0, 0, 0, 0, 0, 0)]) hxs (by decide) rfl hk1 (fun j hj => by
    have : j = 0 := by omega
    subst this
    rw [h0.2]
    exact tk_dv.bare (Int.le_refl _) (Int.le_refl _))
  obtain ⟨wE, wz, -, -, wst, wM, -⟩ := w1
  have wE : tk_env (tk_rw 1 xs ρ) (tk_E0 k) := wE
  refine ⟨_, hcon (tk_rw 1 xs ρ) B ws tys H vs wE wz.2 wst wM hPw hD hC (fun q hq => hA q (Nat.le_trans hS.1 hq)) (by omega) hPP, fun X hr => tn_after hr hS (fun w hw ρ' B' ws' tys' v H' locs' g1 g2 g3 g4 g5 g6 g7 g8 g9 g10 g11 g12 g13 g14 => ?_)⟩
  obtain ⟨r, hr2, kr⟩ := kk w hw
  unfold tk_ap1 at hr2
  split at hr2
  · rename_i E' Kp Mp e1 e2 e3
    cases hr2
    have hag : ∀ j, j < (tk_E0 k).length → ρ' j = tk_rw 1 xs ρ j := g4.2
    obtain ⟨r1, r2⟩ := tk_rE.ok (ρ := ρ) hag e1
    have hol : ((tk_pS T k w).2.1).length = (tk_E0 k).length + w.1.length := by
      show (tk_E0 k ++ w.1).length = _
      rw [List.length_append]
    have hpre : ∀ j, j < S.1.length → tk_r2 (tk_E0 k).length S.1.length ρ ρ' j = ρ j := fun j hj => if_pos hj
    have hlen : (S.1 ++ E').length = S.1.length + w.1.length := by rw [List.length_append, r1]
    rw [hol] at g1 g5
    refine kr (tk_r2 (tk_E0 k).length S.1.length ρ ρ') B' ws' tys' H' locs' (v.toList ++ rest) ⟨fun j => ?_, ⟨by dsimp only; rw [hlen]; have := h0.1; omega, by rw [hpre 0 h0.1]; exact h0.2⟩, hL.ext hpre g12 (by dsimp only; rw [hlen]; omega), hl, ?_, ?_, g6, g7, g8, g9, g10, ?_, hLe.tr g12, by dsimp only; omega⟩ ⟨by dsimp only; rw [hlen]; have := hg.1; omega, fun j hj => by rw [hpre j (Nat.lt_of_lt_of_le hj hg.1)]; exact hg.2 j hj⟩ ⟨by dsimp only; rw [hlen]; omega, fun j hj => hpre j hj⟩ g11 g12 ⟨ρ', fun j => (if_neg (by omega)).trans (by rw [Nat.add_sub_cancel_left]), g14⟩
    · dsimp only
      by_cases q : j < S.1.length
      · rw [tk_at.app q, hpre j q]
        exact (hE j).ext (fun i hi => hpre i (by omega))
      · by_cases q3 : j < S.1.length + w.1.length
        · have h3 : w.1[j - S.1.length]? = some w.1[j - S.1.length] := List.getElem?_eq_getElem (by omega)
          have h4 : E'[j - S.1.length]? = some E'[j - S.1.length] := List.getElem?_eq_getElem (by omega)
          have h5 := g2 ((tk_E0 k).length + (j - S.1.length))
          have h6 : tk_at (tk_pS T k w).2.1 ((tk_E0 k).length + (j - S.1.length)) = w.1[j - S.1.length] := by
            show tk_at (tk_E0 k ++ w.1) _ = _
            unfold tk_at
            rw [List.getD_eq_getElem?_getD, List.getElem?_append_right (by omega), Nat.add_sub_cancel_left, h3]
            rfl
          rw [h6] at h5
          have h7 := r2 (j - S.1.length) _ _ _ h3 h4 (by rw [Nat.zero_add]; exact h5)
          rw [Nat.zero_add, show S.1.length + (j - S.1.length) = j by omega] at h7
          have h8 : tk_at (S.1 ++ E') j = E'[j - S.1.length] := by
            unfold tk_at
            rw [List.getD_eq_getElem?_getD, List.getElem?_append_right (by omega), h4]
            rfl
          rw [h8]
          have h9 : tk_r2 (tk_E0 k).length S.1.length ρ ρ' j = ρ' ((tk_E0 k).length + (j - S.1.length)) := if_neg q
          rw [h9]
          exact h7
        · rw [tk_at.out (by rw [hlen]; omega)]
          have h5 := g2 ((tk_E0 k).length + (j - S.1.length))
          rw [tk_at.out (by rw [hol]; omega)] at h5
          have h9 : tk_r2 (tk_E0 k).length S.1.length ρ ρ' j = ρ' ((tk_E0 k).length + (j - S.1.length)) := if_neg q
          rw [h9]
          exact tk_dv.bare h5.1 h5.2.1
    · dsimp only
      rw [hlen]
      exact tk_stk.app (tk_rK.ok hag e2 g1) (tk_stk.ext hpre g12 (by omega) q2)
    · dsimp only
      rw [hlen]
      have m1 := tk_rM.ok (ρ := ρ) hag e3 g5
      intro f hf
      rcases List.mem_append.mp hf with hf | hf
      · exact m1 f hf
      · obtain ⟨f1, f2⟩ := List.mem_filter.mp hf
        obtain ⟨⟨a1, a2, a3⟩, a4⟩ := hMm f f1
        refine ⟨⟨by omega, by omega, by omega⟩, ?_⟩
        rw [hpre _ a1, hpre _ a2, hpre _ a3]
        obtain ⟨j9, a9, e9, w9, b1, b2, b3, b4, b5, b6, b7⟩ := id a4
        exact a4.fr g11 g12 (tk_ef.ok hE f2 rfl b5 b1)
    · exact hFr.tr g11 hLe (fun κ i hi => by
        obtain ⟨q, y1, y2⟩ := List.any_eq_true.mp hi
        simp only [Bool.and_eq_true] at y2
        have y3 := List.all_eq_true.mp hF q y1
        rw [tk_bq y2.1.1] at y3
        exact tk_iG.ok y3 (Nat.le_of_ble_eq_true y2.1.2) (Nat.le_of_ble_eq_true y2.2))
  · cases hr2
end TNN

/-! ===== walks by hand, over states with a world and the symbols' values ===== -/
abbrev ty_NCon (l : Launch) (D : va_G) (A : Nat → Prop) (k : tk_K) (P : (Nat → Int) → tk_B → va_W → Prop) (Z : (Nat → Int) → tk_B → va_W → (Nat → Int) → tk_A → tk_B → va_W → Heap → Heap → Prop) : Prop := tn_Con tt_T tw_U tw_Ts tw_NWs tw_TXs (tx_St A) l D tw_cl A k P Z
/-- the int at a place -/
def tn_gi (ws : va_W) (z : Int) (i : Nat) : Int := match tl_pl ws z i with
  | some (.int x) => x.toInt
  | _ => 0
theorem tn_gi.fr {F : List (Nat × Nat × Nat)} {B : tk_B} {ws ws' : va_W} {z : Int} {κ i : Nat} (h : tk_fr F B ws ws') (hk : tl_kd B z κ) (hF : tk_iF F κ i = false) : tn_gi ws' z i = tn_gi ws z i := by
  unfold tn_gi
  rw [tl_pl.fr h hk hF]
theorem tn_gi.of {ws : va_W} {z : Int} {i : Nat} {x : Int32} (h : tl_pl ws z i = some (.int x)) : tn_gi ws z i = x.toInt := by
  unfold tn_gi
  rw [h]
section TN
variable {p : Program} {l : Launch} {e : Env} {R : Room} {s : State} {m : MethodId} {args : Array Value} {below : List Frame} {meth : Method} {c : Code} {Q : State → Prop}
variable {D : va_G} {A : Nat → Prop} {H0 : Heap} {F F' : List (Nat × Nat × Nat)} {B0 : tk_B} {ws0 : va_W} {y : Nat}
def tn_at (p : Program) (l : Launch) (e : Env) (R : Room) (s : State) (m : MethodId) (args : Array Value) (below : List Frame) (meth : Method) (c : Code) (Q : State → Prop) (D : va_G) (A : Nat → Prop) (H0 : Heap) (F : List (Nat × Nat × Nat)) (B0 : tk_B) (ws0 : va_W) (y : Nat) (pc : Nat) (S : tk_S) (ρ : Nat → Int) (ws : va_W) : Prop :=
  ∀ (B : tk_B) (tys : List (ClassId × FieldType)) (H : Heap) (locs : List Loc) (ls : Array Slot) (lv : List (Nat × Value)) (st : List Value), tk_ok D tw_cl A s H0 (tk_TKT tt_T) F B0 ws0 (tk_Tmi tt_T y).1 S ρ B ws tys H locs ls lv st → W p l e R s m args below meth c H locs S.2.2.2.2.1 S.2.2.2.2.2 Q (F0 m pc ls st)
abbrev tn_Cx (y : Nat) (p : Program) (R : Room) (s : State) (m : MethodId) (args : Array Value) (meth : Method) (c : Code) (A : Nat → Prop) (H0 : Heap) (B0 : tk_B) : Prop := tk_Cx tt_T tw_U tw_Ts tw_NWs tw_TXs (tx_St A) y p R s m args meth c A H0 B0 0 (fun _ => 0)
theorem tn_Cx.of {nA : Nat} {ρ0 : Nat → Int} (hy : y ≠ 0) (h : tk_Cx tt_T tw_U tw_Ts tw_NWs tw_TXs (tx_St A) y p R s m args meth c A H0 B0 nA ρ0) : tn_Cx y p R s m args meth c A H0 B0 := by
  obtain ⟨x1, x2, x3, x4, x5, x6, x7, x8, x9, -⟩ := h
  exact ⟨x1, x2, x3, x4, x5, x6, x7, x8, x9, fun q => absurd q hy⟩
variable {pc : Nat} {S : tk_S} {ρ : Nat → Int} {ws : va_W}
/-- a piece of a run -/
theorem tn_at.seg {Ks : Nat → Option tk_K} {f : Nat} {op : List Nat} {tp tp' : List tk_I} {os : List (Nat × tk_S)} (hX : tn_Cx y p R s m args meth c A H0 B0) (hKs : ∀ (id : Nat) (k : tk_K), Ks id = some k → tx_Con l D A k) (hrun : tk_run tt_T F' tt_sc tt_nt Ks tt_nw f y op tp [(pc, S)] [] = some (os, tp')) (hF : F'.all (fun q => tk_iG F q.1 q.2.1 q.2.2) = true)
    (k : ∀ o ∈ os, ∀ (ρ' : Nat → Int) (ws' : va_W), tk_env ρ' o.2.1 → ρ' 0 = 0 → tk_ag S.1.length ρ o.2.1.length ρ' → tk_fr F' B0 ws ws' → tn_at p l e R s m args below meth c Q D A H0 F B0 ws0 y o.1 o.2 ρ' ws') : tn_at p l e R s m args below meth c Q D A H0 F B0 ws0 y pc S ρ ws := by
  intro B tys H locs ls lv st hk
  exact tl_seg (nA := 0) (ρ0 := fun _ => 0) tw_V tw_LV tw_Ts_good (tx_Sc A) ty_Tx hKs te_NV hX hrun hF hk ⟨Nat.zero_le _, fun k hk => absurd hk (Nat.not_lt_zero _)⟩ (fun o ho ρ' B' ws' tys' H' locs' ls' lv' st' hk' hg' hf' => k o ho ρ' ws' hk'.1 hk'.2.1.2 hg' hf' B' tys' H' locs' ls' lv' st' hk')
/-- what such a state says -/
theorem tn_at.know (k : tk_env ρ S.1 → (0 < S.1.length ∧ ρ 0 = 0) → (∃ (B : tk_B) (tys : List (ClassId × FieldType)), tk_le B0 B ∧ tk_mem ρ B S.1.length ws S.2.2.2.1 ∧ tk_C (tk_TKT tt_T) tys B ws) → tn_at p l e R s m args below meth c Q D A H0 F B0 ws0 y pc S ρ ws) : tn_at p l e R s m args below meth c Q D A H0 F B0 ws0 y pc S ρ ws := by
  intro B tys H locs ls lv st hk
  exact k hk.1 hk.2.1 ⟨B, tys, hk.2.2.2.2.2.2.2.2.2.2.2.2.1, hk.2.2.2.2.2.1, hk.2.2.2.2.2.2.2.2.2.2.1⟩ B tys H locs ls lv st hk
/-- a state that is one of a wider one's -/
theorem tn_at.wi {n0 cs ss : Nat} {w : tk_A} {E0 : tk_E} {ρ0 : Nat → Int} {xs : List tk_Lx} (h : tk_wi n0 cs ss w S = some xs) (h0 : 0 < n0) (hE0 : E0.length = n0) (hE : tk_env ρ0 E0) (hag : ∀ k, k < n0 → ρ k = ρ0 k) (hcs : S.2.2.2.2.1 = cs ∧ S.2.2.2.2.2 = ss)
    (k : tn_at p l e R s m args below meth c Q D A H0 F B0 ws0 y pc (E0 ++ w.1, w.2.1, w.2.2.1, w.2.2.2.1, cs, ss) (tk_rw n0 xs ρ) ws) : tn_at p l e R s m args below meth c Q D A H0 F B0 ws0 y pc S ρ ws := by
  intro B tys H locs ls lv st hk
  obtain ⟨g1, -, -⟩ := tk_wi.ok (E0 := E0) h h0 hE0 hk (fun k hk => by
    rw [hag k hk]
    exact (hE k).ext (fun i hi => hag i (by omega)))
  have := k B tys H locs ls lv st g1
  rw [hcs.1, hcs.2]
  exact this
/-- bounds that a hand knows -/
theorem tn_at.rf {E E' : tk_E} {L K : List tk_V} {M : tk_M} {cs ss : Nat} (hE : tk_env ρ E') (hl : E'.length = E.length) (k : tn_at p l e R s m args below meth c Q D A H0 F B0 ws0 y pc (E', L, K, M, cs, ss) ρ ws) : tn_at p l e R s m args below meth c Q D A H0 F B0 ws0 y pc (E, L, K, M, cs, ss) ρ ws := by
  intro B tys H locs ls lv st hk
  obtain ⟨g1, g2, g3, g4, g5, g6, g7⟩ := hk
  have g2 : 0 < E.length ∧ ρ 0 = 0 := g2
  have g3 : tk_loc ρ B E.length L lv := g3
  have g5 : tk_stk ρ B E.length K st := g5
  have g6 : tk_mem ρ B E.length ws M := g6
  rw [← hl] at g2 g3 g5 g6
  exact k B tys H locs ls lv st ⟨hE, g2, g3, g4, g5, g6, g7⟩
variable {E : tk_E} {L K : List tk_V} {M : tk_M} {cs ss : Nat} {a b : tk_P}
/-- two ints, and what is made of them -/
theorem tn_at.bin {r : tk_E × tk_P} {f : Int32 → Int32 → Int32} (hrow : ∀ {x z : Int32} {H : Heap} {locs : List Loc} {ls : Array Slot} {rest : List Value}, W p l e R s m args below meth c H locs cs ss Q (F0 m (pc + 1) ls (.int (f x z) :: rest)) → W p l e R s m args below meth c H locs cs ss Q (F0 m pc ls (.int z :: .int x :: rest))) (hr : ∀ x z : Int32, tk_env ρ E → (0 < E.length ∧ ρ 0 = 0) → a.1 < E.length → b.1 < E.length → x.toInt = ρ a.1 + a.2 → z.toInt = ρ b.1 + b.2 → tk_r E ρ r (f x z).toInt)
    (k : ∀ ρ' : Nat → Int, tk_env ρ' r.1 → tk_ag E.length ρ r.1.length ρ' → ρ' r.2.1 + r.2.2 = (f (Int32.ofInt (ρ a.1 + a.2)) (Int32.ofInt (ρ b.1 + b.2))).toInt → tn_at p l e R s m args below meth c Q D A H0 F B0 ws0 y (pc + 1) (r.1, L, (1, r.2) :: K, M, cs, ss) ρ' ws) : tn_at p l e R s m args below meth c Q D A H0 F B0 ws0 y pc (E, L, (1, b) :: (1, a) :: K, M, cs, ss) ρ ws := by
  intro B tys H locs ls lv st hk
  have hE : tk_env ρ E := hk.1
  have h0 : 0 < E.length ∧ ρ 0 = 0 := hk.2.1
  have hst : tk_stk ρ B E.length ((1, b) :: (1, a) :: K) st := hk.2.2.2.2.1
  have hM : tk_mem ρ B E.length ws M := hk.2.2.2.2.2.1
  obtain ⟨v, st1, rfl, hb, ⟨z, rfl, ez⟩, hst1⟩ := tk_stk.uncons hst
  obtain ⟨v, st2, rfl, ha, ⟨x, rfl, ex⟩, hst2⟩ := tk_stk.uncons hst1
  dsimp only at ha hb ex ez
  obtain ⟨ρ', g1, g3, g4, g5, g6⟩ := hr x z hE h0 ha hb ex ez
  refine hrow (k ρ' g3 ⟨g4, g1⟩ (by rw [g6, kc_cst ex, kc_cst ez]) B tys H locs ls lv _ ⟨g3, ⟨Nat.lt_of_lt_of_le h0.1 g4, by rw [g1 0 h0.1]; exact h0.2⟩, hk.2.2.1.ext g1 (tk_le.rf B) g4, hk.2.2.2.1, ⟨g5, ⟨f x z, rfl, g6.symm⟩, tk_stk.ext g1 (tk_le.rf B) g4 hst2⟩, hM.ext g1 g4, hk.2.2.2.2.2.2⟩)
theorem tn_at.iand (hX : tn_Cx y p R s m args meth c A H0 B0) (hc : tt_cd y pc = some (.iand, 1)) {r : tk_E × tk_P} (hr : tk_and 1 E a b = r) (k : ∀ ρ' : Nat → Int, tk_env ρ' r.1 → tk_ag E.length ρ r.1.length ρ' → ρ' r.2.1 + r.2.2 = (Int32.ofInt (ρ a.1 + a.2) &&& Int32.ofInt (ρ b.1 + b.2)).toInt → tn_at p l e R s m args below meth c Q D A H0 F B0 ws0 y (pc + 1) (r.1, L, (1, r.2) :: K, M, cs, ss) ρ' ws) : tn_at p l e R s m args below meth c Q D A H0 F B0 ws0 y pc (E, L, (1, b) :: (1, a) :: K, M, cs, ss) ρ ws :=
  tn_at.bin (f := fun x z => x &&& z) (fun k => lv_iand hX.1 hX.2.1 (tw_V.1 y pc _ _ hc) k) (fun x z h1 h2 h3 h4 h5 h6 => by subst hr; exact tk_iand h1 h2 h4 h5 h6) k
theorem tn_at.imul (hX : tn_Cx y p R s m args meth c A H0 B0) (hc : tt_cd y pc = some (.imul, 1)) {r : tk_E × tk_P} (hr : tk_mul 1 E a b = r) (k : ∀ ρ' : Nat → Int, tk_env ρ' r.1 → tk_ag E.length ρ r.1.length ρ' → ρ' r.2.1 + r.2.2 = (Int32.ofInt (ρ a.1 + a.2) * Int32.ofInt (ρ b.1 + b.2)).toInt → tn_at p l e R s m args below meth c Q D A H0 F B0 ws0 y (pc + 1) (r.1, L, (1, r.2) :: K, M, cs, ss) ρ' ws) : tn_at p l e R s m args below meth c Q D A H0 F B0 ws0 y pc (E, L, (1, b) :: (1, a) :: K, M, cs, ss) ρ ws :=
  tn_at.bin (f := fun x z => x * z) (fun k => lv_imul hX.1 hX.2.1 (tw_V.1 y pc _ _ hc) k) (fun x z h1 h2 h3 h4 h5 h6 => by subst hr; exact tk_imul h1 h2 h5 h6) k
theorem tn_at.ishr (hX : tn_Cx y p R s m args meth c A H0 B0) (hc : tt_cd y pc = some (.ishr, 1)) {r : tk_E × tk_P} (hr : tk_shi 9 E a b = r) (k : ∀ ρ' : Nat → Int, tk_env ρ' r.1 → tk_ag E.length ρ r.1.length ρ' → ρ' r.2.1 + r.2.2 = (Int32.ofInt (ρ a.1 + a.2) >>> (Int32.ofInt (ρ b.1 + b.2) &&& 31)).toInt → tn_at p l e R s m args below meth c Q D A H0 F B0 ws0 y (pc + 1) (r.1, L, (1, r.2) :: K, M, cs, ss) ρ' ws) : tn_at p l e R s m args below meth c Q D A H0 F B0 ws0 y pc (E, L, (1, b) :: (1, a) :: K, M, cs, ss) ρ ws :=
  tn_at.bin (f := fun x z => x >>> (z &&& 31)) (fun k => lv_ishr hX.1 hX.2.1 (tw_V.1 y pc _ _ hc) k) (fun x z h1 h2 h3 h4 h5 h6 => by subst hr; exact tk_shift (o := 9) h1 h2 h5 h6) k
theorem tn_at.ishl (hX : tn_Cx y p R s m args meth c A H0 B0) (hc : tt_cd y pc = some (.ishl, 1)) {r : tk_E × tk_P} (hr : tk_shi 8 E a b = r) (k : ∀ ρ' : Nat → Int, tk_env ρ' r.1 → tk_ag E.length ρ r.1.length ρ' → ρ' r.2.1 + r.2.2 = (Int32.ofInt (ρ a.1 + a.2) <<< (Int32.ofInt (ρ b.1 + b.2) &&& 31)).toInt → tn_at p l e R s m args below meth c Q D A H0 F B0 ws0 y (pc + 1) (r.1, L, (1, r.2) :: K, M, cs, ss) ρ' ws) : tn_at p l e R s m args below meth c Q D A H0 F B0 ws0 y pc (E, L, (1, b) :: (1, a) :: K, M, cs, ss) ρ ws :=
  tn_at.bin (f := fun x z => x <<< (z &&& 31)) (fun k => lv_ishl hX.1 hX.2.1 (tw_V.1 y pc _ _ hc) k) (fun x z h1 h2 h3 h4 h5 h6 => by subst hr; exact tk_shift (o := 8) h1 h2 h5 h6) k
theorem tn_at.ior (hX : tn_Cx y p R s m args meth c A H0 B0) (hc : tt_cd y pc = some (.ior, 1)) {r : tk_E × tk_P} (hr : tk_shi 6 E a b = r) (k : ∀ ρ' : Nat → Int, tk_env ρ' r.1 → tk_ag E.length ρ r.1.length ρ' → ρ' r.2.1 + r.2.2 = (Int32.ofInt (ρ a.1 + a.2) ||| Int32.ofInt (ρ b.1 + b.2)).toInt → tn_at p l e R s m args below meth c Q D A H0 F B0 ws0 y (pc + 1) (r.1, L, (1, r.2) :: K, M, cs, ss) ρ' ws) : tn_at p l e R s m args below meth c Q D A H0 F B0 ws0 y pc (E, L, (1, b) :: (1, a) :: K, M, cs, ss) ρ ws :=
  tn_at.bin (f := fun x z => x ||| z) (fun k => lv_ior hX.1 hX.2.1 (tw_V.1 y pc _ _ hc) k) (fun x z h1 h2 h3 h4 h5 h6 => by subst hr; exact tk_shift (o := 6) h1 h2 h5 h6) k
theorem tn_at.ixor (hX : tn_Cx y p R s m args meth c A H0 B0) (hc : tt_cd y pc = some (.ixor, 1)) {r : tk_E × tk_P} (hr : tk_shi 7 E a b = r) (k : ∀ ρ' : Nat → Int, tk_env ρ' r.1 → tk_ag E.length ρ r.1.length ρ' → ρ' r.2.1 + r.2.2 = (Int32.ofInt (ρ a.1 + a.2) ^^^ Int32.ofInt (ρ b.1 + b.2)).toInt → tn_at p l e R s m args below meth c Q D A H0 F B0 ws0 y (pc + 1) (r.1, L, (1, r.2) :: K, M, cs, ss) ρ' ws) : tn_at p l e R s m args below meth c Q D A H0 F B0 ws0 y pc (E, L, (1, b) :: (1, a) :: K, M, cs, ss) ρ ws :=
  tn_at.bin (f := fun x z => x ^^^ z) (fun k => lv_ixor hX.1 hX.2.1 (tw_V.1 y pc _ _ hc) k) (fun x z h1 h2 h3 h4 h5 h6 => by subst hr; exact tk_shift (o := 7) h1 h2 h5 h6) k
/-- less than 0 by it -/
theorem tn_at.ineg (hX : tn_Cx y p R s m args meth c A H0 B0) (hc : tt_cd y pc = some (.ineg, 1)) {r : tk_E × tk_P} (hr : tk_sub 1 E (0, 0) a = r) (k : ∀ ρ' : Nat → Int, tk_env ρ' r.1 → tk_ag E.length ρ r.1.length ρ' → ρ' r.2.1 + r.2.2 = (-(Int32.ofInt (ρ a.1 + a.2))).toInt → tn_at p l e R s m args below meth c Q D A H0 F B0 ws0 y (pc + 1) (r.1, L, (1, r.2) :: K, M, cs, ss) ρ' ws) : tn_at p l e R s m args below meth c Q D A H0 F B0 ws0 y pc (E, L, (1, a) :: K, M, cs, ss) ρ ws := by
  intro B tys H locs ls lv st hk
  have hE : tk_env ρ E := hk.1
  have h0 : 0 < E.length ∧ ρ 0 = 0 := hk.2.1
  have hst : tk_stk ρ B E.length ((1, a) :: K) st := hk.2.2.2.2.1
  have hM : tk_mem ρ B E.length ws M := hk.2.2.2.2.2.1
  obtain ⟨v, st2, rfl, ha, ⟨x, rfl, ex⟩, hst2⟩ := tk_stk.uncons hst
  dsimp only at ha ex
  have hq := tk_isub (a := (0, 0)) (b := a) (x := 0) (y := x) hE h0 h0.1 ha (by dsimp only; rw [h0.2]; rfl) ex
  rw [Int32.zero_sub] at hq
  subst hr
  obtain ⟨ρ', g1, g3, g4, g5, g6⟩ := hq
  exact lv_ineg hX.1 hX.2.1 (tw_V.1 y pc _ _ hc) (k ρ' g3 ⟨g4, g1⟩ (by rw [g6, kc_cst ex]) B tys H locs ls lv _ ⟨g3, ⟨Nat.lt_of_lt_of_le h0.1 g4, by rw [g1 0 h0.1]; exact h0.2⟩, hk.2.2.1.ext g1 (tk_le.rf B) g4, hk.2.2.2.1, ⟨g5, ⟨-x, rfl, g6.symm⟩, tk_stk.ext g1 (tk_le.rf B) g4 hst2⟩, hM.ext g1 g4, hk.2.2.2.2.2.2⟩)
/-- an int out of an array, as it stands there -/
theorem tn_at.iald {t : Nat} {i : tk_P} {lo hi : Int} (hX : tn_Cx y p R s m args meth c A H0 B0) (hc : tt_cd y pc = some (.iaload, 1)) (hnm : tk_nm E t a = true) (hix : tk_ix E i (tt_kn (t - 10)).2.2.2.1 = true) (hkn : (tt_kn (t - 10)).1 = 1 ∧ (tt_kn (t - 10)).2.2.1 = .int) (hlo : (tt_kn (t - 10)).2.2.2.2.1 = (1, lo, hi)) (hfs : (tt_kn (t - 10)).2.2.2.2.2.1 = [])
    (k : ∀ ρ' : Nat → Int, tk_env ρ' (E ++ [(lo, hi, 0, 0, 0, 0)]) → tk_ag E.length ρ (E.length + 1) ρ' → ρ' E.length = tn_gi ws (ρ a.1 + a.2) (ρ i.1 + i.2).toNat → tn_at p l e R s m args below meth c Q D A H0 F B0 ws0 y (pc + 1) (E ++ [(lo, hi, 0, 0, 0, 0)], L, (1, E.length, 0) :: K, M, cs, ss) ρ' ws) : tn_at p l e R s m args below meth c Q D A H0 F B0 ws0 y pc (E, L, (1, i) :: (t, a) :: K, M, cs, ss) ρ ws := by
  intro B tys H locs ls lv st hk
  have hE : tk_env ρ E := hk.1
  have h0 : 0 < E.length ∧ ρ 0 = 0 := hk.2.1
  have hst : tk_stk ρ B E.length ((1, i) :: (t, a) :: K) st := hk.2.2.2.2.1
  have hM : tk_mem ρ B E.length ws M := hk.2.2.2.2.2.1
  obtain ⟨hK, hPw, hD, hS, hC, hFr, hLe, hBl⟩ := hk.2.2.2.2.2.2
  obtain ⟨vi, st1, rfl, hlti, ⟨x, rfl, exi⟩, hst1⟩ := tk_stk.uncons hst
  obtain ⟨v, st', rfl, hlt, hv, hst'⟩ := tk_stk.uncons hst1
  obtain ⟨ht, j, ad, rfl, hB, hz⟩ := tk_nm.ok hE hnm hv
  obtain ⟨e0, w1, w3⟩ := hC.2 _ _ _ hB
  obtain ⟨i1, i2, i3, i4, i5, i6⟩ := tk_ix.ok hix hE exi
  have w3 : tk_e tys B (tt_kn (t - 10)) e0 := w3
  unfold tk_e at w3
  rw [hkn.1, hkn.2] at w3
  obtain ⟨cA, t0, h2, rfl, w4, w7⟩ := w3
  refine va_iald hX.1 hX.2.1 hK hPw j t0 w1 w4 i1 (tw_V.1 y pc _ _ hc) ?_
  have hb := w7 _ i2
  rw [hlo, hfs] at hb
  obtain ⟨z, z1, z2, ⟨x2, e1, e2⟩⟩ := hb
  cases e1
  have z1 : lo ≤ z := z1
  have z2 : z ≤ hi := z2
  have hpush := tl_push (t := 1) (z := z) (lo := lo) (hi := hi) (v := .int (h2 x.toNatClampNeg)) (E := E) (L := L) (K := K) (M := M) (cs := cs) (ss := ss) (st := st') ⟨hE, h0, hk.2.2.1, hk.2.2.2.1, hst', hM, hK, hPw, hD, hS, hC, hFr, hLe, hBl⟩ z1 z2 ⟨_, rfl, e2⟩
  refine k _ hpush.1 ⟨Nat.le_succ _, fun q hq => va_up_ne _ _ (Nat.ne_of_lt hq)⟩ ?_ B tys H locs ls lv _ hpush
  rw [va_up_self, ← e2]
  refine (tn_gi.of ?_).symm
  unfold tl_pl
  rw [hz, show ((j : Int) + 1 - 1).toNat = j by omega, w1, ← i3, Int.toNat_natCast]
  have hp : tk_pl (.inl (cA, (tt_kn (t - 10)).2.2.2.1, .inl h2)) x.toNatClampNeg = some (.int (h2 x.toNatClampNeg)) := by unfold tk_pl; dsimp only; rw [if_pos i2]
  exact hp
/-- an int into an array -/
theorem tn_at.iast {t : Nat} {w i : tk_P} {M' : tk_M} (hX : tn_Cx y p R s m args meth c A H0 B0) (hc : tt_cd y pc = some (.iastore, 1)) (h : tk_ast (tk_TKT tt_T) F .iastore E ((1, w) :: (1, i) :: (t, a) :: K) M = some (K, M'))
    (k : ∀ ws' : va_W, tn_gi ws' (ρ a.1 + a.2) (ρ i.1 + i.2).toNat = ρ w.1 + w.2 → (∀ (z : Int) (n : Nat), 1 ≤ z → (z ≠ ρ a.1 + a.2 ∨ (n : Int) ≠ ρ i.1 + i.2) → tl_pl ws' z n = tl_pl ws z n) → tn_at p l e R s m args below meth c Q D A H0 F B0 ws0 y (pc + 1) (E, L, K, M', cs, ss) ρ ws') : tn_at p l e R s m args below meth c Q D A H0 F B0 ws0 y pc (E, L, (1, w) :: (1, i) :: (t, a) :: K, M, cs, ss) ρ ws := by
  intro B tys H locs ls lv st hk
  refine tl_ist h hX.1 hX.2.1 (tw_V.1 y pc _ _ hc) hk (fun ws' H1 locs1 st' hk' hw hch => ?_)
  obtain ⟨xw, e1, -, e2⟩ := hw
  exact k ws' (by rw [tn_gi.of e2, e1]) hch B tys H1 locs1 ls lv st' hk'
/-- a call by a contract with words on its answer -/
theorem tn_at.call {k : tk_K} {P : (Nat → Int) → tk_B → va_W → Prop} {Z : (Nat → Int) → tk_B → va_W → (Nat → Int) → tk_A → tk_B → va_W → Heap → Heap → Prop} {i : Instr} {n : Nat} {as K' : List tk_V} {xs : List tk_Lx} {rs : List tk_S} (hX : tn_Cx y p R s m args meth c A H0 B0) (hcon : ty_NCon l D A k P Z) (hc : tt_cd y pc = some (i, n)) (hcal : tk_cal tt_T tt_sc tt_nt y i n S = some (k.1, as, K')) (hF : k.2.2.2.2.2.all (fun q => tk_iG F q.1 q.2.1 q.2.2) = true) (hxs : tk_wi 1 S.2.2.2.2.1 S.2.2.2.2.2 (k.2.1, [], k.2.2.1, k.2.2.2.1, (0, 0), true) (S.1, [], as, S.2.2.2.1, S.2.2.2.2.1, S.2.2.2.2.2) = some xs) (hap : tk_apL tt_T k xs K' S k.2.2.2.2.1 = some rs)
    (hP : tk_env ρ S.1 → ∀ B : tk_B, tk_le B0 B → P (tk_rw 1 xs ρ) B ws)
    (kk : ∀ w r, (w, r) ∈ k.2.2.2.2.1.zip rs → ∀ (ρ' : Nat → Int) (ws' : va_W), tk_env ρ' r.1 → tk_ag S.1.length ρ r.1.length ρ' → tk_fr k.2.2.2.2.2 B0 ws ws' → (∃ (ρe : Nat → Int) (B B' : tk_B) (H H' : Heap), (∀ j : Nat, ρ' (S.1.length + j) = ρe ((tk_E0 k).length + j)) ∧ Z (tk_rw 1 xs ρ) B ws ρe w B' ws' H H') → tn_at p l e R s m args below meth c Q D A H0 F B0 ws0 y (pc + 3) r ρ' ws') : tn_at p l e R s m args below meth c Q D A H0 F B0 ws0 y pc S ρ ws := by
  intro B tys H locs ls lv st hk
  have hle : tk_le B0 B := hk.2.2.2.2.2.2.2.2.2.2.2.2.1
  refine tn_app (nA := 0) (ρ0 := fun _ => 0) (F := F) tw_V tw_LV tw_Ts_good (tx_Sc A) ty_Tx hX hc hcal hcon hF hxs hk ⟨Nat.zero_le _, fun k hk => absurd hk (Nat.not_lt_zero _)⟩ (hP hk.1 B hle) (fun w hw => ?_)
  obtain ⟨r, hr1, hr2⟩ := tm_apLU hap hw
  refine ⟨r, hr2, fun ρ' B' ws' tys' H' locs' st' hk' _ hg' hf' hle' hz => ?_⟩
  obtain ⟨ρe, z1, z2⟩ := hz
  exact kk w r hr1 ρ' ws' hk'.1 hg' (hf'.dn hle) ⟨ρe, B, B', H, H', z1, z2⟩ B' tys' H' locs' ls lv st' hk'
/-- a return -/
theorem tn_at.ret {k : tk_K} {ρ0 : Nat → Int} {o : Nat × tk_S} {w : tk_A} {xs : List tk_Lx} {Z : (Nat → Int) → tk_A → tk_B → va_W → Heap → Heap → Prop} (hy : k.1 ≠ 0) (hM : tk_MV tt_T tw_U tw_Ts k.1) (hX : tn_Cx k.1 p R s m args meth c A H0 B0) (hr : meth.sig.returnType = tw_U.2.2.2 k.1) (hlocks : meth.locks = false) (hH : H0 = s.heap) (hR : tk_Ret tt_T k.1 o) (hE0 : tk_env ρ0 (tk_E0 k)) (hg : tk_ag (tk_E0 k).length ρ0 o.2.1.length ρ) (hw : w ∈ k.2.2.2.2.1) (hxs : tk_wi (tk_E0 k).length (tk_Tmi tt_T k.1).2.2.1 (tk_Tmi tt_T k.1).2.2.2.1 w (o.2.1, [], o.2.2.2.1, o.2.2.2.2.1, (tk_Tmi tt_T k.1).2.2.1, (tk_Tmi tt_T k.1).2.2.2.1) = some xs) (hz : ∀ (B : tk_B) (H : Heap), Z (tk_rw (tk_E0 k).length xs ρ) w B ws s.heap H) : tn_at p l e R s m args below meth c (MQ below (tn_Qc tt_T D tw_cl A k ρ0 B0 ws0 Z) args s (tk_Tmi tt_T k.1).2.2.1 (tk_Tmi tt_T k.1).2.2.2.1 A) D A H0 k.2.2.2.2.2 B0 ws0 k.1 o.1 o.2 ρ ws := by
  intro B tys H locs ls lv st hk
  have hX' : tk_Cx tt_T tw_U tw_Ts tw_NWs tw_TXs (tx_St A) k.1 p R s m args meth c A H0 B0 (tk_E0 k).length ρ0 := by
    obtain ⟨x1, x2, x3, x4, x5, x6, x7, x8, x9, -⟩ := hX
    exact ⟨x1, x2, x3, x4, x5, x6, x7, x8, x9, fun q => absurd q hy⟩
  exact tn_ret tw_V hM hX' hr hlocks hH hR hk hg hE0 hw hxs (fun _ => hz B H)
end TN
section TP
variable {l : Launch} {D : va_G} {A : Nat → Prop}
/-- a contract with words on its answer, out of a walk by hand -/
theorem tn_walk {k : tk_K} {P : (Nat → Int) → tk_B → va_W → Prop} {Z : (Nat → Int) → tk_B → va_W → (Nat → Int) → tk_A → tk_B → va_W → Heap → Heap → Prop} (hy : k.1 ≠ 0) (hM : tk_MV tt_T tw_U tw_Ts k.1) (hlen : (tk_loc0 k.2.2.1).length ≤ (tk_Tmi tt_T k.1).1)
    (h : ∀ (ρ : Nat → Int) (B : tk_B) (ws : va_W) (H : Heap) (p : Program) (e : Env) (s : State) (m : MethodId) (args : Array Value) (below : List Frame) (meth : Method) (c : Code), tk_env ρ (tk_E0 k) → ρ 0 = 0 → P ρ B ws → tn_Cx k.1 p (tk_rm tt_T k.1) s m args meth c A H B → meth.sig.returnType = tw_U.2.2.2 k.1 → meth.locks = false → H = s.heap → tk_mem ρ B (tk_E0 k).length ws k.2.2.2.1 → tn_at p l e (tk_rm tt_T k.1) s m args below meth c (MQ below (tn_Qc tt_T D tw_cl A k ρ B ws (Z ρ B ws)) args s (tk_Tmi tt_T k.1).2.2.1 (tk_Tmi tt_T k.1).2.2.2.1 A) D A H k.2.2.2.2.2 B ws k.1 0 (tk_E0 k, tk_lc (tk_Tmi tt_T k.1).1 k.2.2.1, [], k.2.2.2.1, 0, 0) ρ ws) : ty_NCon l D A k P Z :=
  tn_met tw_V hM hy hlen (fun ρ B ws tys H p e s m args below meth c ls lv hE hPP hX hr hlocks hH hk => h ρ B ws H p e s m args below meth c hE hk.2.1.2 hPP (tn_Cx.of hy hX) hr hlocks hH hk.2.2.2.2.2.1 B tys H [] ls lv [] hk)
/-- .. without those words -/
theorem tn_Con.tl {k : tk_K} {P : (Nat → Int) → tk_B → va_W → Prop} {Z : (Nat → Int) → tk_B → va_W → (Nat → Int) → tk_A → tk_B → va_W → Heap → Heap → Prop} {Z' : (Nat → Int) → tk_B → va_W → tk_A → tk_B → va_W → Heap → Heap → Prop} (h : ty_NCon l D A k P Z) (hZ : ∀ ρ B ws ρe w B' ws' H H', Z ρ B ws ρe w B' ws' H H' → Z' ρ B ws w B' ws' H H') : ty_Con l D A k P Z' := by
  intro ρ B ws tys H vs hE h0 has hMm hPw hD hC hA hcap hPP
  refine Jvm.Free.MetFree.mono (h ρ B ws tys H vs hE h0 has hMm hPw hD hC hA hcap hPP) (fun _ _ q => q) (fun _ _ _ _ _ q => q) (fun a st o t _ q => ⟨?_, q.2⟩)
  obtain ⟨⟨w, hw, ρ', B', ws', tys', v, q0, q1, q2, q3, q4, q5, q6, q7, q8, q9, q10, q11, q12, q13, q14⟩, -⟩ := q
  exact ⟨w, hw, ρ', B', ws', tys', v, q0, q1, q2, q3, q4, q5, q6, q7, q8, q9, q10, q11, q12, q13, hZ _ _ _ _ _ _ _ _ _ q14⟩
end TP
