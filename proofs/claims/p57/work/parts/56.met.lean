/-- what the tables say of a class's links to methods -/
def kc_LV (T : kc_T) (U : kc_U) (Ts : List Jvm.Cond) (NWs : List (String × Nat × MethodName × String)) : Prop := ∀ ci ix kd y : Nat, kc_Tlk T ci ix = some (kd, y) →
  (kd = 3 → Cond.methodLink (U.1 ci) ix Lib.objectInit ∈ Ts ∧ Cond.instanceMethod Lib.objectInit ∈ Ts ∧ Cond.code Lib.objectInit ⟨#[0xb1]⟩ 1 none ∈ Ts) ∧
  (kd = 4 → Cond.methodLink (U.1 ci) ix arraycopyName ∈ Ts ∧ Cond.native arraycopyName ∈ Ts ∧ Cond.static arraycopyName ∈ Ts ∧ Cond.initialized "java/lang/System" ∈ Ts) ∧
  (kd = 5 → Cond.methodLink (U.1 ci) ix Lib.Math.min.name ∈ Ts ∧ Cond.static Lib.Math.min.name ∈ Ts ∧ Cond.initialized "java/lang/Math" ∈ Ts ∧ Cond.code Lib.Math.min.name Lib.Math.min.code 2 (some .int) ∈ Ts) ∧
  (kd = 6 → Cond.methodLink (U.1 ci) ix Lib.Math.max.name ∈ Ts ∧ Cond.static Lib.Math.max.name ∈ Ts ∧ Cond.initialized "java/lang/Math" ∈ Ts ∧ Cond.code Lib.Math.max.name Lib.Math.max.code 2 (some .int) ∈ Ts) ∧
  (kd ≠ 3 → kd ≠ 4 → kd ≠ 5 → kd ≠ 6 → kc_MV T U Ts y ∧ (kd = 0 ∨ kd = 1 ∨ kd = 2 → Cond.methodLink (U.1 ci) ix (U.2.1 y) ∈ Ts) ∧ (kd = 10 ∨ kd = 11 ∨ kd = 12 → ∃ host, (U.1 ci, ix, U.2.1 y, host) ∈ NWs) ∧
    (kd = 0 ∨ kd = 10 → Cond.instanceMethod (U.2.1 y) ∈ Ts ∧ Cond.selects (U.2.1 y).cls (U.2.1 y) (U.2.1 y) ∈ Ts ∧ (parseMethodDescriptor (U.2.1 y).desc).map (fun d => d.parameters.length) = some ((kc_Tmi T y).2.1.length - 1)) ∧
    (kd = 1 ∨ kd = 11 → Cond.static (U.2.1 y) ∈ Ts ∧ (parseMethodDescriptor (U.2.1 y).desc).map (fun d => d.parameters.length) = some (kc_Tmi T y).2.1.length) ∧
    (kd = 2 ∨ kd = 12 → Cond.instanceMethod (U.2.1 y) ∈ Ts ∧ (U.2.1 y).name = "<init>" ∧ U.2.2.2 y = none ∧ (parseMethodDescriptor (U.2.1 y).desc).map (fun d => d.parameters.length) = some ((kc_Tmi T y).2.1.length - 1)))
section KP
variable {T : kc_T} {U : kc_U} {Ts : List Jvm.Cond} {AOs : List String} {NWs : List (String × Nat × MethodName × String)} {y : Nat}
variable {p : Program} {l : Launch} {e : Env} {R : Room} {s : State} {m : MethodId} {args : Array Value} {below : List Frame} {meth : Method} {c : Code} {Q : State → Prop}
variable {D : va_G} {cl : List vw_C} {A : Nat → Prop} {H0 : Heap}
variable {nA : Nat} {ρ0 : Nat → Int} {nB : Nat} {β0 : Nat → Nat}
/-- a method's contract at one call -/
def kc_Pc (AOs : List String) (NWs : List (String × Nat × MethodName × String)) (D : va_G) (cl : List vw_C) (A : Nat → Prop) (vs : List Value) (H : Heap) (tys : List (ClassId × FieldType)) (n : Nat) (ρ : Nat → Int) (β : Nat → Nat) : Array Value → State → Prop := fun v Us => v = vs.toArray ∧ Us.heap = H ∧ kc_Dy AOs NWs Us ∧ va_K D cl tys Us ∧ kc_X Us A H n ρ β
theorem kc_Pc.blind {vs : List Value} {H : Heap} {tys : List (ClassId × FieldType)} {n : Nat} {ρ : Nat → Int} {β : Nat → Nat} : FrameBlind (kc_Pc AOs NWs D cl A vs H tys n ρ β) := fun a Us g mk q => by
  obtain ⟨q1, q2, q3, q4, q5⟩ := q
  have hvm : Us.vm = (Us.calling g mk a).vm := rfl
  exact ⟨q1, q2, q3.same hvm, q4.moved (kc_alike_eq hvm), q5.moved (kc_alike_eq hvm) (Nat.le_refl _) (fun _ _ _ => rfl)⟩
set_option maxHeartbeats 4000000 in
theorem kc_met {as : List kc_V} {S : kc_S} {os : List (Nat × kc_S)} {vs : List Value} {ρ : Nat → Int} {β : Nat → Nat} {ws : va_W} {tys : List (ClassId × FieldType)} {H : Heap} (hV : kc_TV T U cl Ts AOs) (hM : kc_MV T U Ts y) (hE : kc_env ρ S.1) (h0 : 0 < S.1.length ∧ ρ 0 = 0) (has : kc_stk ρ β S.2.2.2.1.length S.1.length as vs) (hP : va_P D cl ws H) (hD : va_D A ws) (hC : kc_C ρ β S.1.length tys S.2.2.2.1 ws) (hA : ∀ q, H.size ≤ q → A q) (hlen : (kc_loc0 as).length ≤ (kc_Tmi T y).1)
    (hrun : ∀ (p : Program) (e : Env) (s : State) (m : MethodId) (args : Array Value) (below : List Frame) (meth : Method) (c : Code) (Q : State → Prop), kc_Cx T U Ts AOs NWs y p (kc_rm T y) s m args meth c A H S.1.length ρ β → (∀ o ∈ os, kc_J p l e (kc_rm T y) s m args below meth c Q D cl A H (kc_Tmi T y).1 S.1.length ρ S.2.2.2.1.length β o.1 o.2) → kc_J p l e (kc_rm T y) s m args below meth c Q D cl A H (kc_Tmi T y).1 S.1.length ρ S.2.2.2.1.length β (kc_ent T y as S).1 (kc_ent T y as S).2)
    (hret : ∀ o ∈ os, kc_Ret T y o) : Met l (U.2.1 y) (kc_ws T U Ts y) (kc_rm T y) (kc_Pc AOs NWs D cl A vs H tys S.1.length ρ β) (kc_Qc D cl A os S.1.length ρ S.2.2.2.1.length β) (kc_Tmi T y).2.2.1 (kc_Tmi T y).2.2.2.1 A := by
  obtain ⟨m1, m2, m3, m4, m5, m6, m7⟩ := hM
  refine Met.ofW (cc := U.2.2.1 y) (maxL := (kc_Tmi T y).1) (ret := U.2.2.2 y) m3 rfl ?_
  intro p e s m args below meth c s₁ B hml hv
  obtain ⟨rfl, hH, hdy, hK, hX⟩ := hv
  have hts : ∀ w ∈ Ts, w.before vs.toArray s = true := fun w hw => atoms_spec (ws := kc_ws T U Ts y) B.pre w (List.mem_cons_of_mem _ hw)
  have Cx : kc_Cx T U Ts AOs NWs y p (kc_rm T y) s m vs.toArray meth c A H S.1.length ρ β := ⟨B.exec, B.bytes, hml, by rw [m5]; exact findClass_of_methodNamed B.named, hts, hdy, fun h => (name_of_methodNamed B.named B.method).1.trans (m6 h), hA, ⟨Nat.le_refl _, Nat.le_refl _, Nat.le_refl _, Nat.le_refl _⟩, hX⟩
  have J0 := hrun p e s m vs.toArray below meth c _ Cx (fun o ho => kc_J.ret (l := l) (e := e) (below := below) (D := D) (nB := S.2.2.2.1.length) hV ⟨m1, m2, m3, m4, m5, m6, m7⟩ Cx B.returns B.notSynchronized hH.symm ho (hret o ho))
  obtain ⟨g1, g2⟩ := kc_loc0.ok 0 has
  have hl := lv_entry vs (n := (kc_Tmi T y).1) (by rw [g1]; exact hlen)
  rw [lg_entry_eq]
  refine J0 ρ β ws tys s.heap [] _ (lv_args 0 vs) [] ⟨hE, h0, fun i a ha hne => ?_, hl, trivial, hK, by rw [hH]; exact hP, hD, by rw [hH]; exact va_S.rf, hC⟩ ⟨Nat.le_refl _, Nat.le_refl _, fun _ _ => rfl, fun _ _ => rfl⟩
  have ha : (kc_loc0 as ++ List.replicate ((kc_Tmi T y).1 - (kc_loc0 as).length) (0, 0, 0))[i]? = some a := ha
  by_cases hi : i < (kc_loc0 as).length
  · rw [List.getElem?_append_left hi] at ha
    have h9 := g2 i a ha hne
    rw [Nat.zero_add] at h9
    exact h9
  · rw [List.getElem?_append_right (by omega), List.getElem?_replicate] at ha
    split at ha
    · cases ha
      exact absurd rfl hne
    · cases ha
/-- behind a call -/
theorem kc_J.after {os : List (Nat × kc_S)} {E : kc_E} {L K K' : List kc_V} {Hs : List kc_G} {cs ss mc ms pc : Nat} {X : Array Value} {ρ : Nat → Int} {β : Nat → Nat} {ws : va_W} {tys : List (ClassId × FieldType)} {H : Heap} {locs : List Loc} {ls : Array Slot} {lv : List (Nat × Value)} {st rest : List Value}
    (hr : va_Run p l e R s m args below meth c H locs cs ss mc ms (F0 m pc ls st) rest (kc_Qc D cl A os E.length ρ Hs.length β X) A) (hk : kc_ok D cl A s H0 (kc_Tmi T y).1 E L K Hs ρ β ws tys H locs ls lv st) (hg : kc_ag nA ρ0 nB β0 E.length Hs.length ρ β) (hrest : kc_stk ρ β Hs.length E.length K' rest)
    (k : ∀ o ∈ os, kc_J p l e R s m args below meth c Q D cl A H0 (kc_Tmi T y).1 nA ρ0 nB β0 (kc_back pc L K' (cs + mc) (ss + ms) o).1 (kc_back pc L K' (cs + mc) (ss + ms) o).2) : W p l e R s m args below meth c H locs cs ss Q (F0 m pc ls st) := by
  intro TT hT XX
  obtain ⟨v, st₀, t, T', L', h0, X', hL', e1, e2, ⟨o, ho, ρ', β', ws', tys', v', hv, q1, q2, q3, q4, q5, q6, q7, q8, q9⟩, stp⟩ := hr TT hT XX
  cases hv
  obtain ⟨hE, hz, hL, hl, hst, hK, hPw, hD, hS, hC⟩ := hk
  obtain ⟨f1, f2⟩ := q9
  rw [h0] at f1 f2
  have g1 : ∀ k, k < E.length → ρ' k = ρ k := q4.2.2.1
  have g2 : ∀ k, k ≤ Hs.length → β' k = β k := q4.2.2.2
  have hKs : va_K D cl tys' s := q5.moved (by rw [← e2]; exact X'.warmed.alike.symm)
  obtain ⟨t2, a1, b1⟩ := k o ho ρ' β' ws' tys' T'.heap (locs ++ L') ls lv (v.toList ++ rest)
    ⟨q2, q3, hL.ext g1 g2 q4.2.1 q4.1, hl, kc_as.app q1 (kc_stk.ext g1 g2 q4.2.1 q4.1 hrest), hKs, by rw [e1]; exact q6, q7, ⟨by rw [e1]; exact Nat.le_trans hS.1 f1, fun q h1 h2 => by rw [e1, f2 q (Nat.lt_of_lt_of_le h1 hS.1) h2]; exact hS.2.1 q h1 h2, fun q hq => by
      rcases List.mem_append.mp hq with h | h
      · exact hS.2.2 q h
      · exact hL' q h⟩, q8⟩ (hg.ext g1 g2 q4.1 q4.2.1) T' rfl X'
  exact ⟨t2, stp t2 a1, b1⟩
theorem kc_recv.ok {kd ci : Nat} {Hs : List kc_G} {E : kc_E} {as : List kc_V} {vs : List Value} {ρ : Nat → Int} {β : Nat → Nat} {N n : Nat} (h : kc_recv kd Hs E as ci = true) (h1 : kd ≠ 1) (h2 : kd ≠ 11) (hE : kc_env ρ E) (hs : kc_stk ρ β N n as vs) : ∃ (r : Nat) (g : kc_G) (As : List Value), vs = .ref (β (r + 1)) :: As ∧ Hs[r]? = some g ∧ g.1 = 0 ∧ g.2.1 = ci := by
  unfold kc_recv at h
  have e1 : Nat.beq kd 1 = false := by
    cases hq : Nat.beq kd 1 with
    | true => exact absurd (Nat.eq_of_beq_eq_true hq) h1
    | false => rfl
  have e2 : Nat.beq kd 11 = false := by
    cases hq : Nat.beq kd 11 with
    | true => exact absurd (Nat.eq_of_beq_eq_true hq) h2
    | false => rfl
  rw [e1, e2, Bool.false_or, Bool.false_or] at h
  split at h
  · rename_i k d as'
    split at h
    · rename_i r ci' rst hc
      obtain ⟨v, As, rfl, -, hv, -⟩ := kc_stk.uncons hs
      obtain ⟨rfl, hH⟩ := kc_cell.ok hc hE hv
      exact ⟨r, _, As, rfl, hH, rfl, (Nat.eq_of_beq_eq_true h).symm⟩
    · cases h
  · cases h
end KP
