/-- is a value of a type that a method takes (3: a reference or a text)? -/
def tk_tq (t : Nat) (a : tk_V) : Bool := if Nat.beq t 3 = true then (Nat.ble 10 a.1 || Nat.beq a.1 6) else Nat.beq a.1 t
/-- arguments off the stack (the last one on top), by their types from the last on -/
def tk_args : List Nat → List tk_V → List tk_V → Option (List tk_V × List tk_V)
  | [], K, as => some (as, K)
  | t :: ts, a :: K, as => if tk_tq t a = true then tk_args ts K (a :: as) else none
  | _ :: _, [], _ => none
/-- the object of which a method is called is there, and of its class; texts are of class sc -/
def tk_rcv (KT : Nat → tk_G) (sc nt : Nat) (kd : Nat) (E : tk_E) (as : List tk_V) (ci : Nat) : Bool := Nat.beq kd 1 || Nat.beq kd 11 || (match as with
  | (6, n, z) :: _ => Nat.beq ci sc && Nat.beq n 0 && decide (0 ≤ z ∧ z < (nt : Int))
  | (t, a) :: _ => tk_nm E t a && Nat.beq (KT (t - 10)).1 0 && Nat.beq (KT (t - 10)).2.1 ci
  | _ => false)
/-- by which kind of link an instruction goes -/
def tk_kq (i : Instr) (kd : Nat) : Bool := match i with
  | .invokevirtual _ => Nat.beq kd 0 || Nat.beq kd 10
  | .invokestatic _ => Nat.beq kd 1 || Nat.beq kd 11
  | _ => false
/-- a call: the method, its arguments, and what is left on the stack -/
def tk_cal (T : tk_T) (sc nt : Nat) (y : Nat) (i : Instr) (n : Nat) (S : tk_S) : Option (Nat × List tk_V × List tk_V) := match tk_Tlk T (tk_Tmi T y).2.2.2.2.2.2.1 (kc_lnk i).1 with
  | some (kd, y') => if (Nat.beq n 3 && tk_kq i kd) = true then
      (match tk_args (tk_Tmi T y').2.1.reverse S.2.2.1 [] with
      | some (as, K') => if (Nat.ble (tk_cat K') 8 && Nat.ble (S.2.2.2.2.1 + (tk_Tmi T y').2.2.1) (tk_Tmi T y).2.2.1 && Nat.ble (S.2.2.2.2.2 + (tk_Tmi T y').2.2.2.1) (tk_Tmi T y).2.2.2.1 && Nat.ble ((tk_Tmi T y').2.2.2.2.1 + 1) (tk_Tmi T y).2.2.2.2.1 && Nat.ble (19 + (tk_Tmi T y').1 + (tk_Tmi T y').2.2.2.2.2.1) (tk_Tmi T y).2.2.2.2.2.1 && Nat.ble (tk_loc0 as).length (tk_Tmi T y').1 && !(Nat.beq y' 0) && tk_rcv (tk_TKT T) sc nt kd S.1 as (tk_Tmi T y').2.2.2.2.2.2.1) = true then some (y', as, K') else none
      | none => none)
      else none
  | none => none
/-- what the tables say of a class's links to methods -/
def tk_LV (T : tk_T) (U : kc_U) (Ts : List Jvm.Cond) (NWs : List (String × Nat × MethodName × String)) : Prop := ∀ ci ix kd y : Nat, tk_Tlk T ci ix = some (kd, y) →
  (kd = 4 → Cond.methodLink (U.1 ci) ix arraycopyName ∈ Ts ∧ Cond.native arraycopyName ∈ Ts ∧ Cond.static arraycopyName ∈ Ts ∧ Cond.initialized "java/lang/System" ∈ Ts) ∧
  (kd = 0 ∨ kd = 1 ∨ kd = 10 ∨ kd = 11 → tk_MV T U Ts y ∧ (kd = 0 ∨ kd = 1 → Cond.methodLink (U.1 ci) ix (U.2.1 y) ∈ Ts) ∧ (kd = 10 ∨ kd = 11 → ∃ host, (U.1 ci, ix, U.2.1 y, host) ∈ NWs) ∧
    (kd = 0 ∨ kd = 10 → Cond.instanceMethod (U.2.1 y) ∈ Ts ∧ Cond.selects (U.2.1 y).cls (U.2.1 y) (U.2.1 y) ∈ Ts ∧ (parseMethodDescriptor (U.2.1 y).desc).map (fun d => d.parameters.length) = some ((tk_Tmi T y).2.1.length - 1)) ∧
    (kd = 1 ∨ kd = 11 → Cond.static (U.2.1 y) ∈ Ts ∧ (parseMethodDescriptor (U.2.1 y).desc).map (fun d => d.parameters.length) = some (tk_Tmi T y).2.1.length))
theorem tk_args.ok {ρ : Nat → Int} {B : tk_B} {n : Nat} : ∀ {ts : List Nat} {K : List tk_V} {as0 : List tk_V} {as K' : List tk_V} {st vs0 : List Value}, tk_args ts K as0 = some (as, K') → tk_stk ρ B n K st → tk_stk ρ B n as0 vs0 → ∃ vs rest : List Value, tk_stk ρ B n as (vs ++ vs0) ∧ tk_stk ρ B n K' rest ∧ st = vs.reverse ++ rest ∧ vs.length = ts.length
  | [], K, as0, as, K', st, vs0, h, h1, h2 => by
    cases h
    exact ⟨[], st, h2, h1, rfl, rfl⟩
  | t :: ts, a :: K, as0, as, K', st, vs0, h, h1, h2 => by
    unfold tk_args at h
    split at h
    · obtain ⟨v, st', rfl, hlt, hv, hst'⟩ := tk_stk.uncons h1
      obtain ⟨vs, rest, g1, g2, g3, g4⟩ := tk_args.ok (vs0 := v :: vs0) h hst' ⟨hlt, hv, h2⟩
      refine ⟨vs ++ [v], rest, by rw [List.append_assoc]; exact g1, g2, ?_, by rw [List.length_append, g4]; rfl⟩
      rw [g3]
      simp
    · cases h
  | t :: ts, [], as0, as, K', st, vs0, h, h1, h2 => by cases h
theorem tk_stk.app {ρ : Nat → Int} {B : tk_B} {n : Nat} : ∀ {K1 K2 : List tk_V} {s1 s2 : List Value}, tk_stk ρ B n K1 s1 → tk_stk ρ B n K2 s2 → tk_stk ρ B n (K1 ++ K2) (s1 ++ s2)
  | [], _, [], _, _, h => h
  | _ :: _, _, _ :: _, _, h1, h2 => ⟨h1.1, h1.2.1, tk_stk.app h1.2.2 h2⟩
  | [], _, _ :: _, _, h, _ => absurd h id
  | _ :: _, _, [], _, h, _ => absurd h id
section TN
variable {T : tk_T} {U : kc_U} {Ts : List Jvm.Cond} {NWs : List (String × Nat × MethodName × String)} {TXs : List (String × Nat × String × Nat)} {St : (Nat → Nat) → State → Heap → Prop} {y : Nat}
variable {p : Program} {l : Launch} {e : Env} {R : Room} {s : State} {m : MethodId} {args : Array Value} {below : List Frame} {meth : Method} {c : Code} {Q : State → Prop}
variable {D : va_G} {cl : List vw_C} {A : Nat → Prop} {H0 : Heap} {F F' : List (Nat × Nat × Nat)} {B0 : tk_B} {ws0 : va_W}
variable {nA : Nat} {ρ0 : Nat → Int}
/-- behind a call -/
theorem tk_after {KT : Nat → tk_G} {os : List (Nat × tk_S)} {n cs ss mc ms pc : Nat} {X : Array Value} {ρ1 : Nat → Int} {B : tk_B} {ws : va_W} {H : Heap} {locs : List Loc} {ls : Array Slot} {st rest : List Value}
    (hr : va_Run p l e R s m args below meth c H locs cs ss mc ms (F0 m pc ls st) rest (tk_Qc D cl A KT F' mc os n ρ1 B ws X) A) (hS : va_S A H0 H locs)
    (k : ∀ o ∈ os, ∀ (ρ' : Nat → Int) (B' : tk_B) (ws' : va_W) (tys' : List (ClassId × FieldType)) (v : Option Value) (H' : Heap) (locs' : List Loc), tk_stk ρ' B' o.2.1.length o.2.2.2.1 v.toList → tk_env ρ' o.2.1 → (0 < o.2.1.length ∧ ρ' 0 = 0) → tk_ag n ρ1 o.2.1.length ρ' → tk_mem ρ' B' o.2.1.length ws' o.2.2.2.2.1 → va_K D cl tys' s → va_P D cl ws' H' → va_D A ws' → va_S A H0 H' locs' → tk_C KT tys' B' ws' → tk_fr F' B ws ws' → tk_le B B' → B'.2.2.length ≤ B.2.2.length + mc → W p l e R s m args below meth c H' locs' (cs + mc) (ss + ms) Q (F0 m (pc + 3) ls (v.toList ++ rest))) : W p l e R s m args below meth c H locs cs ss Q (F0 m pc ls st) := by
  intro TT hT XX
  obtain ⟨v, st₀, t, T', L', h0, X', hL', e1, e2, ⟨o, ho, ρ', B', ws', tys', v', hv, q1, q2, q3, q4, q5, q6, q7, q8, q9, q10, q11, q12, q13⟩, stp⟩ := hr TT hT XX
  cases hv
  obtain ⟨f1, f2⟩ := q13
  rw [h0] at f1 f2
  have hKs : va_K D cl tys' s := q6.moved (by rw [← e2]; exact X'.warmed.alike.symm)
  obtain ⟨t2, a1, b1⟩ := k o ho ρ' B' ws' tys' v T'.heap (locs ++ L') q1 q2 q3 q4 q5 hKs (by rw [e1]; exact q7) q8 ⟨by rw [e1]; exact Nat.le_trans hS.1 f1, fun q h1 h2 => by rw [e1, f2 q (Nat.lt_of_lt_of_le h1 hS.1) h2]; exact hS.2.1 q h1 h2, fun q hq => by
      rcases List.mem_append.mp hq with h | h
      · exact hS.2.2 q h
      · exact hL' q h⟩ q9 q10 q11 q12 T' rfl X'
  exact ⟨t2, stp t2 a1, b1⟩
set_option maxHeartbeats 8000000 in
/-- a call by a contract -/
theorem tk_cal.ok {sc nt : Nat} {i : Instr} {n pc : Nat} {S : tk_S} {y' : Nat} {as K' : List tk_V} (hV : tk_TV T U cl Ts TXs) (hLV : tk_LV T U Ts NWs) (hG : GoodIn Ts Ts) (hSc : tk_Sc A St) (hTx : ∀ (s : State) (H : Heap) (ad : Nat → Nat), tk_Dx NWs TXs St ad s H → ∀ k, k < nt → ∃ cell : Cell, H[ad k]? = some cell ∧ cell.vm.isStatics = false ∧ s.vm.findClass (U.1 sc) = some cell.cls)
    (hX : tk_Cx T U Ts NWs TXs St y p R s m args meth c A H0 B0 nA ρ0) (hc : tk_Tcd T y pc = some (i, n)) (h : tk_cal T sc nt y i n S = some (y', as, K'))
    {ρ : Nat → Int} {B : tk_B} {ws : va_W} {tys : List (ClassId × FieldType)} {H : Heap} {locs : List Loc} {ls : Array Slot} {lv : List (Nat × Value)} {st : List Value} (hk : tk_ok D cl A s H0 (tk_TKT T) F B0 ws0 (tk_Tmi T y).1 S ρ B ws tys H locs ls lv st)
    (k : ∀ (vs rest : List Value), tk_stk ρ B S.1.length as vs → tk_stk ρ B S.1.length K' rest → (tk_loc0 as).length ≤ (tk_Tmi T y').1 → S.2.2.2.2.1 + (tk_Tmi T y').2.2.1 ≤ (tk_Tmi T y).2.2.1 → y' ≠ 0 → tk_MV T U Ts y' → ∃ Qg : Array Value → State → Outcome → State → Prop, Met l (U.2.1 y') (tk_ws_ T U Ts y') (tk_rm T y') (tk_Pc NWs TXs St D cl B.2.1 vs H tys) Qg (tk_Tmi T y').2.2.1 (tk_Tmi T y').2.2.2.1 A ∧ ∀ X : Array Value, va_Run p l e R s m args below meth c H locs S.2.2.2.2.1 S.2.2.2.2.2 (tk_Tmi T y').2.2.1 (tk_Tmi T y').2.2.2.1 (F0 m pc ls (vs.reverse ++ rest)) rest (Qg X) A → W p l e R s m args below meth c H locs S.2.2.2.2.1 S.2.2.2.2.2 Q (F0 m pc ls (vs.reverse ++ rest))) : W p l e R s m args below meth c H locs S.2.2.2.2.1 S.2.2.2.2.2 Q (F0 m pc ls st) := by
  have hd := hV.1 _ _ _ _ hc
  obtain ⟨hx, hb, hml, hown, hts, hdx, hA, ⟨r1, r2, r3, r4⟩, hcap, hXX⟩ := hX
  obtain ⟨hE, h0, hL, hl, hst, hMm, hK, hPw, hD, hS, hC, hFr, hLe, hBl⟩ := hk
  unfold tk_cal at h
  split at h
  · rename_i kd y2 hlk
    obtain ⟨-, l5⟩ := hLV _ _ _ _ hlk
    split at h
    · rename_i hn
      rw [Bool.and_eq_true] at hn
      obtain ⟨hn1, hn2⟩ := hn
      have hn1 := tk_bq hn1
      subst hn1
      split at h
      · rename_i as2 K2 has0
        split at h
        · rename_i hcc
          cases h
          simp only [Bool.and_eq_true] at hcc
          obtain ⟨⟨⟨⟨⟨⟨⟨c1, c2⟩, c3⟩, c4⟩, c5⟩, c6⟩, c7⟩, hrc⟩ := hcc
          have c1 := Nat.le_of_ble_eq_true c1
          have c2 := Nat.le_of_ble_eq_true c2
          have c3 := Nat.le_of_ble_eq_true c3
          have c4 := Nat.le_of_ble_eq_true c4
          have c5 := Nat.le_of_ble_eq_true c5
          have c6 := Nat.le_of_ble_eq_true c6
          have hy0 : y' ≠ 0 := fun q => by rw [q] at c7; cases c7
          obtain ⟨vs, rest, q1, q2, rfl, q4⟩ := tk_args.ok (vs0 := []) has0 hst trivial
          rw [List.append_nil] at q1
          rw [List.length_reverse] at q4
          have hkd : kd = 0 ∨ kd = 1 ∨ kd = 10 ∨ kd = 11 := by
            unfold tk_kq at hn2
            split at hn2
            · rw [Bool.or_eq_true] at hn2
              rcases hn2 with q | q
              · exact Or.inl (tk_bq q)
              · exact Or.inr (Or.inr (Or.inl (tk_bq q)))
            · rw [Bool.or_eq_true] at hn2
              rcases hn2 with q | q
              · exact Or.inr (Or.inl (tk_bq q))
              · exact Or.inr (Or.inr (Or.inr (tk_bq q)))
            · cases hn2
          obtain ⟨hM, b1, b2, b3, b4⟩ := l5 hkd
          obtain ⟨Qg, hMet, hend⟩ := k vs rest q1 q2 c6 c2 hy0 hM
          have hdxH : tk_Dx NWs TXs St B0.2.1 s H := hdx.kept hSc hS
          have hBx : B.2.1 = B0.2.1 := hLe.2.1
          have hGw : GoodIn Ts (tk_ws_ T U Ts y') := fun w hw => by
            rcases List.mem_cons.mp hw with rfl | hw
            · exact hG _ hM.1
            · exact hG _ hw
          have hRR : (tk_rm T y').frames + 1 ≤ R.frames ∧ 8 + ((tk_Tmi T y').1 + 11) + (tk_rm T y').locals ≤ R.locals := ⟨Nat.le_trans c4 r3, by show 8 + ((tk_Tmi T y').1 + 11) + (tk_Tmi T y').2.2.2.2.2.1 ≤ R.locals; omega⟩
          have hcf : CallFix p m c (U.2.2.1 y) (tk_Tmi T y).1 s args Ts (U.1 (tk_Tmi T y).2.2.2.2.2.2.1) := ⟨hx, hb, hml, hown, hts⟩
          have hPre : ∀ Us : State, Us.heap = H → s.WarmedH Us.vm → tk_Pc NWs TXs St D cl B.2.1 vs H tys vs.toArray Us := fun Us h1 h2 => ⟨rfl, h1, by rw [hBx]; exact hdxH.warm hSc h2, hK.moved h2.alike⟩
          have hroom : 2 * (F0 m pc ls (vs.reverse ++ rest)).monitorRoom + (rest.map fun v => v.category).sum ≤ 8 := by
            rw [tk_cat.ok q2]
            show 2 * 0 + tk_cat K' ≤ 8
            omega
          have hcells : S.2.2.2.2.1 + (tk_Tmi T y').2.2.1 ≤ R.cells ∧ S.2.2.2.2.2 + (tk_Tmi T y').2.2.2.1 ≤ R.slots := ⟨Nat.le_trans c2 r1, Nat.le_trans c3 r2⟩
          have hls : (F0 m pc ls (vs.reverse ++ rest)).locals.size = (tk_Tmi T y).1 := hl.1
          have hInit := hts _ hM.2.1
          have hobj : kd ≠ 1 → kd ≠ 11 → ∃ (b : Nat) (As : List Value), vs = .ref b :: As ∧ As.length = (tk_Tmi T y').2.1.length - 1 ∧ ∃ cellB : Cell, H[b]? = some cellB ∧ cellB.vm.isStatics = false ∧ s.vm.findClass (U.2.1 y').cls = some cellB.cls := fun n1 n11 => by
            unfold tk_rcv at hrc
            have e1 : Nat.beq kd 1 = false := by
              cases hq : Nat.beq kd 1 with
              | true => exact absurd (tk_bq hq) n1
              | false => rfl
            have e2 : Nat.beq kd 11 = false := by
              cases hq : Nat.beq kd 11 with
              | true => exact absurd (tk_bq hq) n11
              | false => rfl
            rw [e1, e2, Bool.false_or, Bool.false_or] at hrc
            split at hrc
            · rename_i n2 z as' _
              simp only [Bool.and_eq_true] at hrc
              obtain ⟨⟨d1, d2⟩, d3⟩ := hrc
              have d3 := of_decide_eq_true d3
              have d2 := tk_bq d2
              subst d2
              obtain ⟨v, As, rfl, -, hv, -⟩ := tk_stk.uncons q1
              have hv : v = .ref (B.2.1 (ρ 0 + z).toNat) := hv
              rw [h0.2, Int.zero_add, hBx] at hv
              subst hv
              obtain ⟨cell, y1, y2, y3⟩ := hTx s H B0.2.1 hdxH z.toNat (by omega)
              rw [← tk_bq d1, hM.2.2.2.2.1] at y3
              refine ⟨_, As, rfl, ?_, cell, y1, y2, y3⟩
              rw [← q4]
              rfl
            · rename_i t a as' _ _
              simp only [Bool.and_eq_true] at hrc
              obtain ⟨⟨d1, d2⟩, d3⟩ := hrc
              obtain ⟨v, As, rfl, -, hv, -⟩ := tk_stk.uncons q1
              obtain ⟨ht, j, ad, rfl, hB, hz⟩ := tk_nm.ok hE d1 hv
              obtain ⟨e0, w1, w3⟩ := hC.2 _ _ _ hB
              obtain ⟨fs, rfl, -⟩ := w3.obj (tk_bq d2)
              have hz0 : ∃ z : vw_C, cl[(tk_TKT T (t - 10)).2.1]? = some z ∧ _ := hPw _ _ w1
              obtain ⟨z, hzz, -⟩ := hz0
              have hrv := va_recv hK hPw hzz w1
              have hzn := (hV.2.2.2.2.1 _ z hzz).2
              rw [tk_bq d3, hM.2.2.2.2.1] at hzn
              rw [hzn] at hrv
              refine ⟨_, As, rfl, ?_, hrv⟩
              rw [← q4]
              rfl
            · cases hrc
          have blind := tk_Pc.blind (NWs := NWs) (TXs := TXs) (D := D) (cl := cl) (ad := B.2.1) (vs := vs) (H := H) (tys := tys) hSc
          rcases hkd with rfl | rfl | rfl | rfl
          · have hi : i = .invokevirtual (kc_lnk i).1 := by
              cases i <;> first | rfl | (exfalso; revert hn2; simp [tk_kq]; done)
            rw [hi] at hd
            obtain ⟨b, As, rfl, hAs, hcell⟩ := hobj (by decide) (by decide)
            obtain ⟨s1, s2, s3⟩ := b3 (Or.inl rfl)
            exact hend _ (va_runV (rest := rest) hcf hMet ⟨callB_of _ hts hGw rfl rfl rfl hInit (hts _ (b1 (Or.inl rfl))) ⟨hM.2.2.2.1.1, hM.2.2.2.1.2, s3⟩ hRR, hts _ s1, hts _ s2⟩ ⟨blind, hcell, hPre⟩ rfl hAs hls (by simp) hroom hd hcells)
          · have hi : i = .invokestatic (kc_lnk i).1 := by
              cases i <;> first | rfl | (exfalso; revert hn2; simp [tk_kq]; done)
            rw [hi] at hd
            obtain ⟨s1, s3⟩ := b4 (Or.inl rfl)
            exact hend _ (va_runS (rest := rest) hcf hMet ⟨callB_of _ hts hGw rfl rfl rfl hInit (hts _ (b1 (Or.inr rfl))) ⟨hM.2.2.2.1.1, hM.2.2.2.1.2, s3⟩ hRR, hts _ s1⟩ ⟨blind, hPre⟩ rfl q4 hls rfl hroom hd hcells)
          · have hi : i = .invokevirtual (kc_lnk i).1 := by
              cases i <;> first | rfl | (exfalso; revert hn2; simp [tk_kq]; done)
            rw [hi] at hd
            obtain ⟨host, hhost⟩ := b2 (Or.inl rfl)
            have hnw := hdx.1 _ hhost
            obtain ⟨b, As, rfl, hAs, hcell⟩ := hobj (by decide) (by decide)
            obtain ⟨s1, s2, s3⟩ := b3 (Or.inr rfl)
            exact hend _ (va_runVN (rest := rest) hcf hMet ⟨va_cnB _ hts hGw rfl rfl rfl hnw hInit ⟨hM.2.2.2.1.1, hM.2.2.2.1.2, s3⟩ hRR, hts _ s1, hts _ s2⟩ ⟨blind, hcell, hPre⟩ rfl hAs hls (by simp) hroom hd hcells)
          · have hi : i = .invokestatic (kc_lnk i).1 := by
              cases i <;> first | rfl | (exfalso; revert hn2; simp [tk_kq]; done)
            rw [hi] at hd
            obtain ⟨host, hhost⟩ := b2 (Or.inr rfl)
            have hnw := hdx.1 _ hhost
            obtain ⟨s1, s3⟩ := b4 (Or.inr rfl)
            exact hend _ (va_runSN (rest := rest) hcf hMet ⟨va_cnB _ hts hGw rfl rfl rfl hnw hInit ⟨hM.2.2.2.1.1, hM.2.2.2.1.2, s3⟩ hRR, hts _ s1, trivial⟩ ⟨blind, hPre⟩ rfl q4 hls rfl hroom hd hcells)
        · cases h
      · cases h
    · cases h
  · cases h
end TN
