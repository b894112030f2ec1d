/-! ===== methods that call one with a hand's words; counts of READINGS that fall ===== -/
section TA
variable {D : va_G} {cl : List vw_C} {A : Nat → Prop} {s : State} {H0 : Heap} {KT : Nat → tk_G} {F : List (Nat × Nat × Nat)} {B0 : tk_B} {ws0 : va_W} {nL : Nat} {L K : List tk_V} {cs ss : Nat} {B : tk_B} {ws : va_W} {tys : List (ClassId × FieldType)} {H : Heap} {locs : List Loc} {ls : Array Slot} {lv : List (Nat × Value)} {st : List Value}
theorem tk_ag.rf {n : Nat} {ρ : Nat → Int} : tk_ag n ρ n ρ := ⟨Nat.le_refl _, fun _ _ => rfl⟩
theorem tk_ag.tr {a b c : Nat} {ρ ρ1 ρ2 : Nat → Int} (h1 : tk_ag a ρ b ρ1) (h2 : tk_ag b ρ1 c ρ2) : tk_ag a ρ c ρ2 := ⟨Nat.le_trans h1.1 h2.1, fun k hk => (h2.2 k (Nat.lt_of_lt_of_le hk h1.1)).trans (h1.2 k hk)⟩
/-- a place touched, in this world -/
theorem tl_tch {E E' : tk_E} {M M' : tk_M} {ρ : Nat → Int} {q : tk_V × tk_V} (h : tk_tch KT K E M q = some (E', M')) (hk : tk_ok D cl A s H0 KT F B0 ws0 nL (E, L, K, M, cs, ss) ρ B ws tys H locs ls lv st) : ∃ ρ' : Nat → Int, tk_ok D cl A s H0 KT F B0 ws0 nL (E', L, K, M', cs, ss) ρ' B ws tys H locs ls lv st ∧ tk_ag E.length ρ E'.length ρ' := by
  have hE : tk_env ρ E := hk.1
  have h0 : 0 < E.length ∧ ρ 0 = 0 := hk.2.1
  have hst : tk_stk ρ B E.length K st := hk.2.2.2.2.1
  have hM : tk_mem ρ B E.length ws M := hk.2.2.2.2.2.1
  have hC := hk.2.2.2.2.2.2.2.2.2.2.1
  unfold tk_tch at h
  split at h
  · split at h
    · rename_i hc
      cases h
      rw [Bool.and_eq_true] at hc
      obtain ⟨ρ', g1, g2, g3, g4, g5⟩ := tk_lin.ok (c := 0) hE (Or.inr rfl) (Nat.le_of_ble_eq_true hc.1) (Nat.le_of_ble_eq_true hc.2)
      exact ⟨ρ', ⟨g2, ⟨Nat.lt_of_lt_of_le h0.1 g3, by rw [g1 0 h0.1]; exact h0.2⟩, hk.2.2.1.ext g1 (tk_le.rf B) g3, hk.2.2.2.1, tk_stk.ext g1 (tk_le.rf B) g3 hst, hM.ext g1 g3, hk.2.2.2.2.2.2⟩, g3, g1⟩
    · cases h
  split at h
  · rename_i hc
    simp only [Bool.and_eq_true] at hc
    obtain ⟨⟨c1, c2⟩, c3⟩ := hc
    have c3 : q.2.2.1 < E.length := Nat.le_of_ble_eq_true c3
    obtain ⟨d1, v, hv⟩ := tk_hs.ok c2 hst hM
    obtain ⟨ht, j, ad, rfl, hB, hz⟩ := tk_nm.ok hE c1 hv
    obtain ⟨e0, w1, w3⟩ := hC.2 _ _ _ hB
    split at h
    · rename_i f hf
      cases h
      obtain ⟨g0, w, hw, z, z1, z2, z3⟩ := tk_tsp.ok hE h0.2 hf w3
      have hr : tk_r E ρ (E ++ [(f.2.1, f.2.2, 0, 0, 0, 0)], (E.length, 0)) (z + 0) := tk_r.new hE (tk_dv.bare z1 z2)
      obtain ⟨ρ', g1, g3, g4, g5, g6⟩ := hr
      dsimp only at g3 g4 g5 g6
      refine ⟨ρ', ⟨g3, ⟨Nat.lt_of_lt_of_le h0.1 g4, by rw [g1 0 h0.1]; exact h0.2⟩, hk.2.2.1.ext g1 (tk_le.rf B) g4, hk.2.2.2.1, tk_stk.ext g1 (tk_le.rf B) g4 hst, tk_mem.cons ⟨⟨by dsimp only; omega, by dsimp only; omega, g5⟩, ?_⟩ (hM.ext g1 g4), hk.2.2.2.2.2.2⟩, g4, g1⟩
      dsimp only
      rw [g1 _ d1, g1 _ c3, g6, Int.add_zero]
      exact ⟨j, ad, e0, w, ht, hB, hz, w1, g0, hw, z3⟩
    · cases h
  · cases h
theorem tl_tcs : ∀ {qs : List (tk_V × tk_V)} {E E' : tk_E} {M M' : tk_M} {ρ : Nat → Int}, tk_tcs KT K qs E M = some (E', M') → tk_ok D cl A s H0 KT F B0 ws0 nL (E, L, K, M, cs, ss) ρ B ws tys H locs ls lv st → ∃ ρ' : Nat → Int, tk_ok D cl A s H0 KT F B0 ws0 nL (E', L, K, M', cs, ss) ρ' B ws tys H locs ls lv st ∧ tk_ag E.length ρ E'.length ρ'
  | [], E, E', M, M', ρ, h, hk => by
    cases h
    exact ⟨ρ, hk, tk_ag.rf⟩
  | q :: qs, E, E', M, M', ρ, h, hk => by
    unfold tk_tcs at h
    split at h
    · rename_i r hr
      obtain ⟨ρ1, g1, g2⟩ := tl_tch hr hk
      obtain ⟨ρ2, g3, g4⟩ := tl_tcs h g1
      exact ⟨ρ2, g3, g2.tr g4⟩
    · cases h
end TA
section TB
variable {T : tk_T} {U : kc_U} {Ts : List Jvm.Cond} {NWs : List (String × Nat × MethodName × String)} {TXs : List (String × Nat × String × Nat)} {St : (Nat → Nat) → State → Heap → Prop} {l : Launch} {D : va_G} {cl : List vw_C} {A : Nat → Prop}
/-- a contract of the tables, as one with a hand's words -/
theorem tl_of {k : tk_K} (h : tk_Con T U Ts NWs TXs St l D cl A k) : tl_Con T U Ts NWs TXs St l D cl A k (fun _ _ _ => True) (fun _ _ _ _ _ _ _ _ => True) := by
  intro ρ B ws tys H vs hE h0 has hMm hP hD hC hA hcap _
  refine Jvm.Free.MetFree.mono (h ρ B ws tys H vs hE h0 has hMm hP hD hC hA hcap) (fun _ _ q => q) (fun _ _ _ _ _ q => q) (fun a st o t _ q => ⟨?_, q.2⟩)
  obtain ⟨⟨o', ho', ρ', B', ws', tys', v, q0, q1, q2, q3, q4, q5, q6, q7, q8, q9, q10, q11, q12, q13⟩, -⟩ := q
  obtain ⟨w, hw, rfl⟩ := List.mem_map.mp ho'
  exact ⟨w, hw, ρ', B', ws', tys', v, q0, q1, q2, q3, q4, q5, q6, q7, q8, q9, q10, q11, q12, q13, trivial⟩
theorem tl_Con.mono {k : tk_K} {P P' : (Nat → Int) → tk_B → va_W → Prop} {Z Z' : (Nat → Int) → tk_B → va_W → tk_A → tk_B → va_W → Heap → Heap → Prop} (h : tl_Con T U Ts NWs TXs St l D cl A k P Z) (hP : ∀ ρ B ws, P' ρ B ws → P ρ B ws) (hZ : ∀ ρ B ws w B' ws' H H', Z ρ B ws w B' ws' H H' → Z' ρ B ws w B' ws' H H') : tl_Con T U Ts NWs TXs St l D cl A k P' Z' := by
  intro ρ B ws tys H vs hE h0 has hMm hPw hD hC hA hcap hPP
  refine Jvm.Free.MetFree.mono (h ρ B ws tys H vs hE h0 has hMm hPw hD hC hA hcap (hP _ _ _ hPP)) (fun _ _ q => q) (fun _ _ _ _ _ q => q) (fun a st o t _ q => ⟨?_, q.2⟩)
  obtain ⟨⟨w, hw, ρ', B', ws', tys', v, q0, q1, q2, q3, q4, q5, q6, q7, q8, q9, q10, q11, q12, q13, q14⟩, -⟩ := q
  exact ⟨w, hw, ρ', B', ws', tys', v, q0, q1, q2, q3, q4, q5, q6, q7, q8, q9, q10, q11, q12, q13, hZ _ _ _ _ _ _ _ _ q14⟩
end TB
/-- where a contract's symbols name the READINGS' cells: counts, METERS, DAYS -/
abbrev tl_Y : Type := Nat × Nat × Nat
def tl_JP (j : tl_Y) : (Nat → Int) → tk_B → va_W → Prop := fun ρ _ ws => tl_J2 ws (ρ j.1) (ρ j.2.1) (ρ j.2.2)
def tl_JZ (j : tl_Y) : (Nat → Int) → tk_B → va_W → tk_A → tk_B → va_W → Heap → Heap → Prop := fun ρ _ _ _ _ ws' _ _ => tl_J2 ws' (ρ j.1) (ρ j.2.1) (ρ j.2.2)
def tl_far (F : List (Nat × Nat × Nat)) : Bool := F.all (fun q => !(Nat.beq q.1 82) && !(Nat.beq q.1 83) && !(Nat.beq q.1 84))
theorem tl_far.ok {F : List (Nat × Nat × Nat)} (h : tl_far F = true) (κ i : Nat) (hκ : κ = 82 ∨ κ = 83 ∨ κ = 84) : tk_iF F κ i = false := by
  rw [Bool.eq_false_iff]
  intro hc
  obtain ⟨q, g1, g2⟩ := List.any_eq_true.mp hc
  simp only [Bool.and_eq_true] at g2
  have e1 := tk_bq g2.1.1
  have h1 := List.all_eq_true.mp h q g1
  rcases hκ with rfl | rfl | rfl <;> · rw [e1] at h1; revert h1; decide
def tl_veq3 (f g : tk_V × tk_V × tk_V) : Bool := tk_veq f.1 g.1 && tk_veq f.2.1 g.2.1 && tk_veq f.2.2 g.2.2
theorem tl_veq3.ok {f g : tk_V × tk_V × tk_V} (h : tl_veq3 f g = true) : f = g := by
  unfold tl_veq3 at h
  rw [Bool.and_eq_true, Bool.and_eq_true] at h
  obtain ⟨f1, f2, f3⟩ := f
  obtain ⟨g1, g2, g3⟩ := g
  have e1 : f1 = g1 := tk_veq.ok h.1.1
  have e2 : f2 = g2 := tk_veq.ok h.1.2
  have e3 : f3 = g3 := tk_veq.ok h.2
  rw [e1, e2, e3]
/-- the cells of READINGS are what a state's facts say of the object with number zm -/
def tl_j0 (E : tk_E) (M : tk_M) (zm : tk_P) (j : tl_Y) : Bool :=
  (M.any (tl_veq3 ((53, zm), (1, 0, 52), (92, j.1, 0))) && decide (1 ≤ (tk_at E j.1).1) && Nat.ble (j.1 + 1) E.length) && (M.any (tl_veq3 ((53, zm), (1, 0, 53), (93, j.2.1, 0))) && decide (1 ≤ (tk_at E j.2.1).1) && Nat.ble (j.2.1 + 1) E.length) && (M.any (tl_veq3 ((53, zm), (1, 0, 54), (94, j.2.2, 0))) && decide (1 ≤ (tk_at E j.2.2).1) && Nat.ble (j.2.2 + 1) E.length)
theorem tl_j1 {ρ : Nat → Int} {B : tk_B} {E : tk_E} {ws : va_W} {M : tk_M} {zm : tk_P} {i κ a : Nat} (hE : tk_env ρ E) (hM : tk_mem ρ B E.length ws M) (h : (M.any (tl_veq3 ((53, zm), (1, 0, (i : Int)), (10 + κ, a, 0))) && decide (1 ≤ (tk_at E a).1) && Nat.ble (a + 1) E.length) = true) : tl_kd B (ρ a) κ ∧ a < E.length := by
  rw [Bool.and_eq_true, Bool.and_eq_true] at h
  obtain ⟨⟨h1, h2⟩, h3⟩ := h
  obtain ⟨f, f1, f2⟩ := List.any_eq_true.mp h1
  have e := tl_veq3.ok f2
  subst e
  have h2 := of_decide_eq_true h2
  have h4 := (hE a).1
  have := tl_kref (κ := κ) (sv := a) (cv := 0) hM f1 (by omega)
  rw [Int.add_zero] at this
  exact ⟨this, Nat.le_of_ble_eq_true h3⟩
theorem tl_j0.ok {ρ : Nat → Int} {B : tk_B} {E : tk_E} {ws : va_W} {M : tk_M} {zm : tk_P} {j : tl_Y} (h : tl_j0 E M zm j = true) (hE : tk_env ρ E) (hM : tk_mem ρ B E.length ws M) : (tl_kd B (ρ j.1) 82 ∧ tl_kd B (ρ j.2.1) 83 ∧ tl_kd B (ρ j.2.2) 84) ∧ j.1 < E.length ∧ j.2.1 < E.length ∧ j.2.2 < E.length := by
  unfold tl_j0 at h
  rw [Bool.and_eq_true, Bool.and_eq_true] at h
  obtain ⟨⟨h1, h2⟩, h3⟩ := h
  obtain ⟨a1, a2⟩ := tl_j1 (i := 52) (κ := 82) hE hM h1
  obtain ⟨b1, b2⟩ := tl_j1 (i := 53) (κ := 83) hE hM h2
  obtain ⟨c1, c2⟩ := tl_j1 (i := 54) (κ := 84) hE hM h3
  exact ⟨⟨a1, b1, c1⟩, a2, b2, c2⟩
theorem tl_J2.far {F : List (Nat × Nat × Nat)} {B : tk_B} {ws ws' : va_W} {zc zo zd : Int} (h : tl_J2 ws zc zo zd) (hf : tk_fr F B ws ws') (hF : tl_far F = true) (h1 : tl_kd B zc 82) (h2 : tl_kd B zo 83) (h3 : tl_kd B zd 84) : tl_J2 ws' zc zo zd :=
  h.tr (fun _ => tl_pl.fr hf h1 (tl_far.ok hF _ _ (Or.inl rfl))) (fun _ => tl_pl.fr hf h2 (tl_far.ok hF _ _ (Or.inr (Or.inl rfl)))) (fun _ => tl_pl.fr hf h3 (tl_far.ok hF _ _ (Or.inr (Or.inr rfl))))
/-- an end is one of the contract's -/
def tl_enq (T : tk_T) (k : tk_K) (o : Nat × tk_S) : Bool := k.2.2.2.2.1.any (fun w => (tk_wi (tk_E0 k).length (tk_Tmi T k.1).2.2.1 (tk_Tmi T k.1).2.2.2.1 w (o.2.1, [], o.2.2.2.1, o.2.2.2.2.1, (tk_Tmi T k.1).2.2.1, (tk_Tmi T k.1).2.2.2.1)).isSome)
/-- the call at o, by the contract q: the states behind it -/
def tl_vcl (T : tk_T) (sc nt : Nat) (k : tk_K) (j : tl_Y) (ts : List (tk_V × tk_V)) (o : Nat × tk_S) (q : tk_K × tl_Y) : Option (List tk_S) := match tk_Tcd T k.1 o.1, tk_tcs (tk_TKT T) o.2.2.2.1 ts o.2.1 o.2.2.2.2.1 with
  | some (i, n), some z => (match tk_cal T sc nt k.1 i n (z.1, o.2.2.1, o.2.2.2.1, z.2, o.2.2.2.2.2) with
    | some r => if (Nat.beq r.1 q.1.1 && q.1.2.2.2.2.2.all (fun e => tk_iG k.2.2.2.2.2 e.1 e.2.1 e.2.2)) = true then (match tk_wi 1 o.2.2.2.2.2.1 o.2.2.2.2.2.2 (q.1.2.1, [], q.1.2.2.1, q.1.2.2.2.1, (0, 0), true) (z.1, [], r.2.1, z.2, o.2.2.2.2.2) with
      | some xs => if tk_sb 1 xs (q.2.1, 0) = some (j.1, 0) ∧ tk_sb 1 xs (q.2.2.1, 0) = some (j.2.1, 0) ∧ tk_sb 1 xs (q.2.2.2, 0) = some (j.2.2, 0) then tk_apL T q.1 xs r.2.2 (z.1, o.2.2.1, o.2.2.2.1, z.2, o.2.2.2.2.2) q.1.2.2.2.2.1 else none
      | none => none) else none
    | none => none)
  | _, _ => none
def tl_vck (T : tk_T) (F1 : List (Nat × Nat × Nat)) (sc nt : Nat) (Ks : Nat → Option tk_K) (nw : Nat → Nat × Nat × Nat × Nat) (f : Nat) (qs : List (tk_K × tl_Y)) (tss : List (List (tk_V × tk_V))) (pcs : List Nat) (tp : List tk_I) (k : tk_K) (j : tl_Y) : Bool :=
  Nat.ble (tk_loc0 k.2.2.1).length (tk_Tmi T k.1).1 && !(Nat.beq k.1 0) && F1.all (fun q => tk_iG k.2.2.2.2.2 q.1 q.2.1 q.2.2) && tl_far F1 && tl_j0 (tk_E0 k) k.2.2.2.1 (1, 0) j && (match tk_run T F1 sc nt Ks nw f k.1 pcs tp [(0, tk_E0 k, tk_lc (tk_Tmi T k.1).1 k.2.2.1, [], k.2.2.2.1, 0, 0)] [] with
  | some z => z.1.all (fun o => if pcs.contains o.1 = true then qs.any (fun q => tss.any (fun ts => match tl_vcl T sc nt k j ts o q with
      | some rs => rs.all (fun r => match tk_run T F1 sc nt Ks nw f k.1 [] [] [(o.1 + 3, r)] [] with
        | some z2 => z2.1.all (tl_enq T k)
        | none => false)
      | none => false)) else tl_enq T k o)
  | none => false)
section TX
variable {T : tk_T} {U : kc_U} {Ts : List Jvm.Cond} {NWs : List (String × Nat × MethodName × String)} {TXs : List (String × Nat × String × Nat)} {St : (Nat → Nat) → State → Heap → Prop} {sc nt : Nat} {Ks : Nat → Option tk_K} {nw : Nat → Nat × Nat × Nat × Nat}
variable {l : Launch} {D : va_G} {cl : List vw_C} {A : Nat → Prop}
set_option maxHeartbeats 8000000 in
theorem tl_vck.ok {F1 : List (Nat × Nat × Nat)} {f : Nat} {qs : List (tk_K × tl_Y)} {tss : List (List (tk_V × tk_V))} {pcs : List Nat} {tp : List tk_I} {k : tk_K} {j : tl_Y} (hV : tk_TV T U cl Ts TXs) (hLV : tk_LV T U Ts NWs) (hG : GoodIn Ts Ts) (hSc : tk_Sc A St) (hTx : ∀ (s : State) (H : Heap) (ad : Nat → Nat), tk_Dx NWs TXs St ad s H → ∀ k, k < nt → ∃ cell : Cell, H[ad k]? = some cell ∧ cell.vm.isStatics = false ∧ s.vm.findClass (U.1 sc) = some cell.cls) (hKs : ∀ (id : Nat) (k : tk_K), Ks id = some k → tk_Con T U Ts NWs TXs St l D cl A k) (hNV : tk_NV T U Ts NWs TXs St l D cl A nw) (hM : tk_MV T U Ts k.1)
    (hqs : ∀ q ∈ qs, tl_Con T U Ts NWs TXs St l D cl A q.1 (tl_JP q.2) (tl_JZ q.2)) (h : tl_vck T F1 sc nt Ks nw f qs tss pcs tp k j = true) : tl_Con T U Ts NWs TXs St l D cl A k (tl_JP j) (tl_JZ j) := by
  unfold tl_vck at h
  simp only [Bool.and_eq_true] at h
  obtain ⟨⟨⟨⟨⟨h1, h2⟩, hF1⟩, hfar⟩, hj⟩, h3⟩ := h
  have h1 := Nat.le_of_ble_eq_true h1
  have hy0 : k.1 ≠ 0 := fun q => by rw [q] at h2; cases h2
  split at h3
  · rename_i z hz
    have h3 := List.all_eq_true.mp h3
    refine tl_met hV hM hy0 h1 (fun ρ B ws tys H p e s m args below meth c ls lv hE hP hX hr hlocks hH hk => ?_)
    obtain ⟨⟨k1, k2, k3⟩, j1, j2, j3⟩ := tl_j0.ok hj hE hk.2.2.2.2.2.1
    have hP : tl_J2 ws (ρ j.1) (ρ j.2.1) (ρ j.2.2) := hP
    have fin : ∀ (o : Nat × tk_S), tk_Ret T k.1 o → tl_enq T k o = true → ∀ (ρ' : Nat → Int) (B' : tk_B) (ws' : va_W) (tys' : List (ClassId × FieldType)) (H' : Heap) (locs' : List Loc) (ls' : Array Slot) (lv' : List (Nat × Value)) (st' : List Value), tk_ok D cl A s H (tk_TKT T) k.2.2.2.2.2 B ws (tk_Tmi T k.1).1 o.2 ρ' B' ws' tys' H' locs' ls' lv' st' → tk_ag (tk_E0 k).length ρ o.2.1.length ρ' → tl_J2 ws' (ρ j.1) (ρ j.2.1) (ρ j.2.2) → W p l e (tk_rm T k.1) s m args below meth c H' locs' o.2.2.2.2.2.1 o.2.2.2.2.2.2 (MQ below (tl_Qc T D cl A k ρ B ws (tl_JZ j ρ B ws)) args s (tk_Tmi T k.1).2.2.1 (tk_Tmi T k.1).2.2.2.1 A) (F0 m o.1 ls' st') := fun o hR he ρ' B' ws' tys' H' locs' ls' lv' st' hk' hg' hJ => by
      obtain ⟨w, hw, hx⟩ := List.any_eq_true.mp he
      obtain ⟨xs, hxs⟩ := Option.isSome_iff_exists.mp hx
      exact tl_ret hV hM hX hr hlocks hH hR hk' hg' hE hw hxs (fun _ => hJ)
    refine tl_seg (F' := F1) hV hLV hG hSc hTx hKs hNV hX hz hF1 hk tk_ag.rf (fun o ho ρ1 B1 ws1 tys1 H1 locs1 ls1 lv1 st1 hk1 hg1 hf1 => ?_)
    have hJ1 := hP.far hf1 hfar k1 k2 k3
    have h4 := h3 o ho
    have hout := tk_run.outs f k.1 pcs tp z.2 _ [] z.1 hz (fun o h => by cases h) o ho
    split at h4
    · obtain ⟨q, hq, h5⟩ := List.any_eq_true.mp h4
      obtain ⟨ts, hts, h5⟩ := List.any_eq_true.mp h5
      split at h5
      · rename_i rs hrs
        have h5 := List.all_eq_true.mp h5
        unfold tl_vcl at hrs
        split at hrs
        · rename_i i n z1 hc hz1
          split at hrs
          · rename_i r hcal
            split at hrs
            · rename_i hb
              rw [Bool.and_eq_true] at hb
              have hb1 := Nat.eq_of_beq_eq_true hb.1
              split at hrs
              · rename_i xs hxs
                split at hrs
                · rename_i hsb
                  obtain ⟨s1, s2, s3⟩ := hsb
                  obtain ⟨ρ2, hk2, hg2⟩ := tl_tcs (E := o.2.1) (E' := z1.1) (M' := z1.2) (L := o.2.2.1) (cs := o.2.2.2.2.2.1) (ss := o.2.2.2.2.2.2) hz1 hk1
                  have e1 := (tk_sb.ok (ρ := ρ2) s1).1
                  have e2 := (tk_sb.ok (ρ := ρ2) s2).1
                  have e3 := (tk_sb.ok (ρ := ρ2) s3).1
                  dsimp only at e1 e2 e3
                  rw [Int.add_zero, Int.add_zero, hg2.2 _ (Nat.lt_of_lt_of_le j1 hg1.1), hg1.2 _ j1] at e1
                  rw [Int.add_zero, Int.add_zero, hg2.2 _ (Nat.lt_of_lt_of_le j2 hg1.1), hg1.2 _ j2] at e2
                  rw [Int.add_zero, Int.add_zero, hg2.2 _ (Nat.lt_of_lt_of_le j3 hg1.1), hg1.2 _ j3] at e3
                  have hcal' : tk_cal T sc nt k.1 i n (z1.1, o.2.2.1, o.2.2.2.1, z1.2, o.2.2.2.2.2.1, o.2.2.2.2.2.2) = some (q.1.1, r.2.1, r.2.2) := by
                    rw [← hb1]
                    exact hcal
                  refine tl_app (k := q.1) (F := k.2.2.2.2.2) (S := (z1.1, o.2.2.1, o.2.2.2.1, z1.2, o.2.2.2.2.2.1, o.2.2.2.2.2.2)) hV hLV hG hSc hTx hX hc hcal' (hqs q hq) hb.2 hxs hk2 (hg1.tr hg2) ?_ (fun w hw => ?_)
                  · show tl_J2 ws1 _ _ _
                    rw [e1, e2, e3]
                    exact hJ1
                  · obtain ⟨r2, hr2, hap⟩ := tk_apL.mem hrs hw
                    refine ⟨r2, hap, fun ρ3 B3 ws3 tys3 H3 locs3 st3 hk3 hg3 hg3' hf3 hle3 hz3 => ?_⟩
                    have hJ3 : tl_J2 ws3 _ _ _ := hz3
                    rw [e1, e2, e3] at hJ3
                    have h6 := h5 r2 hr2
                    split at h6
                    · rename_i z2 hz2
                      refine tl_seg (F' := F1) hV hLV hG hSc hTx hKs hNV hX hz2 hF1 hk3 hg3 (fun o2 ho2 ρ4 B4 ws4 tys4 H4 locs4 ls4 lv4 st4 hk4 hg4 hf4 => ?_)
                      rcases tk_run.outs f k.1 [] [] z2.2 _ [] z2.1 hz2 (fun o h => by cases h) o2 ho2 with h7 | h7
                      · cases h7
                      · exact fin o2 h7 (List.all_eq_true.mp h6 o2 ho2) ρ4 B4 ws4 tys4 H4 locs4 ls4 lv4 st4 hk4 (hg3.tr hg4) (hJ3.far hf4 hfar k1 k2 k3)
                    · cases h6
                · cases hrs
              · cases hrs
            · cases hrs
          · cases hrs
        · cases hrs
      · cases h5
    · rename_i hnc
      rcases hout with h7 | h7
      · exact absurd (List.contains_iff_mem.mpr h7) hnc
      · exact fin o h7 h4 ρ1 B1 ws1 tys1 H1 locs1 ls1 lv1 st1 hk1 hg1 hJ1
  · cases h3
/-- v is c at the most -/
def tl_leq (E : tk_E) (v : tk_V) (c : Nat) : Bool := Nat.beq v.1 1 && ((Nat.beq v.2.1 0 && decide (v.2.2 ≤ (tk_at E c).1)) || (Nat.beq v.2.1 c && decide (v.2.2 ≤ 0)) || (Nat.beq (tk_at E v.2.1).2.2.1 2 && Nat.beq (tk_at E v.2.1).2.2.2.1 c && decide ((tk_at E v.2.1).2.2.2.2.2 + v.2.2 ≤ (tk_at E (tk_at E v.2.1).2.2.2.2.1).1)))
theorem tl_leq.ok {E : tk_E} {v : tk_V} {c : Nat} {ρ : Nat → Int} (h : tl_leq E v c = true) (hE : tk_env ρ E) (h0 : ρ 0 = 0) : v.1 = 1 ∧ ρ v.2.1 + v.2.2 ≤ ρ c := by
  unfold tl_leq at h
  rw [Bool.and_eq_true, Bool.or_eq_true, Bool.or_eq_true] at h
  obtain ⟨h1, h2⟩ := h
  refine ⟨tk_bq h1, ?_⟩
  rcases h2 with (h2 | h2) | h2
  · rw [Bool.and_eq_true] at h2
    have e1 := tk_bq h2.1
    have e2 := of_decide_eq_true h2.2
    have := (hE c).1
    rw [e1, h0]
    omega
  · rw [Bool.and_eq_true] at h2
    have e1 := tk_bq h2.1
    have e2 := of_decide_eq_true h2.2
    rw [e1]
    omega
  · rw [Bool.and_eq_true, Bool.and_eq_true] at h2
    obtain ⟨⟨g1, g2⟩, g3⟩ := h2
    have g1 := tk_bq g1
    have g2 := tk_bq g2
    have g3 := of_decide_eq_true g3
    have h4 := (hE v.2.1).2.2.2.2 g1
    have h5 := (hE (tk_at E v.2.1).2.2.2.2.1).1
    rw [g2] at h4
    omega
def tl_near (F : List (Nat × Nat × Nat)) : Bool := F.all (fun q => (!(Nat.beq q.1 82) || (Nat.beq q.2.1 0 && Nat.beq q.2.2 0)) && !(Nat.beq q.1 83) && !(Nat.beq q.1 84))
theorem tl_near.ok {F : List (Nat × Nat × Nat)} (h : tl_near F = true) (κ i : Nat) (hκ : (κ = 82 ∧ i ≠ 0) ∨ κ = 83 ∨ κ = 84) : tk_iF F κ i = false := by
  rw [Bool.eq_false_iff]
  intro hc
  obtain ⟨q, g1, g2⟩ := List.any_eq_true.mp hc
  simp only [Bool.and_eq_true] at g2
  have e1 := tk_bq g2.1.1
  have h1 := List.all_eq_true.mp h q g1
  rcases hκ with ⟨rfl, hi⟩ | rfl | rfl
  · rw [e1] at h1
    simp only [Bool.and_eq_true, Bool.or_eq_true] at h1
    rcases h1.1.1 with h2 | h2
    · revert h2; decide
    · have := tk_bq h2.2
      have := Nat.le_of_ble_eq_true g2.2
      omega
  · rw [e1] at h1
    revert h1
    cases (!(Nat.beq 83 82) || (Nat.beq q.2.1 0 && Nat.beq q.2.2 0)) <;> decide
  · rw [e1] at h1
    revert h1
    cases (!(Nat.beq 84 82) || (Nat.beq q.2.1 0 && Nat.beq q.2.2 0)) <;> decide
/-- a method that lowers the count of READINGS at the most -/
def tl_cck (T : tk_T) (sc nt : Nat) (Ks : Nat → Option tk_K) (nw : Nat → Nat × Nat × Nat × Nat) (f : Nat) (tp : List tk_I) (k : tk_K) (j : tl_Y) (c : Nat) : Bool :=
  Nat.ble (tk_loc0 k.2.2.1).length (tk_Tmi T k.1).1 && !(Nat.beq k.1 0) && tl_near k.2.2.2.2.2 && tl_j0 (tk_E0 k) k.2.2.2.1 (1, 0) j && Nat.ble (c + 1) (tk_E0 k).length && k.2.2.2.1.any (tl_veq3 ((92, j.1, 0), (1, 0, 0), (1, c, 0))) && (match tk_run T k.2.2.2.2.2 sc nt Ks nw f k.1 [] tp [(0, tk_E0 k, tk_lc (tk_Tmi T k.1).1 k.2.2.1, [], k.2.2.2.1, 0, 0)] [] with
  | some z => z.1.all (fun o => tl_enq T k o && o.2.2.2.2.1.any (fun g => tk_veq g.1 (92, j.1, 0) && tk_veq g.2.1 (1, 0, 0) && tl_leq o.2.1 g.2.2 c))
  | none => false)
set_option maxHeartbeats 8000000 in
theorem tl_cck.ok {f : Nat} {tp : List tk_I} {k : tk_K} {j : tl_Y} {cn : Nat} (hV : tk_TV T U cl Ts TXs) (hLV : tk_LV T U Ts NWs) (hG : GoodIn Ts Ts) (hSc : tk_Sc A St) (hTx : ∀ (s : State) (H : Heap) (ad : Nat → Nat), tk_Dx NWs TXs St ad s H → ∀ k, k < nt → ∃ cell : Cell, H[ad k]? = some cell ∧ cell.vm.isStatics = false ∧ s.vm.findClass (U.1 sc) = some cell.cls) (hKs : ∀ (id : Nat) (k : tk_K), Ks id = some k → tk_Con T U Ts NWs TXs St l D cl A k) (hNV : tk_NV T U Ts NWs TXs St l D cl A nw) (hM : tk_MV T U Ts k.1) (h : tl_cck T sc nt Ks nw f tp k j cn = true) : tl_Con T U Ts NWs TXs St l D cl A k (tl_JP j) (tl_JZ j) := by
  unfold tl_cck at h
  simp only [Bool.and_eq_true] at h
  obtain ⟨⟨⟨⟨⟨⟨h1, h2⟩, hnear⟩, hj⟩, hcn⟩, hc0⟩, h3⟩ := h
  have h1 := Nat.le_of_ble_eq_true h1
  have hcn : cn < (tk_E0 k).length := Nat.le_of_ble_eq_true hcn
  have hy0 : k.1 ≠ 0 := fun q => by rw [q] at h2; cases h2
  split at h3
  · rename_i z hz
    have h3 := List.all_eq_true.mp h3
    refine tl_met hV hM hy0 h1 (fun ρ B ws tys H p e s m args below meth c ls lv hE hP hX hr hlocks hH hk => ?_)
    obtain ⟨⟨k1, k2, k3⟩, j1, j2, j3⟩ := tl_j0.ok hj hE hk.2.2.2.2.2.1
    have hP : tl_J2 ws (ρ j.1) (ρ j.2.1) (ρ j.2.2) := hP
    have hz0 : ρ 0 = 0 := hk.2.1.2
    obtain ⟨f0, f01, f02⟩ := List.any_eq_true.mp hc0
    have ef := tl_veq3.ok f02
    subst ef
    obtain ⟨xc, y1, y2, -, -⟩ := tl_int (to := 92) (so := j.1) (co := 0) (ti := 1) (si := 0) (ci := 0) (sv := cn) (cv := 0) hk.2.2.2.2.2.1 f01
    rw [hz0, Int.add_zero] at y1
    have y1 : tl_pl ws (ρ j.1) 0 = some (.int xc) := y1
    have hFF : k.2.2.2.2.2.all (fun q => tk_iG k.2.2.2.2.2 q.1 q.2.1 q.2.2) = true := List.all_eq_true.mpr (fun q hq => by
      unfold tk_iG
      exact List.any_eq_true.mpr ⟨q, hq, by simp [Nat.beq_refl, Nat.ble_eq]⟩)
    refine tl_seg (F' := k.2.2.2.2.2) hV hLV hG hSc hTx hKs hNV hX hz hFF hk tk_ag.rf (fun o ho ρ1 B1 ws1 tys1 H1 locs1 ls1 lv1 st1 hk1 hg1 hf1 => ?_)
    have h4 := h3 o ho
    rw [Bool.and_eq_true] at h4
    obtain ⟨w, hw, hx⟩ := List.any_eq_true.mp h4.1
    obtain ⟨xs, hxs⟩ := Option.isSome_iff_exists.mp hx
    rcases tk_run.outs f k.1 [] tp z.2 _ [] z.1 hz (fun o h => by cases h) o ho with h7 | h7
    · cases h7
    · refine tl_ret hV hM hX hr hlocks hH h7 hk1 hg1 hE hw hxs (fun _ => ?_)
      obtain ⟨g, g1, g2⟩ := List.any_eq_true.mp h4.2
      simp only [Bool.and_eq_true] at g2
      obtain ⟨⟨g3, g4⟩, g5⟩ := g2
      obtain ⟨ga, gb, gc⟩ := g
      have g3' : ga = (92, j.1, 0) := tk_veq.ok g3
      have g4' : gb = (1, 0, 0) := tk_veq.ok g4
      dsimp only at g5
      clear g3 g4
      subst g3' g4'
      obtain ⟨l1, l2⟩ := tl_leq.ok g5 hk1.1 hk1.2.1.2
      obtain ⟨gt, gs, go⟩ := gc
      dsimp only at l1 l2
      subst l1
      obtain ⟨xv, v1, v2, -, -⟩ := tl_int (to := 92) (so := j.1) (co := 0) (ti := 1) (si := 0) (ci := 0) (sv := gs) (cv := go) hk1.2.2.2.2.2.1 g1
      rw [hk1.2.1.2, hg1.2 _ j1, Int.add_zero] at v1
      have v1 : tl_pl ws1 (ρ j.1) 0 = some (.int xv) := v1
      rw [hg1.2 _ hcn] at l2
      show tl_J2 ws1 (ρ j.1) (ρ j.2.1) (ρ j.2.2)
      intro b hb cnt hc i i' hii hi hi2 oo d d' q1 q2 q3 q4
      rw [tl_pl.fr hf1 k2 (tl_near.ok hnear _ _ (Or.inr (Or.inl rfl)))] at q1 q2
      rw [tl_pl.fr hf1 k3 (tl_near.ok hnear _ _ (Or.inr (Or.inr rfl)))] at q3 q4
      by_cases hb0 : b = 0
      · subst hb0
        rw [v1] at hc
        cases hc
        exact hP 0 (by omega) xc y1 i i' hii (by omega) hi2 oo d d' q1 q2 q3 q4
      · rw [tl_pl.fr hf1 k1 (tl_near.ok hnear _ _ (Or.inl ⟨rfl, hb0⟩))] at hc
        exact hP b hb cnt hc i i' hii hi hi2 oo d d' q1 q2 q3 q4
  · cases h3
end TX
