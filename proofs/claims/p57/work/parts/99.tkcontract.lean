/-- a contract by a run of its method: every end is one of the contract's -/
def tk_ck (T : tk_T) (sc nt : Nat) (Ks : Nat → Option tk_K) (nw : Nat → Nat × Nat × Nat × Nat) (f : Nat) (tp : List tk_I) (k : tk_K) : Bool := Nat.ble (tk_loc0 k.2.2.1).length (tk_Tmi T k.1).1 && !(Nat.beq k.1 0) && (match tk_run T k.2.2.2.2.2 sc nt Ks nw f k.1 [] tp [(0, tk_E0 k, tk_lc (tk_Tmi T k.1).1 k.2.2.1, [], k.2.2.2.1, 0, 0)] [] with
  | some z => z.1.all (fun o => tk_hd (tk_E0 k).length (tk_Tmi T k.1).2.2.1 (tk_Tmi T k.1).2.2.2.1 k.2.2.2.2.1 (o.2.1, [], o.2.2.2.1, o.2.2.2.2.1, (tk_Tmi T k.1).2.2.1, (tk_Tmi T k.1).2.2.2.1))
  | none => false)
section TX
variable {T : tk_T} {U : kc_U} {Ts : List Jvm.Cond} {NWs : List (String × Nat × MethodName × String)} {TXs : List (String × Nat × String × Nat)} {St : (Nat → Nat) → State → Heap → Prop} {sc nt : Nat} {Ks : Nat → Option tk_K} {nw : Nat → Nat × Nat × Nat × Nat}
variable {l : Launch} {D : va_G} {cl : List vw_C} {A : Nat → Prop}
set_option maxHeartbeats 8000000 in
theorem tk_ck.ok {f : Nat} {tp : List tk_I} {k : tk_K} (hV : tk_TV T U cl Ts TXs) (hLV : tk_LV T U Ts NWs) (hG : GoodIn Ts Ts) (hSc : tk_Sc A St) (hTx : ∀ (s : State) (H : Heap) (ad : Nat → Nat), tk_Dx NWs TXs St ad s H → ∀ k, k < nt → ∃ cell : Cell, H[ad k]? = some cell ∧ cell.vm.isStatics = false ∧ s.vm.findClass (U.1 sc) = some cell.cls) (hKs : ∀ (id : Nat) (k : tk_K), Ks id = some k → tk_Con T U Ts NWs TXs St l D cl A k) (hNV : tk_NV T U Ts NWs TXs St l D cl A nw) (hM : tk_MV T U Ts k.1) (h : tk_ck T sc nt Ks nw f tp k = true) : tk_Con T U Ts NWs TXs St l D cl A k := by
  unfold tk_ck at h
  rw [Bool.and_eq_true, Bool.and_eq_true] at h
  obtain ⟨⟨h1, h2⟩, h3⟩ := h
  have h1 := Nat.le_of_ble_eq_true h1
  have hy0 : k.1 ≠ 0 := fun q => by rw [q] at h2; cases h2
  split at h3
  · rename_i z hz
    have h3 := List.all_eq_true.mp h3
    intro ρ B ws tys H vs hE hρ has hMm hP hD hC hA hcap
    have h0 : 0 < (tk_E0 k).length ∧ ρ 0 = 0 := ⟨Nat.zero_lt_succ _, hρ⟩
    have hret : ∀ o ∈ z.1, tk_Ret T k.1 o := fun o ho => by
      rcases tk_run.outs f k.1 [] tp z.2 _ [] z.1 hz (fun o h => by cases h) o ho with q | q
      · cases q
      · exact q
    have hmet := tk_met (l := l) (F := k.2.2.2.2.2) (os := z.1) hV hM hy0 hE h0 has hMm hP hD hC hA hcap h1 (fun p e s m args below meth c Q hCx hos => (tk_run.ok hV hLV hG hSc hTx hKs hNV f k.1 [] tp z.2 _ [] z.1 hz p e (tk_rm T k.1) s m args below meth c Q H B ws _ ρ hCx hos).1 _ List.mem_cons_self) hret
    refine Jvm.Free.MetFree.mono hmet (fun _ _ q => q) (fun _ _ _ _ _ q => q) (fun a st o t _ q => ⟨?_, q.2⟩)
    obtain ⟨⟨o', ho', ρ', B', ws', tys', v, q0, q1, q2, q3, q4, q5, q6, q7, q8, q9, q10, q11, q12, q13⟩, -⟩ := q
    obtain ⟨w, hw, hx⟩ := List.any_eq_true.mp (h3 o' ho')
    obtain ⟨xs, hxs⟩ := Option.isSome_iff_exists.mp hx
    have hk1 : tk_ok D cl A t t.heap (tk_TKT T) k.2.2.2.2.2 B ws 0 (o'.2.1, [], o'.2.2.2.1, o'.2.2.2.2.1, (tk_Tmi T k.1).2.2.1, (tk_Tmi T k.1).2.2.2.1) ρ' B' ws' tys' t.heap [] _ (lv_args 0 []) v.toList := ⟨q2, q3, fun i a h => by simp at h, lv_entry [] (n := 0) (Nat.le_refl _), q1, q5, q6, q7, q8, va_S.rf, q9, q10, q11, q12⟩
    obtain ⟨g1, -, g7⟩ := tk_wi.ok (E0 := tk_E0 k) hxs h0.1 rfl hk1 (fun j hj => by
      rw [q4.2 j hj]
      exact (hE j).ext (fun i hi => q4.2 i (by omega)))
    obtain ⟨y1, y2, -, -, y3, y4, y5, y6, y7, -, y8, y9, y10, y11⟩ := g1
    exact ⟨tk_pS T k w, List.mem_map.mpr ⟨w, hw, rfl⟩, tk_rw (tk_E0 k).length xs ρ', B', ws', tys', v, q0, y3, y1, y2, ⟨by show _ ≤ (tk_E0 k ++ w.1).length; rw [List.length_append]; omega, fun j hj => by rw [tk_rw.lt hj]; exact q4.2 j hj⟩, y4, y5, y6, y7, y8, y9, y10, y11, q13⟩
  · cases h3
end TX
