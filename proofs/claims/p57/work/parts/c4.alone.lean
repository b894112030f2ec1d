def al_S : tk_S := ([(0, 0, 0, 0, 0, 0), (1, 1000000000, 0, 0, 0, 0), (0, 11, 0, 0, 0, 0), (1, 1000000000, 0, 0, 0, 0), (1, 12, 0, 0, 0, 0), ((-12), (-1), 2, 2, 4, 0), (1, 1, 0, 0, 0, 0), (1, 1000000000, 0, 0, 0, 0), (0, 127, 0, 0, 0, 0)], [(53, 1, 0), (1, 2, 0), (0, 0, 0)], [(1, 0, 1), (1, 8, 0)], [((97, 7, 0), (1, 2, 0), (1, 8, 0)), ((53, 1, 0), (1, 0, 57), (97, 7, 0)), ((60, 3, 0), (1, 0, 0), (1, 4, 0)), ((53, 1, 0), (1, 0, 17), (60, 3, 0)), ((53, 1, 0), (1, 0, 0), (1, 0, 0))], 0, 0)
def al_t0 : List tk_I := [(0, [], []), (0, [], []), (426, [], [])]
def al_t1 : List (List tk_I) := [[(0, [], []), (0, [], [])], [], [(0, [], []), (0, [], []), (0, [], [])], [], [(0, [], []), (0, [], []), (0, [], [])], [], [(0, [], []), (0, [], []), (0, [], []), (0, [], [])], [], [(0, [], []), (0, [], []), (0, [], [])], [], [(0, [], []), (0, [], []), (0, [], []), (0, [], [])], [], [(0, [], []), (0, [], []), (0, [], []), (0, [], [])], [], [(0, [], []), (0, [], []), (0, [], []), (0, [], []), (0, [], [])], [], [(0, [], []), (0, [], []), (0, [], [])], [], [(0, [], []), (0, [], []), (0, [], []), (0, [], [])], [], [(0, [], []), (0, [], []), (0, [], []), (0, [], [])], [], [(0, [], []), (0, [], []), (0, [], []), (0, [], []), (0, [], [])], [], [(0, [], []), (0, [], []), (0, [], []), (0, [], [])], [], [(0, [], []), (0, [], []), (0, [], []), (0, [], []), (0, [], [])], [], [(0, [], []), (0, [], []), (0, [], []), (0, [], []), (0, [], [])], [], [(0, [], []), (0, [], []), (0, [], []), (0, [], []), (0, [], []), (0, [], [])], []]
def al_t2 : List (List tk_I) := [[(0, [], []), (0, [], []), (0, [], [])], [], [(0, [], []), (0, [], []), (0, [], []), (0, [], [])], [], [(0, [], []), (0, [], []), (0, [], []), (0, [], [])], [], [(0, [], []), (0, [], []), (0, [], []), (0, [], []), (0, [], [])], [], [(0, [], []), (0, [], []), (0, [], []), (0, [], [])], [], [(0, [], []), (0, [], []), (0, [], []), (0, [], []), (0, [], [])], [], [(0, [], []), (0, [], []), (0, [], []), (0, [], []), (0, [], [])], [], [(0, [], []), (0, [], []), (0, [], []), (0, [], []), (0, [], []), (0, [], [])], [], [(0, [], []), (0, [], []), (0, [], []), (0, [], [])], [], [(0, [], []), (0, [], []), (0, [], []), (0, [], []), (0, [], [])], [], [(0, [], []), (0, [], []), (0, [], []), (0, [], []), (0, [], [])], [], [(0, [], []), (0, [], []), (0, [], []), (0, [], []), (0, [], []), (0, [], [])], [], [(0, [], []), (0, [], []), (0, [], []), (0, [], []), (0, [], [])], [], [(0, [], []), (0, [], []), (0, [], []), (0, [], []), (0, [], []), (0, [], [])], [], [(0, [], []), (0, [], []), (0, [], []), (0, [], []), (0, [], []), (0, [], [])], [], [(0, [], []), (0, [], []), (0, [], []), (0, [], []), (0, [], []), (0, [], []), (0, [], [])], []]
def al_t3 : List (List tk_I) := [[(0, [], []), (0, [], []), (0, [], [])], [], [(0, [], []), (0, [], []), (0, [], []), (0, [], [])], [], [(0, [], []), (0, [], []), (0, [], []), (0, [], [])], [], [(0, [], []), (0, [], []), (0, [], []), (0, [], []), (0, [], [])], [], [(0, [], []), (0, [], []), (0, [], []), (0, [], [])], [], [(0, [], []), (0, [], []), (0, [], []), (0, [], []), (0, [], [])], [], [(0, [], []), (0, [], []), (0, [], []), (0, [], []), (0, [], [])], [], [(0, [], []), (0, [], []), (0, [], []), (0, [], []), (0, [], []), (0, [], [])], [], [(0, [], []), (0, [], []), (0, [], []), (0, [], [])], [], [(0, [], []), (0, [], []), (0, [], []), (0, [], []), (0, [], [])], [], [(0, [], []), (0, [], []), (0, [], []), (0, [], []), (0, [], [])], [], [(0, [], []), (0, [], []), (0, [], []), (0, [], []), (0, [], []), (0, [], [])], [], [(0, [], []), (0, [], []), (0, [], []), (0, [], []), (0, [], [])], [], [(0, [], []), (0, [], []), (0, [], []), (0, [], []), (0, [], []), (0, [], [])], [], [(0, [], []), (0, [], []), (0, [], []), (0, [], []), (0, [], []), (0, [], [])], [], [(0, [], []), (0, [], []), (0, [], []), (0, [], []), (0, [], []), (0, [], []), (0, [], [])], []]
def al_t4 : List (List tk_I) := [[(0, [], []), (0, [], []), (0, [], []), (0, [], [])], [], [(0, [], []), (0, [], []), (0, [], []), (0, [], []), (0, [], [])], [], [(0, [], []), (0, [], []), (0, [], []), (0, [], []), (0, [], [])], [], [(0, [], []), (0, [], []), (0, [], []), (0, [], []), (0, [], []), (0, [], [])], [], [(0, [], []), (0, [], []), (0, [], []), (0, [], []), (0, [], [])], [], [(0, [], []), (0, [], []), (0, [], []), (0, [], []), (0, [], []), (0, [], [])], [], [(0, [], []), (0, [], []), (0, [], []), (0, [], []), (0, [], []), (0, [], [])], [], [(0, [], []), (0, [], []), (0, [], []), (0, [], []), (0, [], []), (0, [], []), (0, [], [])], [], [(0, [], []), (0, [], []), (0, [], []), (0, [], []), (0, [], [])], [], [(0, [], []), (0, [], []), (0, [], []), (0, [], []), (0, [], []), (0, [], [])], [], [(0, [], []), (0, [], []), (0, [], []), (0, [], []), (0, [], []), (0, [], [])], [], [(0, [], []), (0, [], []), (0, [], []), (0, [], []), (0, [], []), (0, [], []), (0, [], [])], [], [(0, [], []), (0, [], []), (0, [], []), (0, [], []), (0, [], []), (0, [], [])], [], [(0, [], []), (0, [], []), (0, [], []), (0, [], []), (0, [], []), (0, [], []), (0, [], [])], [], [(0, [], []), (0, [], []), (0, [], []), (0, [], []), (0, [], []), (0, [], []), (0, [], [])], [], [(0, [], []), (0, [], []), (0, [], []), (0, [], []), (0, [], []), (0, [], []), (0, [], []), (0, [], [])], []]
/-- value by value, however many -/
def tl_spl (S : tk_S) (k : Nat) : Option (List tk_S) := match S.2.2.1[k]? with
  | some v => if (!(Nat.beq v.1 1)) = true then none else some (tk_spv S.1 v.2 S.2.1 S.2.2.1 S.2.2.2.1 S.2.2.2.2.1 S.2.2.2.2.2 ((tk_hi S.1 v.2 - tk_lo S.1 v.2).toNat + 1) (tk_lo S.1 v.2))
  | none => none
section TQ3
variable {p : Program} {l : Launch} {e : Env} {R : Room} {s : State} {m : MethodId} {args : Array Value} {below : List Frame} {meth : Method} {c : Code} {Q : State → Prop}
variable {nL : Nat} {D : va_G} {cl : List vw_C} {A : Nat → Prop} {H0 : Heap} {KT : Nat → tk_G} {F : List (Nat × Nat × Nat)} {B0 : tk_B} {ws0 : va_W}
variable {nA : Nat} {ρ0 : Nat → Int}
variable {pc : Nat}
theorem tl_spl.ok {S : tk_S} {j : Nat} {rs : List tk_S} (h : tl_spl S j = some rs) (k : ∀ r ∈ rs, tk_J p l e R s m args below meth c Q D cl A H0 KT F B0 ws0 nL nA ρ0 pc r) : tk_J p l e R s m args below meth c Q D cl A H0 KT F B0 ws0 nL nA ρ0 pc S := by
  intro ρ B ws tys H locs ls lv st hk hg
  obtain ⟨E, L, K, M, cs, ss⟩ := S
  unfold tl_spl at h
  split at h
  · rename_i v hv
    split at h
    · cases h
    · rename_i hc
      cases h
      have hm := tk_stk.mem hk.2.2.2.2.1 (List.mem_of_getElem? hv)
      have hb := tk_env.at hk.1 v.2
      have h0 := hk.2.1
      dsimp only at hm hb h0 hg
      obtain ⟨E2, ρ', g1, g2, g3, g4⟩ := tk_c1.ok (r := 0) (a := v.2) (b := (0, ρ v.2.1 + v.2.2)) hk.1 hm.1 h0.1 (by decide) (by
        dsimp only
        rw [h0.2, Int.zero_add]
        rfl)
      refine k (E2, L, K, M, cs, ss) (tk_spv.mem ((ρ v.2.1 + v.2.2 - tk_lo E v.2).toNat) (by dsimp only; omega) ?_) ρ' B ws tys H locs ls lv st (hk.mv g2 g3 g4) (hg.ext g3 g4)
      dsimp only
      rw [show tk_lo E v.2 + (((ρ v.2.1 + v.2.2 - tk_lo E v.2).toNat : Nat) : Int) = ρ v.2.1 + v.2.2 by omega]
      exact g1
  · cases h
end TQ3
def al_rs : List tk_S := (tl_spl al_S 1).getD []
def tl_eqS (S W : tk_S) : Bool := decide (S.1 = W.1) && decide (S.2.1 = W.2.1) && decide (S.2.2.1 = W.2.2.1) && decide (S.2.2.2.1 = W.2.2.2.1) && Nat.beq S.2.2.2.2.1 W.2.2.2.2.1 && Nat.beq S.2.2.2.2.2 W.2.2.2.2.2
theorem tl_eqS.ok {S W : tk_S} (h : tl_eqS S W = true) : S = W := by
  obtain ⟨a1, a2, a3, a4, a5, a6⟩ := S
  obtain ⟨b1, b2, b3, b4, b5, b6⟩ := W
  unfold tl_eqS at h
  simp only [Bool.and_eq_true, decide_eq_true_eq] at h
  obtain ⟨⟨⟨⟨⟨rfl, rfl⟩, rfl⟩, rfl⟩, h5⟩, h6⟩ := h
  cases Nat.eq_of_beq_eq_true h5
  cases Nat.eq_of_beq_eq_true h6
  rfl
/-- an end is one of a contract's -/
def tl_end (T : tk_T) (k : tk_K) (o : Nat × tk_S) : Bool := tk_hd (tk_E0 k).length (tk_Tmi T k.1).2.2.1 (tk_Tmi T k.1).2.2.2.1 k.2.2.2.2.1 (o.2.1, [], o.2.2.2.1, o.2.2.2.2.1, (tk_Tmi T k.1).2.2.1, (tk_Tmi T k.1).2.2.2.1)
def tl_pt (T : tk_T) (sc nt : Nat) (Ks : Nat → Option tk_K) (nw : Nat → Nat × Nat × Nat × Nat) (f : Nat) (k : tk_K) (pcs : Nat) (tp : List tk_I) (S : tk_S) : Bool := match tk_run T k.2.2.2.2.2 sc nt Ks nw f k.1 [] tp [(pcs, S)] [] with
  | some z => z.1.all (tl_end T k)
  | none => false
def tl_pts (T : tk_T) (sc nt : Nat) (Ks : Nat → Option tk_K) (nw : Nat → Nat × Nat × Nat × Nat) (f : Nat) (k : tk_K) (pcs : Nat) : List tk_S → List (List tk_I) → Bool
  | [], [] => true
  | S :: Ss, tp :: tps => tl_pt T sc nt Ks nw f k pcs tp S && tl_pts T sc nt Ks nw f k pcs Ss tps
  | _, _ => false
theorem tl_pts.ok {T : tk_T} {sc nt : Nat} {Ks : Nat → Option tk_K} {nw : Nat → Nat × Nat × Nat × Nat} {f : Nat} {k : tk_K} {pcs : Nat} : ∀ {Ss : List tk_S} {tps : List (List tk_I)}, tl_pts T sc nt Ks nw f k pcs Ss tps = true → ∀ S ∈ Ss, ∃ tp, tl_pt T sc nt Ks nw f k pcs tp S = true
  | [], _, _, S, hS => by cases hS
  | S0 :: Ss, [], h, _, _ => by cases h
  | S0 :: Ss, tp :: tps, h, S, hS => by
    unfold tl_pts at h
    rw [Bool.and_eq_true] at h
    rcases List.mem_cons.mp hS with rfl | hS
    · exact ⟨tp, h.1⟩
    · exact tl_pts.ok h.2 S hS
section TX3
variable {T : tk_T} {U : kc_U} {Ts : List Jvm.Cond} {NWs : List (String × Nat × MethodName × String)} {TXs : List (String × Nat × String × Nat)} {St : (Nat → Nat) → State → Heap → Prop} {sc nt : Nat} {Ks : Nat → Option tk_K} {nw : Nat → Nat × Nat × Nat × Nat}
variable {l : Launch} {D : va_G} {cl : List vw_C} {A : Nat → Prop}
set_option maxHeartbeats 8000000 in
/-- a contract whose run is cut at a number, value by value -/
theorem tl_cut.ok {f j pcs : Nat} {tp : List tk_I} {k : tk_K} {S : tk_S} {rs : List tk_S} (hV : tk_TV T U cl Ts TXs) (hLV : tk_LV T U Ts NWs) (hG : GoodIn Ts Ts) (hSc : tk_Sc A St) (hTx : ∀ (s : State) (H : Heap) (ad : Nat → Nat), tk_Dx NWs TXs St ad s H → ∀ k, k < nt → ∃ cell : Cell, H[ad k]? = some cell ∧ cell.vm.isStatics = false ∧ s.vm.findClass (U.1 sc) = some cell.cls) (hKs : ∀ (id : Nat) (k : tk_K), Ks id = some k → tk_Con T U Ts NWs TXs St l D cl A k) (hNV : tk_NV T U Ts NWs TXs St l D cl A nw) (hM : tk_MV T U Ts k.1) (hlen : (tk_loc0 k.2.2.1).length ≤ (tk_Tmi T k.1).1) (hy0 : k.1 ≠ 0)
    (h : (match tk_run T k.2.2.2.2.2 sc nt Ks nw f k.1 [pcs] tp [(0, tk_E0 k, tk_lc (tk_Tmi T k.1).1 k.2.2.1, [], k.2.2.2.1, 0, 0)] [] with
      | some z => z.1.all (fun o => if Nat.beq o.1 pcs = true then tl_eqS o.2 S else tl_end T k o)
      | none => false) = true) (hs : tl_spl S j = some rs) (hr : ∀ r ∈ rs, ∃ tp, tl_pt T sc nt Ks nw f k pcs tp r = true) : tk_Con T U Ts NWs TXs St l D cl A k := by
  split at h
  · rename_i z hz
    have h3 := List.all_eq_true.mp h
    intro ρ B ws tys H vs hE hρ has hMm hP hD hC hA hcap
    classical
    let os : List (Nat × tk_S) := z.1.filter (fun o => !(Nat.beq o.1 pcs)) ++ rs.flatMap (fun r => if hrr : r ∈ rs then (match tk_run T k.2.2.2.2.2 sc nt Ks nw f k.1 [] (Classical.choose (hr r hrr)) [(pcs, r)] [] with
      | some z => z.1
      | none => []) else [])
    have h0 : 0 < (tk_E0 k).length ∧ ρ 0 = 0 := ⟨Nat.zero_lt_succ _, hρ⟩
    have hpt : ∀ r (hrr : r ∈ rs), ∃ z2, tk_run T k.2.2.2.2.2 sc nt Ks nw f k.1 [] (Classical.choose (hr r hrr)) [(pcs, r)] [] = some z2 ∧ z2.1.all (tl_end T k) = true := fun r hrr => by
      have h9 := Classical.choose_spec (hr r hrr)
      unfold tl_pt at h9
      split at h9
      · rename_i z2 hz2
        exact ⟨z2, hz2, h9⟩
      · cases h9
    have hin : ∀ r (hrr : r ∈ rs) z2, tk_run T k.2.2.2.2.2 sc nt Ks nw f k.1 [] (Classical.choose (hr r hrr)) [(pcs, r)] [] = some z2 → ∀ o ∈ z2.1, o ∈ os := fun r hrr z2 hz2 o ho => by
      refine List.mem_append.mpr (Or.inr (List.mem_flatMap.mpr ⟨r, hrr, ?_⟩))
      rw [dif_pos hrr, hz2]
      exact ho
    have hos : ∀ o ∈ os, tk_Ret T k.1 o ∧ tl_end T k o = true := fun o ho => by
      rcases List.mem_append.mp ho with ho | ho
      · obtain ⟨g1, g2⟩ := List.mem_filter.mp ho
        have g3 : Nat.beq o.1 pcs = false := by
          cases hq : Nat.beq o.1 pcs with
          | true => rw [hq] at g2; cases g2
          | false => rfl
        have g4 := h3 o g1
        rw [g3] at g4
        rcases tk_run.outs f k.1 [pcs] tp z.2 _ [] z.1 hz (fun o h => by cases h) o g1 with q | q
        · have q1 : o.1 = pcs := by simpa using q
          rw [q1] at g3
          simp at g3
        · exact ⟨q, g4⟩
      · obtain ⟨r, hrr, g1⟩ := List.mem_flatMap.mp ho
        rw [dif_pos hrr] at g1
        obtain ⟨z2, hz2, g2⟩ := hpt r hrr
        rw [hz2] at g1
        rcases tk_run.outs f k.1 [] _ z2.2 _ [] z2.1 hz2 (fun o h => by cases h) o g1 with q | q
        · cases q
        · exact ⟨q, List.all_eq_true.mp g2 o g1⟩
    have hmet := tk_met (l := l) (F := k.2.2.2.2.2) (os := os) hV hM hy0 hE h0 has hMm hP hD hC hA hcap hlen (fun p e s m args below meth c Q hCx hoJ => (tk_run.ok hV hLV hG hSc hTx hKs hNV f k.1 [pcs] tp z.2 _ [] z.1 hz p e (tk_rm T k.1) s m args below meth c Q H B ws _ ρ hCx (fun o ho => by
      have g4 := h3 o ho
      cases hq : Nat.beq o.1 pcs with
      | true =>
        rw [hq] at g4
        have e1 := tl_eqS.ok g4
        have e2 := Nat.eq_of_beq_eq_true hq
        rw [e1, e2]
        refine tl_spl.ok hs (fun r hrr => ?_)
        obtain ⟨z2, hz2, -⟩ := hpt r hrr
        exact (tk_run.ok hV hLV hG hSc hTx hKs hNV f k.1 [] _ z2.2 _ [] z2.1 hz2 p e (tk_rm T k.1) s m args below meth c Q H B ws _ ρ hCx (fun o ho => hoJ o (hin r hrr z2 hz2 o ho))).1 _ List.mem_cons_self
      | false => exact hoJ o (List.mem_append.mpr (Or.inl (List.mem_filter.mpr ⟨ho, by rw [hq]; rfl⟩))))).1 _ List.mem_cons_self) (fun o ho => (hos o ho).1)
    refine Jvm.Free.MetFree.mono hmet (fun _ _ q => q) (fun _ _ _ _ _ q => q) (fun a st o t _ q => ⟨?_, q.2⟩)
    obtain ⟨⟨o', ho', ρ', B', ws', tys', v, q0, q1, q2, q3, q4, q5, q6, q7, q8, q9, q10, q11, q12, q13⟩, -⟩ := q
    obtain ⟨w, hw, hx⟩ := List.any_eq_true.mp (hos o' ho').2
    obtain ⟨xs, hxs⟩ := Option.isSome_iff_exists.mp hx
    have hk1 : tk_ok D cl A t t.heap (tk_TKT T) k.2.2.2.2.2 B ws 0 (o'.2.1, [], o'.2.2.2.1, o'.2.2.2.2.1, (tk_Tmi T k.1).2.2.1, (tk_Tmi T k.1).2.2.2.1) ρ' B' ws' tys' t.heap [] _ (lv_args 0 []) v.toList := ⟨q2, q3, fun i a h => by simp at h, lv_entry [] (n := 0) (Nat.le_refl _), q1, q5, q6, q7, q8, va_S.rf, q9, q10, q11, q12⟩
    obtain ⟨g1, -, g7⟩ := tk_wi.ok (E0 := tk_E0 k) hxs h0.1 rfl hk1 (fun j hj => by
      rw [q4.2 j hj]
      exact (hE j).ext (fun i hi => q4.2 i (by omega)))
    obtain ⟨y1, y2, -, -, y3, y4, y5, y6, y7, -, y8, y9, y10, y11⟩ := g1
    exact ⟨tk_pS T k w, List.mem_map.mpr ⟨w, hw, rfl⟩, tk_rw (tk_E0 k).length xs ρ', B', ws', tys', v, q0, y3, y1, y2, ⟨by show _ ≤ (tk_E0 k ++ w.1).length; rw [List.length_append]; omega, fun j hj => by rw [tk_rw.lt hj]; exact q4.2 j hj⟩, y4, y5, y6, y7, y8, y9, y10, y11, q13⟩
  · cases h
end TX3
theorem al_p0 : (match tk_run tt_T tu_k433.2.2.2.2.2 tt_sc tt_nt (tu_K 433) tt_nw 8000 tu_k433.1 [29] al_t0 [(0, tk_E0 tu_k433, tk_lc (tk_Tmi tt_T tu_k433.1).1 tu_k433.2.2.1, [], tu_k433.2.2.2.1, 0, 0)] [] with
  | some z => z.1.all (fun o => if Nat.beq o.1 29 = true then tl_eqS o.2 al_S else tl_end tt_T tu_k433 o)
  | none => false) = true := by decide +kernel
