section TR
variable {p : Program} {l : Launch} {e : Env} {R : Room} {s : State} {m : MethodId} {args : Array Value} {below : List Frame} {meth : Method} {c : Code} {Q : State → Prop}
variable {nL : Nat} {D : va_G} {cl : List vw_C} {A : Nat → Prop} {H0 : Heap} {KT : Nat → tk_G} {F : List (Nat × Nat × Nat)} {B0 : tk_B} {ws0 : va_W}
variable {nA : Nat} {ρ0 : Nat → Int}
/-- the value that rises from round to round -/
def tk_mv (w : tk_A) (ρ : Nat → Int) : Int := if w.2.2.2.2.2 = true then ρ w.2.2.2.2.1.1 + w.2.2.2.2.1.2 else -(ρ w.2.2.2.2.1.1 + w.2.2.2.2.1.2)
theorem tk_mB.ok {ρ : Nat → Int} {E : tk_E} {w : tk_A} (h : tk_mB E w = true) (hE : tk_env ρ E) : tk_mv w ρ ≤ 1000000000000 ∧ w.2.2.2.2.1.1 < E.length := by
  unfold tk_mB at h
  rw [Bool.and_eq_true] at h
  have h1 := of_decide_eq_true h.1
  have h2 := hE.at w.2.2.2.2.1
  refine ⟨?_, Nat.le_of_ble_eq_true h.2⟩
  unfold tk_mv
  split <;> omega
theorem tk_mz.ok {ρ : Nat → Int} {n0 : Nat} {xs : List tk_Lx} {w w' : tk_A} {E : tk_E} (h : tk_mz n0 xs w w' E = true) (hE : tk_env ρ E) : tk_mv w ρ < tk_mv w' (tk_rw n0 xs ρ) := by
  unfold tk_mz at h
  split at h
  · rename_i q hq
    rw [Bool.and_eq_true] at h
    obtain ⟨h1, h2⟩ := h
    have h1 : w.2.2.2.2.2 = w'.2.2.2.2.2 := by simpa using h1
    have h3 := (tk_sb.ok (ρ := ρ) hq).1
    obtain ⟨h4, h5⟩ := tk_B2.ok hE q.1 w.2.2.2.2.1.1
    unfold tk_mv
    rw [← h1, h3]
    split at h2
    · rename_i hu
      have h2 := of_decide_eq_true h2
      rw [if_pos hu, if_pos hu]
      omega
    · rename_i hu
      have h2 := of_decide_eq_true h2
      rw [if_neg hu, if_neg hu]
      omega
  · cases h
/-- a loop: all states at its head are among the wider ones -/
theorem tk_J.loop {ws : List tk_A} {pc : Nat} {S : tk_S} {os : tk_A → List (Nat × tk_S)} (h2 : tk_hd S.1.length S.2.2.2.2.1 S.2.2.2.2.2 ws S = true) (hm : ∀ w ∈ ws, tk_mB (S.1 ++ w.1) w = true) (h3 : ∀ w ∈ ws, ∀ o ∈ os w, o.1 = pc → tk_bk S.1.length S.2.2.2.2.1 S.2.2.2.2.2 ws w o.2 = true)
    (h4 : ∀ w ∈ ws, ∀ o ∈ os w, o.1 ≠ pc → tk_J p l e R s m args below meth c Q D cl A H0 KT F B0 ws0 nL nA ρ0 o.1 o.2)
    (hb : ∀ w ∈ ws, ∀ ρ1 : Nat → Int, tk_ag nA ρ0 (S.1 ++ w.1).length ρ1 → (∀ o ∈ os w, tk_J p l e R s m args below meth c Q D cl A H0 KT F B0 ws0 nL (S.1 ++ w.1).length ρ1 o.1 o.2) → tk_J p l e R s m args below meth c Q D cl A H0 KT F B0 ws0 nL (S.1 ++ w.1).length ρ1 pc (tk_wS S w)) : tk_J p l e R s m args below meth c Q D cl A H0 KT F B0 ws0 nL nA ρ0 pc S := by
  have main : ∀ (μ : Nat) (w : tk_A), w ∈ ws → ∀ (ρ : Nat → Int) (B : tk_B) (wz : va_W) (tys : List (ClassId × FieldType)) (H : Heap) (locs : List Loc) (ls : Array Slot) (lv : List (Nat × Value)) (st : List Value), (1000000000000 - tk_mv w ρ).toNat ≤ μ → 0 < S.1.length → nA ≤ S.1.length → tk_ok D cl A s H0 KT F B0 ws0 nL (tk_wS S w) ρ B wz tys H locs ls lv st → tk_ag nA ρ0 (S.1 ++ w.1).length ρ → W p l e R s m args below meth c H locs S.2.2.2.2.1 S.2.2.2.2.2 Q (F0 m pc ls st) := by
    intro μ
    induction μ with
    | zero =>
      intro w hw ρ B wz tys H locs ls lv st hμ hz hA0 hk hg
      refine hb w hw ρ hg (fun o ho => ?_) ρ B wz tys H locs ls lv st hk ⟨Nat.le_refl _, fun _ _ => rfl⟩
      by_cases e1 : o.1 = pc
      · intro ρ' B' wz' tys' H' locs' ls' lv' st' hk' hg'
        exfalso
        obtain ⟨w', hw', hx⟩ := List.any_eq_true.mp (h3 w hw o ho e1)
        split at hx
        · rename_i xs hxs
          obtain ⟨g1, -, -⟩ := tk_wi.ok (E0 := S.1) hxs hz rfl hk' (fun k hk2 => by
            have hk3 : k < (S.1 ++ w.1).length := by rw [List.length_append]; omega
            have := hk.1 k
            rw [hg'.2 k hk3]
            rw [show tk_at (tk_wS S w).1 k = tk_at S.1 k from tk_at.app hk2] at this
            exact this.ext (fun i hi => hg'.2 i (by omega)))
          have g2 := tk_mz.ok hx hk'.1
          have g3 := (tk_mB.ok (hm w' hw') g1.1).1
          have g4 := (tk_mB.ok (hm w hw) hk.1).2
          have g5 : tk_mv w ρ' = tk_mv w ρ := by
            unfold tk_mv
            rw [hg'.2 _ g4]
          omega
        · cases hx
      · exact (h4 w hw o ho e1).mono hg
    | succ μ ih =>
      intro w hw ρ B wz tys H locs ls lv st hμ hz hA0 hk hg
      refine hb w hw ρ hg (fun o ho => ?_) ρ B wz tys H locs ls lv st hk ⟨Nat.le_refl _, fun _ _ => rfl⟩
      by_cases e1 : o.1 = pc
      · intro ρ' B' wz' tys' H' locs' ls' lv' st' hk' hg'
        obtain ⟨w', hw', hx⟩ := List.any_eq_true.mp (h3 w hw o ho e1)
        split at hx
        · rename_i xs hxs
          obtain ⟨g1, g6, g7⟩ := tk_wi.ok (E0 := S.1) hxs hz rfl hk' (fun k hk2 => by
            have hk3 : k < (S.1 ++ w.1).length := by rw [List.length_append]; omega
            have := hk.1 k
            rw [hg'.2 k hk3]
            rw [show tk_at (tk_wS S w).1 k = tk_at S.1 k from tk_at.app hk2] at this
            exact this.ext (fun i hi => hg'.2 i (by omega)))
          have g2 := tk_mz.ok hx hk'.1
          have g3 := (tk_mB.ok (hm w' hw') g1.1).1
          have g4 := (tk_mB.ok (hm w hw) hk.1).2
          have g5 : tk_mv w ρ' = tk_mv w ρ := by
            unfold tk_mv
            rw [hg'.2 _ g4]
          rw [e1]
          refine W.widen g6.1 g6.2 (ih w' hw' _ B' wz' tys' H' locs' ls' lv' st' (by omega) hz hA0 g1 ⟨by rw [List.length_append]; omega, fun k hk2 => ?_⟩)
          rw [tk_rw.lt (by omega), hg'.2 k (by rw [List.length_append]; omega)]
          exact hg.2 k hk2
        · cases hx
      · exact (h4 w hw o ho e1).mono hg
  intro ρ B wz tys H locs ls lv st hk hg
  have hz : 0 < S.1.length := hk.2.1.1
  obtain ⟨w, hw, hx⟩ := List.any_eq_true.mp h2
  obtain ⟨xs, hxs⟩ := Option.isSome_iff_exists.mp hx
  obtain ⟨g1, g6, g7⟩ := tk_wi.ok (E0 := S.1) hxs hz rfl hk (fun k _ => hk.1 k)
  refine W.widen g6.1 g6.2 (main _ w hw _ B wz tys H locs ls lv st (Nat.le_refl _) hz hg.1 g1 ⟨by rw [List.length_append]; have := hg.1; omega, fun k hk2 => ?_⟩)
  rw [tk_rw.lt (Nat.lt_of_lt_of_le hk2 hg.1)]
  exact hg.2 k hk2
/-- states put together, over the symbols that a caller has -/
theorem tk_J.join {ws : List tk_A} {pc : Nat} {o : tk_S} {E0 : tk_E} (hE : tk_env ρ0 E0) (hn : E0.length = nA) (hz : 0 < nA) (h : tk_hd nA o.2.2.2.2.1 o.2.2.2.2.2 ws o = true) (k : ∀ w ∈ ws, tk_J p l e R s m args below meth c Q D cl A H0 KT F B0 ws0 nL nA ρ0 pc (E0 ++ w.1, w.2.1, w.2.2.1, w.2.2.2.1, o.2.2.2.2.1, o.2.2.2.2.2)) : tk_J p l e R s m args below meth c Q D cl A H0 KT F B0 ws0 nL nA ρ0 pc o := by
  intro ρ B wz tys H locs ls lv st hk hg
  obtain ⟨w, hw, hx⟩ := List.any_eq_true.mp h
  obtain ⟨xs, hxs⟩ := Option.isSome_iff_exists.mp hx
  obtain ⟨g1, g6, g7⟩ := tk_wi.ok (E0 := E0) hxs hz hn hk (fun j hj => by
    rw [hg.2 j hj]
    exact (hE j).ext (fun i hi => hg.2 i (by omega)))
  refine k w hw _ B wz tys H locs ls lv st g1 ⟨by rw [List.length_append]; omega, fun j hj => ?_⟩
  rw [tk_rw.lt hj]
  exact hg.2 j hj
end TR
section TS
variable {T : tk_T} {U : kc_U} {Ts : List Jvm.Cond} {NWs : List (String × Nat × MethodName × String)} {TXs : List (String × Nat × String × Nat)} {St : (Nat → Nat) → State → Heap → Prop} {y : Nat}
variable {p : Program} {l : Launch} {e : Env} {R : Room} {s : State} {m : MethodId} {args : Array Value} {below : List Frame} {meth : Method} {c : Code} {Q : State → Prop}
variable {D : va_G} {cl : List vw_C} {A : Nat → Prop} {H0 : Heap} {F : List (Nat × Nat × Nat)} {B0 : tk_B} {ws0 : va_W}
variable {nA : Nat} {ρ0 : Nat → Int}
set_option maxHeartbeats 8000000 in
/-- a call whose method is run at once -/
theorem tk_J.inl {sc nt : Nat} {i : Instr} {n pc : Nat} {S : tk_S} {y' : Nat} {as K' : List tk_V} {os : List (Nat × tk_S)} (hV : tk_TV T U cl Ts TXs) (hLV : tk_LV T U Ts NWs) (hG : GoodIn Ts Ts) (hSc : tk_Sc A St) (hTx : ∀ (s : State) (H : Heap) (ad : Nat → Nat), tk_Dx NWs TXs St ad s H → ∀ k, k < nt → ∃ cell : Cell, H[ad k]? = some cell ∧ cell.vm.isStatics = false ∧ s.vm.findClass (U.1 sc) = some cell.cls)
    (hX : tk_Cx T U Ts NWs TXs St y p R s m args meth c A H0 B0 nA ρ0) (hc : tk_Tcd T y pc = some (i, n)) (h : tk_cal T sc nt y i n S = some (y', as, K'))
    (hrun : ∀ (p : Program) (e : Env) (s : State) (m : MethodId) (args : Array Value) (below : List Frame) (meth : Method) (c : Code) (Q : State → Prop) (H : Heap) (B : tk_B) (ws : va_W) (ρ : Nat → Int), tk_Cx T U Ts NWs TXs St y' p (tk_rm T y') s m args meth c A H B S.1.length ρ → (∀ o ∈ os, tk_J p l e (tk_rm T y') s m args below meth c Q D cl A H (tk_TKT T) F B ws (tk_Tmi T y').1 S.1.length ρ o.1 o.2) → tk_J p l e (tk_rm T y') s m args below meth c Q D cl A H (tk_TKT T) F B ws (tk_Tmi T y').1 S.1.length ρ 0 (S.1, tk_lc (tk_Tmi T y').1 as, [], S.2.2.2.1, 0, 0))
    (hret : ∀ o ∈ os, tk_Ret T y' o)
    (kk : ∀ ρ : Nat → Int, tk_env ρ S.1 → 0 < S.1.length → tk_ag nA ρ0 S.1.length ρ → ∀ o ∈ os, tk_J p l e R s m args below meth c Q D cl A H0 (tk_TKT T) F B0 ws0 (tk_Tmi T y).1 S.1.length ρ (pc + 3) (tk_bh T y' S K' o.2)) : tk_J p l e R s m args below meth c Q D cl A H0 (tk_TKT T) F B0 ws0 (tk_Tmi T y).1 nA ρ0 pc S := by
  intro ρ B ws tys H locs ls lv st hk hg
  obtain ⟨hE, h0, hL, hl, hst, hMm, hK, hPw, hD, hS, hC, hFr, hLe, hBl⟩ := id hk
  have hcap := hX.2.2.2.2.2.2.2.2.1
  have hA := hX.2.2.2.2.2.2.1
  refine tk_cal.ok hV hLV hG hSc hTx hX hc h hk (fun vs rest q1 q2 c6 c2 hy0 hM => ?_)
  refine ⟨_, tk_met (l := l) (F := F) (os := os) hV hM hy0 hE h0 q1 hMm hPw hD hC (fun q hq => hA q (Nat.le_trans hS.1 hq)) (by omega) c6 (fun p e s m args below meth c Q hCx ho => hrun p e s m args below meth c Q H B ws ρ hCx ho) hret, fun X hr => tk_after hr hS (fun o ho ρ' B' ws' tys' v H' locs' g1 g2 g3 g4 g5 g6 g7 g8 g9 g10 g11 g12 g13 => ?_)⟩
  have kr := kk ρ hE h0.1 hg o ho
  refine kr ρ' B' ws' tys' H' locs' ls lv (v.toList ++ rest) ⟨g2, g3, hL.ext g4.2 g12 g4.1, hl, tk_stk.app g1 (tk_stk.ext g4.2 g12 g4.1 q2), g5, g6, g7, g8, g9, g10, hFr.tr g11 hLe (fun _ _ h => h), hLe.tr g12, by show _ ≤ _ + (S.2.2.2.2.1 + _); omega⟩ g4
end TS
