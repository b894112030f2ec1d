theorem kc_cat.ok {ρ : Nat → Int} {β : Nat → Nat} {N n : Nat} : ∀ {K : List kc_V} {st : List Value}, kc_stk ρ β N n K st → (st.map fun v => v.category).sum = kc_cat K
  | [], [], _ => rfl
  | (t, b, d) :: K, v :: st, h => by
    have h1 := kc_cat.ok h.2.2
    unfold kc_cat at h1 ⊢
    rw [List.map_cons, List.sum_cons, List.map_cons, List.sum_cons, h1]
    by_cases e : t = 2
    · subst e
      rw [kc_cat2 h.2.1]
      rfl
    · rw [kc_cat1 h.2.1 e, if_neg e]
  | [], _ :: _, h => absurd h id
  | _ :: _, [], h => absurd h id
section KJ
variable {p : Program} {l : Launch} {e : Env} {R : Room} {s : State} {m : MethodId} {args : Array Value} {below : List Frame} {meth : Method} {c : Code} {Q : State → Prop}
variable {cc : ByteArray} {nL : Nat} {D : va_G} {cl : List vw_C} {A : Nat → Prop} {H0 : Heap}
variable {nA : Nat} {ρ0 : Nat → Int} {nB : Nat} {β0 : Nat → Nat}
variable {E E' : kc_E} {L K K' : List kc_V} {Hs Hs' : List kc_G} {cs ss pc : Nat}
theorem kc_upd_ne {f : Nat → Int32} {i j : Nat} {x : Int32} (h : j ≠ i) : upd f i x j = f j := pk_un h
theorem kc_upd_eq {f : Nat → Int32} {i : Nat} {x : Int32} : upd f i x i = x := pk_us
/-- a cell changed, all else as it is -/
theorem kc_J.st {ρ : Nat → Int} {β : Nat → Nat} {ws : va_W} {tys : List (ClassId × FieldType)} {H H1 : Heap} {locs locs1 : List Loc} {ls : Array Slot} {lv : List (Nat × Value)} {st st' : List Value} {r : Nat} {g : kc_G} {e' : va_E}
    (k : kc_J p l e R s m args below meth c Q D cl A H0 nL nA ρ0 nB β0 pc (E, L, K', Hs.set r g, cs, ss)) (hk : kc_ok D cl A s H0 nL E L K Hs ρ β ws tys H locs ls lv st) (hg : kc_ag nA ρ0 nB β0 E.length Hs.length ρ β) (hst' : kc_stk ρ β Hs.length E.length K' st')
    (u0 : kc_e ρ β Hs.length E.length tys g e') (u1 : va_P D cl (ws.set r (β (r + 1), e')) H1) (u2 : va_D A (ws.set r (β (r + 1), e'))) (u3 : va_S A H0 H1 locs1) : W p l e R s m args below meth c H1 locs1 cs ss Q (F0 m pc ls st') := by
  obtain ⟨hE, h0, hL, hl, hst, hK, hPw, hD, hS, hC⟩ := hk
  exact k ρ β _ tys H1 locs1 ls lv st' ⟨hE, h0, by dsimp only; rw [List.length_set]; exact hL, hl, by dsimp only; rw [List.length_set]; exact hst', hK, u1, u2, u3, hC.set u0⟩ (by dsimp only; rw [List.length_set]; exact hg)
set_option maxHeartbeats 4000000 in
theorem kc_ast.ok {ins : Instr} (h : kc_ast ins E K Hs = some (K', Hs')) (hx : p.tables.exec = Jvm.exec) (hb : c.code = cc) (hd : decode cc pc = .ok (ins, 1))
    (k : kc_J p l e R s m args below meth c Q D cl A H0 nL nA ρ0 nB β0 (pc + 1) (E, L, K', Hs', cs, ss)) : kc_J p l e R s m args below meth c Q D cl A H0 nL nA ρ0 nB β0 pc (E, L, K, Hs, cs, ss) := by
  intro ρ β ws tys H locs ls lv st hk hg
  have hE : kc_env ρ E := hk.1
  have hst : kc_stk ρ β Hs.length E.length K st := hk.2.2.2.2.1
  obtain ⟨hK, hPw, hD, hS, hC⟩ := hk.2.2.2.2.2
  unfold kc_ast at h
  split at h
  · rename_i a ni di n d K2
    split at h
    · rename_i r kd ci ty len f0 fs vs e1
      split at h
      · rename_i hc
        simp only [Bool.and_eq_true] at hc
        obtain ⟨⟨c1, c2⟩, c3⟩ := hc
        have c3 := of_decide_eq_true c3
        cases h
        obtain ⟨va, st0, rfl, hlta, hva, hst0⟩ := kc_stk.uncons hst
        obtain ⟨vi, st1, rfl, hlti, ⟨x, rfl, exi⟩, hst1⟩ := kc_stk.uncons hst0
        obtain ⟨v, st', rfl, hlt, hv, hst'⟩ := kc_stk.uncons hst1
        obtain ⟨rfl, hH⟩ := kc_cell.ok e1 hE hv
        obtain ⟨e0, w1, w3⟩ := hC.2 _ _ hH
        obtain ⟨i1, i2, i3⟩ := kc_ix.ok c2 hE exi
        have hba := hE.at a
        obtain ⟨at1, an, ad⟩ := a
        dsimp only at hba
        have ht : at1 ≠ 5 → kc_t β Hs.length (kc_fv E (at1, an, ad)) va := fun h5 => hva.write h5 rfl (by unfold kc_fv; dsimp only; omega) (by unfold kc_fv; dsimp only; omega)
        unfold kc_ask kc_fv at c1
        dsimp only at c1
        split at c1
        · obtain ⟨rfl, rfl, rfl⟩ := of_decide_eq_true c1
          obtain ⟨cA, t0, h2, rfl, w4, w7⟩ := w3
          obtain ⟨y, rfl, ey⟩ := hva
          exact va_iast hx hb hK hPw hD hS r t0 w1 w4 i1 hd (fun H1 locs1 u1 u2 u3 => kc_J.st k hk hg hst' ⟨cA, t0, _, rfl, w4, kc_wr.ok (V := fun j => .int (h2 j)) (V' := fun j => .int (upd h2 x.toNatClampNeg y j)) i3 w7 (fun j hj => (kc_tyI (w7 j hj)).trans c3.symm) c3.symm (by rw [kc_upd_eq]; exact ht (by decide)) (fun j hj => by rw [kc_upd_ne hj])⟩ u1 u2 u3)
        · obtain ⟨rfl, hty⟩ := of_decide_eq_true c1
          obtain ⟨cA, t0, h2, rfl, w4, w7⟩ := w3
          rcases hty with ⟨rfl, rfl, b1, b2⟩ | ⟨rfl, rfl, b1, b2⟩
          · obtain ⟨y, rfl, ey⟩ := hva
            dsimp only at ey
            have hy := kc_narb (x := y) (by omega) (by omega)
            exact va_bast hx hb hK hPw hD hS r t0 w1 w4 i1 hd (fun H1 locs1 u1 u2 u3 => kc_J.st k hk hg hst' ⟨cA, t0, _, rfl, w4, kc_wr.ok (V := fun j => .int (h2 j)) (V' := fun j => .int (upd h2 x.toNatClampNeg (vp_nar .byte y) j)) i3 w7 (fun j hj => (kc_tyI (w7 j hj)).trans c3.symm) c3.symm (by rw [kc_upd_eq, hy]; exact ht (by decide)) (fun j hj => by rw [kc_upd_ne hj])⟩ u1 u2 u3)
          · obtain ⟨y, rfl, ey⟩ := hva
            dsimp only at ey
            have hy := kc_narz (x := y) (by omega) (by omega)
            exact va_zast hx hb hK hPw hD hS r t0 w1 w4 i1 hd (fun H1 locs1 u1 u2 u3 => kc_J.st k hk hg hst' ⟨cA, t0, _, rfl, w4, kc_wr.ok (V := fun j => .int (h2 j)) (V' := fun j => .int (upd h2 x.toNatClampNeg (vp_nar .boolean y) j)) i3 w7 (fun j hj => (kc_tyI (w7 j hj)).trans c3.symm) c3.symm (by rw [kc_upd_eq, hy]; exact ht (by decide)) (fun j hj => by rw [kc_upd_ne hj])⟩ u1 u2 u3)
        · obtain ⟨rfl, rfl, rfl, b1, b2⟩ := of_decide_eq_true c1
          obtain ⟨cA, t0, h2, rfl, w4, w7⟩ := w3
          obtain ⟨y, rfl, ey⟩ := hva
          dsimp only at ey
          have hy := kc_nars (x := y) (by omega) (by omega)
          exact va_sast hx hb hK hPw hD hS r t0 w1 w4 i1 hd (fun H1 locs1 u1 u2 u3 => kc_J.st k hk hg hst' ⟨cA, t0, _, rfl, w4, kc_wr.ok (V := fun j => .int (h2 j)) (V' := fun j => .int (upd h2 x.toNatClampNeg (vp_nar .short y) j)) i3 w7 (fun j hj => (kc_tyI (w7 j hj)).trans c3.symm) c3.symm (by rw [kc_upd_eq, hy]; exact ht (by decide)) (fun j hj => by rw [kc_upd_ne hj])⟩ u1 u2 u3)
        · obtain ⟨rfl, rfl⟩ := of_decide_eq_true c1
          obtain ⟨cA, t0, h2, rfl, w4, w7⟩ := w3
          obtain ⟨y, rfl, ey⟩ := hva
          exact va_last hx hb hK hPw hD hS r t0 w1 w4 i1 hd (fun H1 locs1 u1 u2 u3 => kc_J.st k hk hg hst' ⟨cA, t0, _, rfl, w4, kc_wr.ok (V := fun j => .long (h2 j)) (V' := fun j => .long (vp_updL h2 x.toNatClampNeg y j)) i3 w7 (fun j hj => (kc_tyL (w7 j hj)).trans c3.symm) c3.symm (by rw [pk_uLs]; exact ht (by decide)) (fun j hj => by rw [pk_uLn hj])⟩ u1 u2 u3)
        · cases c1
      · cases h
    · cases h
  · cases h
set_option maxHeartbeats 4000000 in
theorem kc_aas.ok {cn : Nat → FieldType} (h : kc_aas cn E K Hs = some (K', Hs')) (hx : p.tables.exec = Jvm.exec) (hb : c.code = cc) (hcn : ∀ (ci : Nat) (z : vw_C), cl[ci]? = some z → cn ci = .object z.1) (hd : decode cc pc = .ok (.aastore, 1))
    (k : kc_J p l e R s m args below meth c Q D cl A H0 nL nA ρ0 nB β0 (pc + 1) (E, L, K', Hs', cs, ss)) : kc_J p l e R s m args below meth c Q D cl A H0 nL nA ρ0 nB β0 pc (E, L, K, Hs, cs, ss) := by
  intro ρ β ws tys H locs ls lv st hk hg
  have hE : kc_env ρ E := hk.1
  have hst : kc_stk ρ β Hs.length E.length K st := hk.2.2.2.2.1
  obtain ⟨hK, hPw, hD, hS, hC⟩ := hk.2.2.2.2.2
  unfold kc_aas at h
  split at h
  · rename_i na da ni di n d K2
    split at h
    · rename_i r ci ty len f0 fs vs r2 ca rst e1 e2
      split at h
      · rename_i hc
        simp only [Bool.and_eq_true] at hc
        obtain ⟨⟨c1, c2⟩, c3⟩ := hc
        have c1 := of_decide_eq_true c1
        have c3 := of_decide_eq_true c3
        cases h
        obtain ⟨va, st0, rfl, hlta, hva, hst0⟩ := kc_stk.uncons hst
        obtain ⟨vi, st1, rfl, hlti, ⟨x, rfl, exi⟩, hst1⟩ := kc_stk.uncons hst0
        obtain ⟨v, st', rfl, hlt, hv, hst'⟩ := kc_stk.uncons hst1
        obtain ⟨rfl, hH⟩ := kc_cell.ok e1 hE hv
        obtain ⟨e0, w1, w3⟩ := hC.2 _ _ hH
        obtain ⟨i1, i2, i3⟩ := kc_ix.ok c2 hE exi
        have hba := hE.at (3, na, da)
        dsimp only at hba
        have ht : kc_t β Hs.length (kc_fv E (3, na, da)) va := hva.write (show (3 : Nat) ≠ 5 by decide) rfl (by unfold kc_fv; dsimp only; omega) (by unfold kc_fv; dsimp only; omega)
        obtain ⟨rfl, hH2⟩ := kc_cell.ok e2 hE hva
        obtain ⟨e3, v1, v3⟩ := hC.2 _ _ hH2
        obtain ⟨fs2, rfl, -⟩ := v3
        have hz0 : ∃ z : vw_C, cl[ca]? = some z ∧ _ := hPw _ _ v1
        obtain ⟨z, hz, -⟩ := hz0
        have hcz := hcn _ _ hz
        obtain ⟨cA, t0, h2, rfl, w4, w7⟩ := w3
        dsimp only at w4
        rw [c1, hcz] at w4
        refine va_astq hx hb hK hPw hD hS r t0 r2 ca w1 w4 v1 hz i1 hd (fun H1 locs1 u1 u2 u3 => ?_)
        refine kc_J.st k hk hg hst' ⟨cA, t0, _, rfl, by dsimp only; rw [c1, hcz]; exact w4, kc_wr.ok (V := fun j => va_rf (h2 j)) (V' := fun j => va_rf (va_up h2 x.toNatClampNeg (some (β (r2 + 1))) j)) i3 w7 (fun j hj => (kc_tyR (w7 j hj)).trans c3.symm) c3.symm (by rw [va_up_self]; exact ht) (fun j hj => by rw [va_up_ne _ _ hj])⟩ u1 u2 u3
      · cases h
    · cases h
  · cases h
set_option maxHeartbeats 4000000 in
theorem kc_acp.ok {own : String} {ix : Nat} (h : kc_acp E K Hs = some (K', Hs')) (hx : p.tables.exec = Jvm.exec) (hb : c.code = cc) (hml : c.maxLocals = nL) (hown : s.vm.findClass own = some m.cls) (hlink : (Cond.methodLink own ix arraycopyName).before args s = true) (hnat : (Cond.native arraycopyName).before args s = true) (hstat : (Cond.static arraycopyName).before args s = true) (hini : (Cond.initialized "java/lang/System").before args s = true)
    (hframes : 1 ≤ R.frames) (hlocals : 8 + (nativeFrameWords "java/lang/System" "arraycopy" 5 + 11) ≤ R.locals) (hd : decode cc pc = .ok (.invokestatic ix, 3))
    (k : kc_J p l e R s m args below meth c Q D cl A H0 nL nA ρ0 nB β0 (pc + 3) (E, L, K', Hs', cs, ss)) : kc_J p l e R s m args below meth c Q D cl A H0 nL nA ρ0 nB β0 pc (E, L, K, Hs, cs, ss) := by
  intro ρ β ws tys H locs ls lv st hk hg
  have hE : kc_env ρ E := hk.1
  have hl : lv_has ls nL lv := hk.2.2.2.1
  have hst : kc_stk ρ β Hs.length E.length K st := hk.2.2.2.2.1
  obtain ⟨hK, hPw, hD, hS, hC⟩ := hk.2.2.2.2.2
  unfold kc_acp at h
  split at h
  · rename_i nl dl nq dq nd dd np dp ns ds K2
    split at h
    · rename_i r1 ci1 len f0 fs vs1 r ci len' f0' fs' vs' e1 e2
      split at h
      · rename_i hc
        obtain ⟨c1, c2, c3, c4, c5, c6, c7, c8⟩ := hc
        cases h
        obtain ⟨v1, st1, rfl, -, ⟨xl, rfl, exl⟩, hst1⟩ := kc_stk.uncons hst
        obtain ⟨v2, st2, rfl, -, ⟨xq, rfl, exq⟩, hst2⟩ := kc_stk.uncons hst1
        obtain ⟨v3, st3, rfl, -, hv3, hst3⟩ := kc_stk.uncons hst2
        obtain ⟨v4, st4, rfl, -, ⟨xp, rfl, exp⟩, hst4⟩ := kc_stk.uncons hst3
        obtain ⟨v5, st5, rfl, -, hv5, hst5⟩ := kc_stk.uncons hst4
        obtain ⟨rfl, hH1⟩ := kc_cell.ok e1 hE hv5
        obtain ⟨rfl, hH2⟩ := kc_cell.ok e2 hE hv3
        obtain ⟨e3, w1, cA, t0, h1, rfl, w4, w7⟩ := hC.2 _ _ hH1
        obtain ⟨e4, w1', cA', t0', h2, rfl, w4', w7'⟩ := hC.2 _ _ hH2
        have b1 := hE.at (1, nl, dl)
        have b2 := hE.at (1, nq, dq)
        have b3 := hE.at (1, np, dp)
        dsimp only at b1 b2 b3 exl exq exp w1 w1' w7 w7'
        have nn : ∀ z : Int32, 0 ≤ z.toInt → ¬ z < 0 ∧ (z.toNatClampNeg : Int) = z.toInt := fun z hz => ⟨fun q => by
          have := Int32.lt_iff_toInt_lt.mp q
          have h9 : (0 : Int32).toInt = 0 := rfl
          omega, Int32.cast_toNatClampNeg z (by rw [Int32.le_iff_toInt_le]; exact hz)⟩
        obtain ⟨l1, l2⟩ := nn xl (by omega)
        obtain ⟨q1, q2⟩ := nn xq (by omega)
        obtain ⟨p1, p2⟩ := nn xp (by omega)
        refine va_copyi hx hb (hml.trans hl.1.symm) hown hlink hnat hstat hini hK hPw hD hS r1 r t0 t0' w1 w1' w4 w4' rfl p1 q1 l1 (by omega) (by omega) (fun _ _ => rfl) hframes (by rw [kc_cat.ok hst5]; omega) hd (fun H1 locs1 u1 u2 u3 => ?_)
        refine kc_J.st k hk hg hst5 ?_ u1 u2 u3
        have hcp : ∀ j, j < len' → kc_t β Hs.length (fs'.getD j f0') (.int (va_cpy h1 h2 xp.toNatClampNeg xq.toNatClampNeg xl.toNatClampNeg j)) ∨ kc_t β Hs.length (kc_joins f0 fs) (.int (va_cpy h1 h2 xp.toNatClampNeg xq.toNatClampNeg xl.toNatClampNeg j)) := fun j hj => by
          by_cases hin : xq.toNatClampNeg ≤ j ∧ j < xq.toNatClampNeg + xl.toNatClampNeg
          · rw [pk_cpy_in hin.1 hin.2]
            have h9 := w7 (xp.toNatClampNeg + (j - xq.toNatClampNeg)) (by omega)
            exact Or.inr (kc_joins.at h9 ((kc_tyI h9).trans c1.symm))
          · rw [pk_cpy_out (by omega)]
            exact Or.inl (w7' j hj)
        split
        · rename_i hs
          obtain ⟨s1, s2⟩ := hs
          subst s2
          refine ⟨cA', t0', _, rfl, w4', fun j hj => ?_⟩
          rcases hcp j hj with h9 | h9
          · exact h9
          · exact kc_sub.ok s1 h9
        · refine ⟨cA', t0', _, rfl, w4', fun j hj => ?_⟩
          dsimp only
          rcases hcp j hj with h9 | h9
          · exact kc_sub.ok (kc_join.l _ _) (kc_joins.at h9 ((kc_tyI h9).trans c2.symm))
          · exact kc_sub.ok (kc_join.r (by rw [kc_joins.ty, kc_joins.ty, c1, c2])) h9
      · cases h
    · cases h
  · cases h
end KJ
