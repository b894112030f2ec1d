/-- what a component of the type keeps of a number within bounds -/
def ka_nb (ty : FieldType) (lo hi : Int) : Int × Int := match ty with
  | .byte => if -128 ≤ lo ∧ hi ≤ 127 then (lo, hi) else (-128, 127)
  | .short => if -32768 ≤ lo ∧ hi ≤ 32767 then (lo, hi) else (-32768, 32767)
  | .boolean => if lo = hi ∧ (lo = 0 ∨ lo = 1) then (lo, hi) else (0, 1)
  | _ => (lo, hi)
theorem ka_nb.int (lo hi : Int) : ka_nb .int lo hi = (lo, hi) := rfl
theorem ka_nb.long (lo hi : Int) : ka_nb .long lo hi = (lo, hi) := rfl
theorem ka_nb.byte {lo hi : Int} {x : Int32} (h1 : lo ≤ x.toInt) (h2 : x.toInt ≤ hi) : (ka_nb .byte lo hi).1 ≤ (vp_nar .byte x).toInt ∧ (vp_nar .byte x).toInt ≤ (ka_nb .byte lo hi).2 := by
  unfold ka_nb
  dsimp only
  rw [vp_nar_byte, Int8.toInt_toInt32]
  split
  · rw [Int32.toInt_toInt8, Int.bmod_eq_of_le (by omega) (by omega)]
    exact ⟨h1, h2⟩
  · have g1 := x.toInt8.le_toInt
    have g2 := x.toInt8.toInt_lt
    dsimp only
    omega
theorem ka_nb.short {lo hi : Int} {x : Int32} (h1 : lo ≤ x.toInt) (h2 : x.toInt ≤ hi) : (ka_nb .short lo hi).1 ≤ (vp_nar .short x).toInt ∧ (vp_nar .short x).toInt ≤ (ka_nb .short lo hi).2 := by
  unfold ka_nb
  dsimp only
  rw [vp_nar_short, Int16.toInt_toInt32]
  split
  · rw [Int32.toInt_toInt16, Int.bmod_eq_of_le (by omega) (by omega)]
    exact ⟨h1, h2⟩
  · have g1 := x.toInt16.le_toInt
    have g2 := x.toInt16.toInt_lt
    dsimp only
    omega
theorem ka_nb.boolean {lo hi : Int} {x : Int32} (h1 : lo ≤ x.toInt) (h2 : x.toInt ≤ hi) : (ka_nb .boolean lo hi).1 ≤ (vp_nar .boolean x).toInt ∧ (vp_nar .boolean x).toInt ≤ (ka_nb .boolean lo hi).2 := by
  unfold ka_nb
  dsimp only
  have e : vp_nar .boolean x = x &&& 1 := rfl
  rw [e]
  split
  · rename_i hc
    rcases hc.2 with q | q
    · have : x = 0 := Int32.toInt_inj.mp (by have : (0 : Int32).toInt = 0 := rfl; omega)
      subst this
      have : ((0 : Int32) &&& 1).toInt = 0 := rfl
      dsimp only
      omega
    · have : x = 1 := Int32.toInt_inj.mp (by have : (1 : Int32).toInt = 1 := rfl; omega)
      subst this
      have : ((1 : Int32) &&& 1).toInt = 1 := rfl
      dsimp only
      omega
  · have g := ka_and_le x 1 (by decide)
    have : (1 : Int32).toInt = 1 := rfl
    dsimp only
    omega
def ka_ask (ins : Instr) (kd : Nat) (ty : FieldType) : Bool := match ins with
  | .iastore => decide (kd = 1 ∧ ty = .int)
  | .bastore => decide (kd = 1 ∧ (ty = .byte ∨ ty = .boolean))
  | .sastore => decide (kd = 1 ∧ ty = .short)
  | .lastore => decide (kd = 2 ∧ ty = .long)
  | _ => false
/-- a number laid into an array -/
def ka_ast (RT : List ka_R) (ins : Instr) (E : ka_E) (K : List ka_V) : Option (List ka_V) := match K with
  | a :: (1, ni, di) :: (3, n, d) :: K' => match ka_knd RT E (3, n, d) with
    | some (_, g) => match g.2.2.2.1[0]? with
      | some f => if (ka_ask ins g.1 g.2.2.1 && ka_ix E (1, ni, di) g.2.2.2.2.1 && decide (a.1 = g.1) && decide (f.2.1 ≤ (ka_nb g.2.2.1 (ka_lo E a) (ka_hi E a)).1) && decide ((ka_nb g.2.2.1 (ka_lo E a) (ka_hi E a)).2 ≤ f.2.2)) = true then some K' else none
      | none => none
    | none => none
  | _ => none
/-- an object laid into an array -/
def ka_asq (RT : List ka_R) (cl : List vw_C) (E : ka_E) (K : List ka_V) (pd : List (Nat × List Nat)) : Option (List ka_V × List (Nat × List Nat)) := match K with
  | (3, na, da) :: (1, ni, di) :: (3, n, d) :: K' => match ka_knd RT E (3, n, d), ka_knd RT E (3, na, da) with
    | some (_, (3, _, fty, fts, lo, _)), some (_, (0, ci, _)) => match fts[0]?, cl[ci]? with
      | some f, some z => if (ka_ix E (1, ni, di) lo && decide (fty = .object z.1) && decide (f.1 = 3) && decide (f.2.1 ≤ ka_lo E (3, na, da)) && decide (ka_hi E (3, na, da) ≤ f.2.2)) = true then some (K', if ka_lo E (1, ni, di) = ka_hi E (1, ni, di) then ka_unp pd n (ka_lo E (1, ni, di)).toNat else pd) else none
      | _, _ => none
    | _, _ => none
  | _ => none
section KJ
variable {p : Program} {l : Launch} {e : Env} {R : Room} {s : State} {m : MethodId} {args : Array Value} {below : List Frame} {meth : Method} {c : Code} {Q : State → Prop}
variable {cc : ByteArray} {nL : Nat} {D : va_G} {cl : List vw_C} {A : Nat → Prop} {RT : List ka_R} {av : List Nat} {H0 : Heap}
variable {Γ0 : Nat → Option Nat} {nA : Nat} {ρ0 : Nat → Int} {α0 : Nat → Nat}
variable {E E' : ka_E} {L K K' : List ka_V} {pd pd' : List (Nat × List Nat)} {cs ss pc : Nat}
theorem ka_updB {h : Nat → Int32} {j i : Nat} {x : Int32} {lo hi : Int} (hj : lo ≤ (h j).toInt ∧ (h j).toInt ≤ hi) (hx : lo ≤ x.toInt ∧ x.toInt ≤ hi) : lo ≤ (upd h i x j).toInt ∧ (upd h i x j).toInt ≤ hi := by
  unfold upd
  split
  · exact hx
  · exact hj
set_option maxHeartbeats 4000000 in
theorem ka_ast.ok {ins : Instr} (h : ka_ast RT ins E K = some K') (hx : p.tables.exec = Jvm.exec) (hb : c.code = cc) (hd : decode cc pc = .ok (ins, 1))
    (k : ka_J p l e R s m args below meth c Q D cl A RT H0 av nL Γ0 nA ρ0 α0 (pc + 1) (E, L, K', pd, cs, ss)) : ka_J p l e R s m args below meth c Q D cl A RT H0 av nL Γ0 nA ρ0 α0 pc (E, L, K, pd, cs, ss) := by
  intro ρ α Γ P ws tys H locs ls lv st hk hn hΓ hρ
  obtain ⟨hE, h0, hL, hl, hst, hq, hP, hK, hPw, hD, hS, hT⟩ := hk
  dsimp only at hE h0 hL hl hst hq hP
  unfold ka_ast at h
  split at h
  · rename_i a ni di n d K2
    split at h
    · rename_i r g e1
      split at h
      · rename_i f hf
        split at h
        · rename_i hc
          simp only [Bool.and_eq_true] at hc
          obtain ⟨⟨⟨⟨c1, c2⟩, c3⟩, c4⟩, c5⟩ := hc
          have c3 := of_decide_eq_true c3
          have c4 := of_decide_eq_true c4
          have c5 := of_decide_eq_true c5
          cases h
          obtain ⟨va, st0, rfl, hlta, hva, hst0⟩ := ka_stk.uncons hst
          obtain ⟨vi, st1, rfl, hlti, ⟨x, rfl, exi⟩, hst1⟩ := ka_stk.uncons hst0
          obtain ⟨v, st', rfl, hlt, hv, hst'⟩ := ka_stk.uncons hst1
          obtain ⟨rfl, hΓ1, hR1, -⟩ := ka_knd.ok e1 hE hv
          obtain ⟨k0, e0, w1, g', w2, w3⟩ := hT _ _ hΓ1
          rw [hR1] at w2
          cases w2
          have hba := hE.at a
          obtain ⟨g1, ci, fty, fts, lo, hi⟩ := g
          obtain ⟨ft, flo, fhi⟩ := f
          obtain ⟨at1, an, ad⟩ := a
          dsimp only at c1 c2 c3 c4 c5 hf w3 hba
          subst c3
          have go : ∀ (e' : va_E) (H1 : Heap) (locs1 : List Loc), ka_e RT Γ P tys (α n) r e' → va_P D cl (ws.set k0 (α n, e')) H1 → va_D A (ws.set k0 (α n, e')) → va_S A H0 H1 locs1 → W p l e R s m args below meth c H1 locs1 cs ss Q (F0 m (pc + 1) ls st') := fun e' H1 locs1 u0 u1 u2 u3 =>
            k ρ α Γ P _ tys H1 locs1 ls lv st' ⟨hE, h0, hL, hl, hst', hq, hP, hK, u1, u2, u3, ka_T.set w1 hT (fun _ _ _ hp => hp) (fun r1 hr1 => by
              rw [hΓ1] at hr1
              cases hr1
              exact u0)⟩ hn hΓ hρ
          unfold ka_ask at c1
          split at c1
          · obtain ⟨rfl, rfl⟩ := of_decide_eq_true c1
            obtain ⟨cA, N, t0, h2, rfl, w4, w5, w6, w7⟩ := w3
            obtain ⟨y, rfl, ey⟩ := hva
            obtain ⟨i1, i2⟩ := ka_ix.ok c2 hE exi w5
            dsimp only at ey
            exact va_iast hx hb hK hPw hD hS k0 t0 w1 w4 i1 hd (fun H1 locs1 u1 u2 u3 => go _ H1 locs1 ⟨_, hR1, cA, N, t0, _, rfl, w4, w5, w6, fun f1 hf1 j hj => by
              dsimp only at hf1
              rw [hf] at hf1
              cases hf1
              exact ka_updB (w7 _ hf j hj) (by rw [ka_nb.int] at c4 c5; dsimp only at c4 c5 ⊢; omega)⟩ u1 u2 u3)
          · obtain ⟨rfl, hty⟩ := of_decide_eq_true c1
            obtain ⟨cA, N, t0, h2, rfl, w4, w5, w6, w7⟩ := w3
            obtain ⟨y, rfl, ey⟩ := hva
            obtain ⟨i1, i2⟩ := ka_ix.ok c2 hE exi w5
            dsimp only at ey
            rcases hty with rfl | rfl
            · have hnb := ka_nb.byte (lo := ka_lo E (1, an, ad)) (hi := ka_hi E (1, an, ad)) (x := y) (by omega) (by omega)
              exact va_bast hx hb hK hPw hD hS k0 t0 w1 w4 i1 hd (fun H1 locs1 u1 u2 u3 => go _ H1 locs1 ⟨_, hR1, cA, N, t0, _, rfl, w4, w5, w6, fun f1 hf1 j hj => by
                dsimp only at hf1
                rw [hf] at hf1
                cases hf1
                exact ka_updB (w7 _ hf j hj) (by dsimp only; omega)⟩ u1 u2 u3)
            · have hnb := ka_nb.boolean (lo := ka_lo E (1, an, ad)) (hi := ka_hi E (1, an, ad)) (x := y) (by omega) (by omega)
              exact va_zast hx hb hK hPw hD hS k0 t0 w1 w4 i1 hd (fun H1 locs1 u1 u2 u3 => go _ H1 locs1 ⟨_, hR1, cA, N, t0, _, rfl, w4, w5, w6, fun f1 hf1 j hj => by
                dsimp only at hf1
                rw [hf] at hf1
                cases hf1
                exact ka_updB (w7 _ hf j hj) (by dsimp only; omega)⟩ u1 u2 u3)
          · obtain ⟨rfl, rfl⟩ := of_decide_eq_true c1
            obtain ⟨cA, N, t0, h2, rfl, w4, w5, w6, w7⟩ := w3
            obtain ⟨y, rfl, ey⟩ := hva
            obtain ⟨i1, i2⟩ := ka_ix.ok c2 hE exi w5
            dsimp only at ey
            have hnb := ka_nb.short (lo := ka_lo E (1, an, ad)) (hi := ka_hi E (1, an, ad)) (x := y) (by omega) (by omega)
            exact va_sast hx hb hK hPw hD hS k0 t0 w1 w4 i1 hd (fun H1 locs1 u1 u2 u3 => go _ H1 locs1 ⟨_, hR1, cA, N, t0, _, rfl, w4, w5, w6, fun f1 hf1 j hj => by
              dsimp only at hf1
              rw [hf] at hf1
              cases hf1
              exact ka_updB (w7 _ hf j hj) (by dsimp only; omega)⟩ u1 u2 u3)
          · obtain ⟨rfl, rfl⟩ := of_decide_eq_true c1
            obtain ⟨cA, N, t0, h2, rfl, w4, w5, w6, w7⟩ := w3
            obtain ⟨y, rfl, ey⟩ := hva
            obtain ⟨i1, i2⟩ := ka_ix.ok c2 hE exi w5
            dsimp only at ey
            exact va_last hx hb hK hPw hD hS k0 t0 w1 w4 i1 hd (fun H1 locs1 u1 u2 u3 => go _ H1 locs1 ⟨_, hR1, cA, N, t0, _, rfl, w4, w5, w6, fun f1 hf1 j hj => by
              dsimp only at hf1
              rw [hf] at hf1
              cases hf1
              have w8 := w7 _ hf j hj
              unfold vp_updL
              split
              · rw [ka_nb.long] at c4 c5
                dsimp only at c4 c5 ⊢
                omega
              · exact w8⟩ u1 u2 u3)
          · cases c1
        · cases h
      · cases h
    · cases h
  · cases h
set_option maxHeartbeats 4000000 in
theorem ka_asq.ok (h : ka_asq RT cl E K pd = some (K', pd')) (hx : p.tables.exec = Jvm.exec) (hb : c.code = cc) (hd : decode cc pc = .ok (.aastore, 1))
    (k : ka_J p l e R s m args below meth c Q D cl A RT H0 av nL Γ0 nA ρ0 α0 (pc + 1) (E, L, K', pd', cs, ss)) : ka_J p l e R s m args below meth c Q D cl A RT H0 av nL Γ0 nA ρ0 α0 pc (E, L, K, pd, cs, ss) := by
  intro ρ α Γ P ws tys H locs ls lv st hk hn hΓ hρ
  obtain ⟨hE, h0, hL, hl, hst, hq, hP, hK, hPw, hD, hS, hT⟩ := hk
  dsimp only at hE h0 hL hl hst hq hP
  unfold ka_asq at h
  split at h
  · rename_i na da ni di n d K2
    split at h
    · rename_i r c0 fty fts lo hi r2 ci rst e1 e2
      split at h
      · rename_i f z hf hz
        split at h
        · rename_i hc
          simp only [Bool.and_eq_true, decide_eq_true_eq] at hc
          obtain ⟨⟨⟨⟨c1, rfl⟩, c3⟩, c4⟩, c5⟩ := hc
          cases h
          obtain ⟨va, st0, rfl, hlta, hva, hst0⟩ := ka_stk.uncons hst
          obtain ⟨vi, st1, rfl, hlti, ⟨x, rfl, exi⟩, hst1⟩ := ka_stk.uncons hst0
          obtain ⟨v, st', rfl, hlt, hv, hst'⟩ := ka_stk.uncons hst1
          have hba := hE.at (3, na, da)
          have hbi := hE.at (1, ni, di)
          have ht : ka_t Γ f va := hva.write c3 (by dsimp only at hba ⊢; omega) (by dsimp only at hba ⊢; omega)
          obtain ⟨rfl, hΓ1, hR1, -⟩ := ka_knd.ok e1 hE hv
          obtain ⟨rfl, hΓ2, hR2, -⟩ := ka_knd.ok e2 hE hva
          obtain ⟨k0, e0, w1, g', w2, w3⟩ := hT _ _ hΓ1
          rw [hR1] at w2
          cases w2
          obtain ⟨cA, N, t0, h2, rfl, w4, w5, w6, w7⟩ := w3
          obtain ⟨k2, e2', v1, g2, v2, v3⟩ := hT _ _ hΓ2
          rw [hR2] at v2
          cases v2
          obtain ⟨fs2, rfl, -⟩ := v3
          obtain ⟨i1, i2⟩ := ka_ix.ok c1 hE exi w5
          refine va_astq hx hb hK hPw hD hS k0 t0 k2 ci w1 w4 v1 hz i1 hd (fun H1 locs1 u1 u2 u3 => ?_)
          by_cases hcst : ka_lo E (1, ni, di) = ka_hi E (1, ni, di)
          · rw [if_pos hcst] at k
            refine k ρ α Γ (fun a i => P a i ∧ ¬ (a = α n ∧ i = (ka_lo E (1, ni, di)).toNat)) _ tys H1 locs1 ls lv st' ⟨hE, h0, hL, hl, hst', ka_unp.pd hq, ka_unp.P hP, hK, u1, u2, u3, ka_T.set w1 hT (fun b j hbn hp => ⟨hp, fun q => hbn q.1⟩) (fun r1 hr1 => ?_)⟩ hn hΓ hρ
            rw [hΓ1] at hr1
            cases hr1
            refine ⟨_, hR1, cA, N, t0, _, rfl, w4, w5, w6, fun f1 hf1 j hj => ?_⟩
            dsimp only at hf1
            rw [hf] at hf1
            cases hf1
            have hxi : x.toNatClampNeg = (ka_lo E (1, ni, di)).toNat := by
              have h9 : (x.toNatClampNeg : Int) = x.toInt := Int32.cast_toNatClampNeg x (by
                rw [Int32.le_iff_toInt_le]
                have := (vp_in_iff.mp i1).1
                exact this)
              dsimp only at hbi exi
              omega
            by_cases ej : j = x.toNatClampNeg
            · subst ej
              rw [va_up_self]
              exact Or.inr ht
            · rw [va_up_ne _ _ ej]
              rcases w7 _ hf j hj with u | u
              · exact Or.inl ⟨u, fun q => ej (q.2.trans hxi.symm)⟩
              · exact Or.inr u
          · rw [if_neg hcst] at k
            refine k ρ α Γ P _ tys H1 locs1 ls lv st' ⟨hE, h0, hL, hl, hst', hq, hP, hK, u1, u2, u3, ka_T.set w1 hT (fun b j hbn hp => hp) (fun r1 hr1 => ?_)⟩ hn hΓ hρ
            rw [hΓ1] at hr1
            cases hr1
            refine ⟨_, hR1, cA, N, t0, _, rfl, w4, w5, w6, fun f1 hf1 j hj => ?_⟩
            dsimp only at hf1
            rw [hf] at hf1
            cases hf1
            by_cases ej : j = x.toNatClampNeg
            · subst ej
              rw [va_up_self]
              exact Or.inr ht
            · rw [va_up_ne _ _ ej]
              exact w7 _ hf j hj
        · cases h
      · cases h
    · cases h
  · cases h
end KJ
