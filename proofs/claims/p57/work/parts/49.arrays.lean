theorem kc_sub.rf (f : kc_F) : kc_sub f f = true := decide_eq_true ⟨rfl, Int.le_refl _, Int.le_refl _⟩
theorem kc_join.l (f g : kc_F) : kc_sub f (kc_join f g) = true := by
  unfold kc_sub kc_join
  refine decide_eq_true ⟨rfl, ?_, ?_⟩
  · dsimp only
    split <;> omega
  · dsimp only
    split <;> omega
theorem kc_join.r {f g : kc_F} (h : g.1 = f.1) : kc_sub g (kc_join f g) = true := by
  unfold kc_sub kc_join
  refine decide_eq_true ⟨h, ?_, ?_⟩
  · dsimp only
    split <;> omega
  · dsimp only
    split <;> omega
theorem kc_sub.tr {f g h : kc_F} (h1 : kc_sub f g = true) (h2 : kc_sub g h = true) : kc_sub f h = true := by
  obtain ⟨a1, a2, a3⟩ := of_decide_eq_true h1
  obtain ⟨b1, b2, b3⟩ := of_decide_eq_true h2
  exact decide_eq_true ⟨a1.trans b1, by omega, by omega⟩
theorem kc_joins.base : ∀ (fs : List kc_F) (d : kc_F), kc_sub d (kc_joins d fs) = true
  | [], d => kc_sub.rf d
  | f :: fs, d => kc_sub.tr (kc_join.l d f) (kc_joins.base fs (kc_join d f))
theorem kc_joins.mem : ∀ (fs : List kc_F) (d f : kc_F), f ∈ fs → f.1 = d.1 → kc_sub f (kc_joins d fs) = true
  | [], _, _, h, _ => by cases h
  | g :: fs, d, f, h, ht => by
    rcases List.mem_cons.mp h with rfl | h
    · exact kc_sub.tr (kc_join.r ht) (kc_joins.base fs (kc_join d f))
    · exact kc_joins.mem fs (kc_join d g) f h ht
theorem kc_joins.ty (fs : List kc_F) (d : kc_F) : (kc_joins d fs).1 = d.1 := (of_decide_eq_true (kc_joins.base fs d)).1.symm
/-- what stands at any place is within all of them together -/
theorem kc_joins.at {β : Nat → Nat} {N j : Nat} {fs : List kc_F} {d : kc_F} {v : Value} (h : kc_t β N (fs.getD j d) v) (ht : (fs.getD j d).1 = d.1) : kc_t β N (kc_joins d fs) v := by
  rw [List.getD_eq_getElem?_getD] at h ht
  cases hq : fs[j]? with
  | none => rw [hq] at h; exact kc_sub.ok (kc_joins.base fs d) h
  | some f => rw [hq] at h ht; exact kc_sub.ok (kc_joins.mem fs d f (List.mem_of_getElem? hq) ht) h
def kc_ixn (E : kc_E) (i : kc_V) (x : Nat) : Prop := kc_lo E i ≤ (x : Int) ∧ (x : Int) ≤ kc_hi E i
theorem kc_ix.ok {E : kc_E} {i : kc_V} {N : Nat} {ρ : Nat → Int} {x : Int32} (h : kc_ix E i N = true) (hE : kc_env ρ E) (ex : x.toInt = ρ i.2.1 + i.2.2) : vp_in x N ∧ x.toNatClampNeg < N ∧ kc_ixn E i x.toNatClampNeg := by
  have h1 := hE.at i
  have h2 := of_decide_eq_true h
  have h3 : vp_in x N := vp_in_iff.mpr ⟨by omega, by omega⟩
  have h9 : (x.toNatClampNeg : Int) = x.toInt := Int32.cast_toNatClampNeg x (by
    rw [Int32.le_iff_toInt_le]
    exact (vp_in_iff.mp h3).1)
  exact ⟨h3, Nat.not_le.mp fun q => h3 (Or.inr q), by unfold kc_ixn; omega⟩
theorem kc_at.ok {β : Nat → Nat} {N x : Nat} {E : kc_E} {i : kc_V} {d : kc_F} {fs : List kc_F} {v : Value} (hi : kc_ixn E i x) (h : kc_t β N (fs.getD x d) v) (ht : (fs.getD x d).1 = d.1) : kc_t β N (kc_at E i d fs) v := by
  unfold kc_at
  unfold kc_ixn at hi
  split
  · rename_i hc
    have : (kc_lo E i).toNat = x := by omega
    rw [this]
    exact h
  · exact kc_joins.at h ht
/-- behind a write, every place is as the executor says -/
theorem kc_wr.ok {β : Nat → Nat} {N x len : Nat} {E : kc_E} {i : kc_V} {d f : kc_F} {fs : List kc_F} {V V' : Nat → Value} (hi : kc_ixn E i x) (h : ∀ j, j < len → kc_t β N (fs.getD j d) (V j)) (ht : ∀ j, j < len → (fs.getD j d).1 = d.1) (hf : f.1 = d.1) (hw : kc_t β N f (V' x)) (ho : ∀ j, j ≠ x → V' j = V j) : ∀ j, j < len → kc_t β N ((kc_wr E i d fs f).2.getD j (kc_wr E i d fs f).1) (V' j) := by
  intro j hj
  unfold kc_ixn at hi
  unfold kc_wr
  split
  · rename_i hc
    have hx : (kc_lo E i).toNat = x := by omega
    rw [hx]
    split
    · rename_i hl
      dsimp only
      by_cases e : j = x
      · subst e
        rw [List.getD_eq_getElem?_getD, List.getElem?_set_self hl]
        exact hw
      · rw [List.getD_eq_getElem?_getD, List.getElem?_set_ne (Ne.symm e), ← List.getD_eq_getElem?_getD, ho j e]
        exact h j hj
    · rename_i hl
      split
      · rename_i hs
        dsimp only
        by_cases e : j = x
        · subst e
          rw [List.getD_eq_getElem?_getD, List.getElem?_eq_none (by omega)]
          exact kc_sub.ok hs hw
        · rw [ho j e]
          exact h j hj
      · split
        · dsimp only
          have hlen : (fs ++ List.replicate (x - fs.length) d).length = x := by
            rw [List.length_append, List.length_replicate]
            omega
          by_cases e : j = x
          · subst e
            rw [List.getD_eq_getElem?_getD, List.getElem?_append_right (by omega), hlen, Nat.sub_self]
            exact hw
          · rw [ho j e]
            have hh := h j hj
            by_cases e1 : j < fs.length
            · rw [List.getD_eq_getElem?_getD, List.getElem?_append_left (by omega), List.getElem?_append_left e1, ← List.getD_eq_getElem?_getD]
              exact hh
            · rw [List.getD_eq_getElem?_getD, List.getElem?_eq_none (by omega)] at hh
              by_cases e2 : j < x
              · rw [List.getD_eq_getElem?_getD, List.getElem?_append_left (by omega), List.getElem?_append_right (by omega), List.getElem?_replicate, if_pos (by omega)]
                exact hh
              · rw [List.getD_eq_getElem?_getD, List.getElem?_eq_none (by rw [List.length_append, hlen]; simp; omega)]
                exact hh
        · dsimp only
          by_cases e : j = x
          · subst e
            rw [List.getD_eq_getElem?_getD, List.getElem?_eq_none (by omega)]
            exact kc_sub.ok (kc_join.r hf) hw
          · rw [ho j e]
            have hh := h j hj
            by_cases e1 : j < fs.length
            · rw [List.getD_eq_getElem?_getD, List.getElem?_eq_getElem e1] at hh ⊢
              exact hh
            · rw [List.getD_eq_getElem?_getD, List.getElem?_eq_none (by omega)] at hh ⊢
              exact kc_sub.ok (kc_join.l d f) hh
  · split
    · rename_i hs
      obtain ⟨h1, h2⟩ := hs
      subst h2
      dsimp only
      by_cases e : j = x
      · subst e
        exact kc_sub.ok h1 hw
      · rw [ho j e]
        exact h j hj
    · dsimp only
      by_cases e : j = x
      · subst e
        exact kc_sub.ok (kc_join.r (hf.trans (kc_joins.ty fs d).symm)) hw
      · rw [ho j e]
        exact kc_sub.ok (kc_join.l _ f) (kc_joins.at (h j hj) (ht j hj))
theorem kc_tyI {β : Nat → Nat} {N : Nat} {f : kc_F} {x : Int32} (h : kc_t β N f (.int x)) : f.1 = 1 := by
  obtain ⟨t, lo, hi⟩ := f
  unfold kc_t at h
  dsimp only at h ⊢
  split at h
  · rfl
  · obtain ⟨y, e, -⟩ := h; cases e
  · rcases h with ⟨e, -⟩ | ⟨r, e, -⟩ <;> cases e
  · exact absurd h id
theorem kc_tyL {β : Nat → Nat} {N : Nat} {f : kc_F} {x : Int64} (h : kc_t β N f (.long x)) : f.1 = 2 := by
  obtain ⟨t, lo, hi⟩ := f
  unfold kc_t at h
  dsimp only at h ⊢
  split at h
  · obtain ⟨y, e, -⟩ := h; cases e
  · rfl
  · rcases h with ⟨e, -⟩ | ⟨r, e, -⟩ <;> cases e
  · exact absurd h id
theorem kc_tyR {β : Nat → Nat} {N : Nat} {f : kc_F} {x : Option Nat} (h : kc_t β N f (va_rf x)) : f.1 = 3 := by
  obtain ⟨t, lo, hi⟩ := f
  unfold kc_t at h
  dsimp only at h ⊢
  split at h
  · obtain ⟨y, e, -⟩ := h; cases x <;> cases e
  · obtain ⟨y, e, -⟩ := h; cases x <;> cases e
  · rfl
  · exact absurd h id
theorem kc_narb {x : Int32} (h1 : -128 ≤ x.toInt) (h2 : x.toInt ≤ 127) : vp_nar .byte x = x := by
  apply Int32.toInt_inj.mp
  rw [vp_nar_byte, Int8.toInt_toInt32, Int32.toInt_toInt8, Int.bmod_eq_of_le (by omega) (by omega)]
theorem kc_nars {x : Int32} (h1 : -32768 ≤ x.toInt) (h2 : x.toInt ≤ 32767) : vp_nar .short x = x := by
  apply Int32.toInt_inj.mp
  rw [vp_nar_short, Int16.toInt_toInt32, Int32.toInt_toInt16, Int.bmod_eq_of_le (by omega) (by omega)]
theorem kc_narz {x : Int32} (h1 : 0 ≤ x.toInt) (h2 : x.toInt ≤ 1) : vp_nar .boolean x = x := by
  rcases (show x.toInt = 0 ∨ x.toInt = 1 by omega) with q | q
  · have : x = 0 := Int32.toInt_inj.mp q
    subst this
    rfl
  · have : x = 1 := Int32.toInt_inj.mp q
    subst this
    rfl
theorem kc_nat32 {n : Nat} (h : n ≤ 2147483647) : (Int32.ofNat n).toInt = (n : Int) := nI_toInt (n := n) (by omega)
section KI
variable {p : Program} {l : Launch} {e : Env} {R : Room} {s : State} {m : MethodId} {args : Array Value} {below : List Frame} {meth : Method} {c : Code} {Q : State → Prop}
variable {cc : ByteArray} {nL : Nat} {D : va_G} {cl : List vw_C} {A : Nat → Prop} {H0 : Heap}
variable {nA : Nat} {ρ0 : Nat → Int} {nB : Nat} {β0 : Nat → Nat}
variable {E E' : kc_E} {L K K' : List kc_V} {Hs Hs' : List kc_G} {cs ss pc : Nat}
/-- (of the script nothing is read here) -/
def kc_X (_ : State) (_ : Nat → Prop) (_ : Heap) (_ : Nat) (_ : Nat → Int) (_ : Nat → Nat) : Prop := True
set_option maxHeartbeats 4000000 in
theorem kc_ald.ok {ins : Instr} (h : kc_ald ins E K Hs = some (E', K')) (hx : p.tables.exec = Jvm.exec) (hb : c.code = cc) (hd : decode cc pc = .ok (ins, 1)) (hX : (∃ n d K2 i, K = i :: (5, n, d) :: K2) → kc_X s A H0 nA ρ0 β0)
    (k : kc_J p l e R s m args below meth c Q D cl A H0 nL nA ρ0 nB β0 (pc + 1) (E', L, K', Hs, cs, ss)) : kc_J p l e R s m args below meth c Q D cl A H0 nL nA ρ0 nB β0 pc (E, L, K, Hs, cs, ss) := by
  intro ρ β ws tys H locs ls lv st hk hg
  have hE : kc_env ρ E := hk.1
  have h0 := hk.2.1
  have hst : kc_stk ρ β Hs.length E.length K st := hk.2.2.2.2.1
  obtain ⟨hK, hPw, hD, hS, hC⟩ := hk.2.2.2.2.2
  unfold kc_ald at h
  split at h
  · rename_i ni di n d K2
    split at h
    · rename_i r kd ci ty len f0 fs vs e1
      split at h
      · rename_i hc
        simp only [Bool.and_eq_true] at hc
        obtain ⟨⟨c1, c2⟩, c3⟩ := hc
        have c3 := of_decide_eq_true c3
        cases h
        obtain ⟨vi, st1, rfl, hlti, ⟨x, rfl, exi⟩, hst1⟩ := kc_stk.uncons hst
        obtain ⟨v, st', rfl, hlt, hv, hst'⟩ := kc_stk.uncons hst1
        obtain ⟨rfl, hH⟩ := kc_cell.ok e1 hE hv
        obtain ⟨e0, w1, w3⟩ := hC.2 _ _ hH
        have go : ∀ v1 : Value, kc_t β Hs.length (kc_at E (1, ni, di) f0 fs) v1 → W p l e R s m args below meth c H locs cs ss Q (F0 m (pc + 1) ls (v1 :: st')) := fun v1 h9 => kc_J.res k hk hg hst' (kc_rd.ok hE h0 h9)
        obtain ⟨i1, i2, i3⟩ := kc_ix.ok c2 hE exi
        unfold kc_alk at c1
        split at c1
        · obtain ⟨rfl, rfl⟩ := of_decide_eq_true c1
          obtain ⟨cA, t0, h2, rfl, w4, w7⟩ := w3
          have w8 := w7 _ i2
          exact va_iald hx hb hK hPw r t0 w1 w4 i1 hd (go _ (kc_at.ok i3 w8 ((kc_tyI w8).trans c3.symm)))
        · obtain ⟨rfl, hty⟩ := of_decide_eq_true c1
          obtain ⟨cA, t0, h2, rfl, w4, w7⟩ := w3
          have w8 := w7 _ i2
          rcases hty with rfl | rfl
          · exact va_bald hx hb hK hPw r t0 w1 w4 i1 hd (go _ (kc_at.ok i3 w8 ((kc_tyI w8).trans c3.symm)))
          · exact va_zald hx hb hK hPw r t0 w1 w4 i1 hd (go _ (kc_at.ok i3 w8 ((kc_tyI w8).trans c3.symm)))
        · obtain ⟨rfl, rfl⟩ := of_decide_eq_true c1
          obtain ⟨cA, t0, h2, rfl, w4, w7⟩ := w3
          have w8 := w7 _ i2
          exact va_sald hx hb hK hPw r t0 w1 w4 i1 hd (go _ (kc_at.ok i3 w8 ((kc_tyI w8).trans c3.symm)))
        · cases of_decide_eq_true c1
          obtain ⟨cA, t0, h2, rfl, w4, w7⟩ := w3
          have w8 := w7 _ i2
          exact va_lald hx hb hK hPw r t0 w1 w4 i1 hd (go _ (kc_at.ok i3 w8 ((kc_tyL w8).trans c3.symm)))
        · obtain ⟨rfl, hty⟩ := of_decide_eq_true c1
          obtain ⟨cA, t0, h2, rfl, w4, w7⟩ := w3
          have w8 := w7 _ i2
          exact W.aald (v := va_rf (h2 x.toNatClampNeg)) (ty := ty) hx hb (hPw r _ w1) ((hK.2 t0 _ w4).1 len (fun j => va_rf (h2 j))) hty (fun q => by cases q) (by show ¬ (x < 0 ∨ (arrV _ _ _).slots.size ≤ _); rw [arrV_size]; exact i1) (by show (arrV _ _ _).slots[_]? = _; rw [arrV_read _ _ i2]) rfl rfl hd (go _ (kc_at.ok i3 w8 ((kc_tyR w8).trans c3.symm)))
        · cases c1
      · cases h
    · cases h
  · cases h
set_option maxHeartbeats 4000000 in
theorem kc_aln.ok (h : kc_aln E K Hs = some (E', K')) (hx : p.tables.exec = Jvm.exec) (hb : c.code = cc) (hd : decode cc pc = .ok (.arraylength, 1)) (hX : (∃ n d K2, K = (5, n, d) :: K2) → kc_X s A H0 nA ρ0 β0)
    (k : kc_J p l e R s m args below meth c Q D cl A H0 nL nA ρ0 nB β0 (pc + 1) (E', L, K', Hs, cs, ss)) : kc_J p l e R s m args below meth c Q D cl A H0 nL nA ρ0 nB β0 pc (E, L, K, Hs, cs, ss) := by
  intro ρ β ws tys H locs ls lv st hk hg
  have hE : kc_env ρ E := hk.1
  have h0 := hk.2.1
  have hst : kc_stk ρ β Hs.length E.length K st := hk.2.2.2.2.1
  obtain ⟨hK, hPw, hD, hS, hC⟩ := hk.2.2.2.2.2
  unfold kc_aln at h
  split at h
  · rename_i n d K2
    split at h
    · rename_i r kd ci ty len rst e1
      split at h
      · rename_i hc
        cases h
        obtain ⟨v, st', rfl, hlt, hv, hst'⟩ := kc_stk.uncons hst
        obtain ⟨rfl, hH⟩ := kc_cell.ok e1 hE hv
        obtain ⟨e0, w1, w3⟩ := hC.2 _ _ hH
        have go : W p l e R s m args below meth c H locs cs ss Q (F0 m (pc + 1) ls (.int (Int32.ofNat len) :: st')) := kc_J.res k hk hg hst' (kc_r.old hE h0.1 ⟨_, rfl, by dsimp only; rw [kc_nat32 (by omega)]; omega⟩)
        unfold kc_e at w3
        split at w3
        · exact absurd (by assumption) hc.1
        · obtain ⟨cA, t0, h2, rfl, w4, w7⟩ := w3
          exact va_alen hx hb hK hPw r t0 w1 w4 rfl hd go
        · obtain ⟨cA, t0, h2, rfl, w4, w7⟩ := w3
          exact va_alen hx hb hK hPw r t0 w1 w4 rfl hd go
        · obtain ⟨cA, t0, h2, rfl, w4, w7⟩ := w3
          exact va_alen hx hb hK hPw r t0 w1 w4 rfl hd go
        · exact absurd w3 id
      · cases h
    · cases h
  · cases h
end KI
