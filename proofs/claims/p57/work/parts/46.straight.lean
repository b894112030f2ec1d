theorem kc_load.of {L : List kc_V} {t i : Nat} {a : kc_V} (h : kc_load L t i = some a) : L[i]? = some a ∧ a.1 = t := by
  unfold kc_load at h
  split at h
  · split at h
    · cases h; exact ⟨by assumption, by assumption⟩
    · cases h
  · cases h
theorem kc_st1.at {L : List kc_V} {i j : Nat} {a b : kc_V} (h : (kc_st1 L i a)[j]? = some b) (hb : b.1 ≠ 0) : (j = i ∧ b = a) ∨ (j ≠ i ∧ L[j]? = some b ∧ (j + 1 = i → b.1 ≠ 2)) := by
  unfold kc_st1 at h
  by_cases e : j = i
  · subst e
    left
    refine ⟨rfl, ?_⟩
    have hz : ∀ Z : List kc_V, (Z.set j a)[j]? = some b → b = a := by
      intro Z hZ
      rw [List.getElem?_set_self'] at hZ
      cases hq : Z[j]? with
      | none => rw [hq] at hZ; cases hZ
      | some z => rw [hq] at hZ; cases hZ; rfl
    exact hz _ h
  · rw [List.getElem?_set_ne (Ne.symm e)] at h
    right
    refine ⟨e, ?_⟩
    split at h
    · exact ⟨h, fun q => by omega⟩
    · rename_i i2
      split at h
      · rename_i b2 hb2
        split at h
        · rename_i h2
          by_cases e2 : j = i2
          · subst e2
            rw [List.getElem?_set_self'] at h
            rw [hb2] at h
            cases h
            exact absurd rfl hb
          · rw [List.getElem?_set_ne (Ne.symm e2)] at h
            exact ⟨h, fun q => by omega⟩
        · rename_i h2
          refine ⟨h, fun q => ?_⟩
          have : j = i2 := by omega
          subst this
          rw [hb2] at h
          cases h
          exact h2
      · rename_i hb2
        refine ⟨h, fun q => ?_⟩
        have : j = i2 := by omega
        subst this
        rw [hb2] at h
        cases h
theorem kc_loc.st1 {ρ : Nat → Int} {β : Nat → Nat} {N : Nat} {n i : Nat} {L : List kc_V} {lv : List (Nat × Value)} {a : kc_V} {v : Value} (h : kc_loc ρ β N n L lv) (ha : a.2.1 < n) (hv : kc_v ρ β N a v) : kc_loc ρ β N n (kc_st1 L i a) ((i, v) :: lv.filter (fun q => !(q.1 == i) && !(q.1 + 1 == i && q.2.category == 2))) := by
  intro j b hj hb
  rcases kc_st1.at hj hb with ⟨e1, e2⟩ | ⟨e1, e2, e3⟩
  · subst e1; subst e2
    exact ⟨ha, v, List.mem_cons_self, hv⟩
  · obtain ⟨g1, w, g2, g3⟩ := h j b e2 hb
    refine ⟨g1, w, List.mem_cons_of_mem _ (List.mem_filter.mpr ⟨g2, ?_⟩), g3⟩
    by_cases q : j + 1 = i
    · have := kc_cat1 g3 (e3 q)
      simp [e1, this]
    · simp [e1, q]
theorem kc_loc.st2 {ρ : Nat → Int} {β : Nat → Nat} {N : Nat} {n i : Nat} {L : List kc_V} {lv : List (Nat × Value)} {a : kc_V} {v : Value} (h : kc_loc ρ β N n L lv) (ha : a.2.1 < n) (hv : kc_v ρ β N a v) : kc_loc ρ β N n ((kc_st1 L i a).set (i + 1) (0, 0, 0)) ((i, v) :: lv.filter (fun q => !(q.1 == i) && (!(q.1 == i + 1) && !(q.1 + 1 == i && q.2.category == 2)))) := by
  intro j b hj hb
  have hji : j ≠ i + 1 := by
    intro q
    subst q
    rw [List.getElem?_set_self'] at hj
    cases hq : (kc_st1 L i a)[i + 1]? with
    | none => rw [hq] at hj; cases hj
    | some z => rw [hq] at hj; cases hj; exact hb rfl
  rw [List.getElem?_set_ne (Ne.symm hji)] at hj
  rcases kc_st1.at hj hb with ⟨e1, e2⟩ | ⟨e1, e2, e3⟩
  · subst e1; subst e2
    exact ⟨ha, v, List.mem_cons_self, hv⟩
  · obtain ⟨g1, w, g2, g3⟩ := h j b e2 hb
    refine ⟨g1, w, List.mem_cons_of_mem _ (List.mem_filter.mpr ⟨g2, ?_⟩), g3⟩
    by_cases q : j + 1 = i
    · have := kc_cat1 g3 (e3 q)
      simp [e1, hji, this]
    · simp [e1, hji, q]
theorem kc_loadr.of {L : List kc_V} {i : Nat} {a : kc_V} (h : kc_loadr L i = some a) : L[i]? = some a ∧ (a.1 = 3 ∨ a.1 = 5) := by
  unfold kc_loadr at h
  split at h
  · split at h
    · cases h; exact ⟨by assumption, by assumption⟩
    · cases h
  · cases h
section KE
variable {p : Program} {l : Launch} {e : Env} {R : Room} {s : State} {m : MethodId} {args : Array Value} {below : List Frame} {meth : Method} {c : Code} {Q : State → Prop}
variable {cc : ByteArray} {nL : Nat} {D : va_G} {cl : List vw_C} {A : Nat → Prop} {H0 : Heap}
variable {nA : Nat} {ρ0 : Nat → Int} {nB : Nat} {β0 : Nat → Nat}
variable {E E' : kc_E} {L L' K K' : List kc_V} {Hs : List kc_G} {cs ss pc : Nat} {ρ ρ' : Nat → Int} {β : Nat → Nat} {ws : va_W} {tys : List (ClassId × FieldType)} {H : Heap} {locs : List Loc} {ls ls' : Array Slot} {lv lv' : List (Nat × Value)} {st st' : List Value}
theorem kc_cst32 {n : Int} (h1 : -2147483648 ≤ n) (h2 : n ≤ 2147483647) : (Int32.ofInt n).toInt = n := Int32.toInt_ofInt_of_le (by omega) (by omega)
theorem kc_stk.uncons {N n : Nat} {a : kc_V} {K : List kc_V} {st : List Value} (h : kc_stk ρ β N n (a :: K) st) : ∃ (v : Value) (st' : List Value), st = v :: st' ∧ a.2.1 < n ∧ kc_v ρ β N a v ∧ kc_stk ρ β N n K st' := by
  cases st with
  | nil => exact absurd h id
  | cons v st' => exact ⟨v, st', rfl, h.1, h.2.1, h.2.2⟩
theorem kc_local {i : Nat} {a : kc_V} (hk : kc_ok D cl A s H0 nL E L K Hs ρ β ws tys H locs ls lv st) (h : L[i]? = some a) (ha : a.1 ≠ 0) : ∃ v : Value, (i, v) ∈ lv ∧ ls[i]? = some (.val v) ∧ a.2.1 < E.length ∧ kc_v ρ β Hs.length a v := by
  obtain ⟨g1, v, g2, g3⟩ := hk.2.2.1 i a h ha
  exact ⟨v, g2, hk.2.2.2.1.2.2 _ g2, g1, g3⟩
set_option maxHeartbeats 4000000 in
theorem kc_x1.ok {i : Instr} (h : kc_x1 nL i E L K = some (E', L', K')) (hx : p.tables.exec = Jvm.exec) (hb : c.code = cc) (hd : decode cc pc = .ok (i, kc_len i))
    (k : kc_J p l e R s m args below meth c Q D cl A H0 nL nA ρ0 nB β0 (pc + kc_len i) (E', L', K', Hs, cs, ss)) : kc_J p l e R s m args below meth c Q D cl A H0 nL nA ρ0 nB β0 pc (E, L, K, Hs, cs, ss) := by
  intro ρ β ws tys H locs ls lv st hk hg
  have hE : kc_env ρ E := hk.1
  have h0 : 0 < E.length ∧ ρ 0 = 0 := hk.2.1
  have hst : kc_stk ρ β Hs.length E.length K st := hk.2.2.2.2.1
  unfold kc_x1 at h
  split at h
  · split at h
    · cases h
      exact lv_iconst hx hb hd rfl (kc_J.res k hk hg hst (kc_r.old hE h0.1 ⟨_, rfl, by dsimp only; rw [kc_cst32 (by omega) (by omega)]; omega⟩))
    · cases h
  · split at h
    · cases h
      refine lv_bipush hx hb hd rfl (kc_J.res k hk hg hst (kc_r.old hE h0.1 ⟨_, rfl, ?_⟩))
      dsimp only
      rw [Int8.toInt_toInt32, Int8.toInt_ofInt_of_le (by omega) (by omega)]
      omega
    · cases h
  · split at h
    · cases h
      refine lv_sipush hx hb hd rfl (kc_J.res k hk hg hst (kc_r.old hE h0.1 ⟨_, rfl, ?_⟩))
      dsimp only
      rw [Int16.toInt_toInt32, Int16.toInt_ofInt_of_le (by omega) (by omega)]
      omega
    · cases h
  · rename_i n
    cases h
    refine lv_lconst hx hb hd rfl (kc_J.res k hk hg hst (kc_r.old hE h0.1 ⟨_, rfl, ?_⟩))
    dsimp only
    have : ∀ n : Fin 2, (Int64.ofNat (n : Nat)).toInt = ((n : Nat) : Int) := by decide
    rw [this]
    omega
  · cases h
    exact lv_null hx hb hd (kc_J.res k hk hg hst (kc_r.old hE h0.1 (Or.inl ⟨rfl, by dsimp only; omega⟩)))
  · rename_i j
    cases hq : kc_load L 1 j with
    | none => rw [hq] at h; cases h
    | some a =>
      rw [hq] at h; cases h
      obtain ⟨ha, ht⟩ := kc_load.of hq
      obtain ⟨v, -, hls, hlt, hv⟩ := kc_local hk ha (by rw [ht]; decide)
      obtain ⟨t, n, d⟩ := a
      cases ht
      obtain ⟨x, rfl, e⟩ := hv
      exact lv_iload hx hb hd hls (kc_J.res k hk hg hst (kc_r.old hE hlt ⟨x, rfl, e⟩))
  · rename_i j
    cases hq : kc_load L 1 j with
    | none => rw [hq] at h; cases h
    | some a =>
      rw [hq] at h; cases h
      obtain ⟨ha, ht⟩ := kc_load.of hq
      obtain ⟨v, -, hls, hlt, hv⟩ := kc_local hk ha (by rw [ht]; decide)
      obtain ⟨t, n, d⟩ := a
      cases ht
      obtain ⟨x, rfl, e⟩ := hv
      exact lv_iload_n hx hb hd rfl hls (kc_J.res k hk hg hst (kc_r.old hE hlt ⟨x, rfl, e⟩))
  · rename_i j
    cases hq : kc_load L 2 j with
    | none => rw [hq] at h; cases h
    | some a =>
      rw [hq] at h; cases h
      obtain ⟨ha, ht⟩ := kc_load.of hq
      obtain ⟨v, -, hls, hlt, hv⟩ := kc_local hk ha (by rw [ht]; decide)
      obtain ⟨t, n, d⟩ := a
      cases ht
      obtain ⟨x, rfl, e⟩ := hv
      exact lv_lload hx hb hd hls (kc_J.res k hk hg hst (kc_r.old hE hlt ⟨x, rfl, e⟩))
  · rename_i j
    cases hq : kc_load L 2 j with
    | none => rw [hq] at h; cases h
    | some a =>
      rw [hq] at h; cases h
      obtain ⟨ha, ht⟩ := kc_load.of hq
      obtain ⟨v, -, hls, hlt, hv⟩ := kc_local hk ha (by rw [ht]; decide)
      obtain ⟨t, n, d⟩ := a
      cases ht
      obtain ⟨x, rfl, e⟩ := hv
      exact lv_lload_n hx hb hd rfl hls (kc_J.res k hk hg hst (kc_r.old hE hlt ⟨x, rfl, e⟩))
  · rename_i j
    cases hq : kc_loadr L j with
    | none => rw [hq] at h; cases h
    | some a =>
      rw [hq] at h; cases h
      obtain ⟨ha, ht⟩ := kc_loadr.of hq
      obtain ⟨v, -, hls, hlt, hv⟩ := kc_local hk ha (by rcases ht with ht | ht <;> rw [ht] <;> decide)
      obtain ⟨t, n, d⟩ := a
      rcases ht with ht | ht
      · cases ht
        have hv2 := hv
        rcases hv with ⟨rfl, e⟩ | ⟨r, rfl, e⟩
        · exact lv_aloadN hx hb hd hls (kc_J.res k hk hg hst (kc_r.old hE hlt hv2))
        · exact lv_aload hx hb hd hls (kc_J.res k hk hg hst (kc_r.old hE hlt hv2))
      · cases ht
        have hv2 := hv
        cases hv
        exact lv_aload hx hb hd hls (kc_J.res k hk hg hst (kc_r.old hE hlt hv2))
  · rename_i j
    cases hq : kc_loadr L j with
    | none => rw [hq] at h; cases h
    | some a =>
      rw [hq] at h; cases h
      obtain ⟨ha, ht⟩ := kc_loadr.of hq
      obtain ⟨v, -, hls, hlt, hv⟩ := kc_local hk ha (by rcases ht with ht | ht <;> rw [ht] <;> decide)
      obtain ⟨t, n, d⟩ := a
      rcases ht with ht | ht
      · cases ht
        have hv2 := hv
        rcases hv with ⟨rfl, e⟩ | ⟨r, rfl, e⟩
        · exact lv_aload_nN hx hb hd rfl hls (kc_J.res k hk hg hst (kc_r.old hE hlt hv2))
        · exact lv_aload_n hx hb hd rfl hls (kc_J.res k hk hg hst (kc_r.old hE hlt hv2))
      · cases ht
        have hv2 := hv
        cases hv
        exact lv_aload_n hx hb hd rfl hls (kc_J.res k hk hg hst (kc_r.old hE hlt hv2))
  · rename_i j
    split at h
    · rename_i n d K2
      split at h
      · rename_i hj
        cases h
        obtain ⟨v, st', rfl, hlt, ⟨x, rfl, ex⟩, hst'⟩ := kc_stk.uncons hst
        exact lv_istore hx hb hd hk.2.2.2.1 hj rfl (fun ls' hl' => kc_J.mv k hk hg (fun _ _ => rfl) hE (Nat.le_refl _) (hk.2.2.1.st1 (a := (1, n, d)) hlt ⟨x, rfl, ex⟩) hl' hst')
      · cases h
    · cases h
  · rename_i j
    split at h
    · rename_i n d K2
      split at h
      · rename_i hj
        cases h
        obtain ⟨v, st', rfl, hlt, ⟨x, rfl, ex⟩, hst'⟩ := kc_stk.uncons hst
        exact lv_istore_n hx hb hd rfl hk.2.2.2.1 hj rfl (fun ls' hl' => kc_J.mv k hk hg (fun _ _ => rfl) hE (Nat.le_refl _) (hk.2.2.1.st1 (a := (1, n, d)) hlt ⟨x, rfl, ex⟩) hl' hst')
      · cases h
    · cases h
  · rename_i j
    split at h
    · rename_i n d K2
      split at h
      · rename_i hj
        cases h
        obtain ⟨v, st', rfl, hlt, hv, hst'⟩ := kc_stk.uncons hst
        have hv2 := hv
        rcases hv with ⟨rfl, ex⟩ | ⟨r, rfl, ex⟩
        · exact lv_astoreN hx hb hd hk.2.2.2.1 hj rfl (fun ls' hl' => kc_J.mv k hk hg (fun _ _ => rfl) hE (Nat.le_refl _) (hk.2.2.1.st1 (a := (3, n, d)) hlt hv2) hl' hst')
        · exact lv_astore hx hb hd hk.2.2.2.1 hj rfl (fun ls' hl' => kc_J.mv k hk hg (fun _ _ => rfl) hE (Nat.le_refl _) (hk.2.2.1.st1 (a := (3, n, d)) hlt hv2) hl' hst')
      · cases h
    · cases h
  · rename_i j
    split at h
    · rename_i n d K2
      split at h
      · rename_i hj
        cases h
        obtain ⟨v, st', rfl, hlt, hv, hst'⟩ := kc_stk.uncons hst
        have hv2 := hv
        rcases hv with ⟨rfl, ex⟩ | ⟨r, rfl, ex⟩
        · exact lv_astore_nN hx hb hd rfl hk.2.2.2.1 hj rfl (fun ls' hl' => kc_J.mv k hk hg (fun _ _ => rfl) hE (Nat.le_refl _) (hk.2.2.1.st1 (a := (3, n, d)) hlt hv2) hl' hst')
        · exact lv_astore_n hx hb hd rfl hk.2.2.2.1 hj rfl (fun ls' hl' => kc_J.mv k hk hg (fun _ _ => rfl) hE (Nat.le_refl _) (hk.2.2.1.st1 (a := (3, n, d)) hlt hv2) hl' hst')
      · cases h
    · cases h
  · rename_i j
    split at h
    · rename_i n d K2
      split at h
      · rename_i hj
        cases h
        obtain ⟨v, st', rfl, hlt, ⟨x, rfl, ex⟩, hst'⟩ := kc_stk.uncons hst
        exact lv_lstore hx hb hd hk.2.2.2.1 hj rfl (fun ls' hl' => kc_J.mv k hk hg (fun _ _ => rfl) hE (Nat.le_refl _) (hk.2.2.1.st2 (a := (2, n, d)) hlt ⟨x, rfl, ex⟩) hl' hst')
      · cases h
    · cases h
  · rename_i j
    split at h
    · rename_i n d K2
      split at h
      · rename_i hj
        cases h
        obtain ⟨v, st', rfl, hlt, ⟨x, rfl, ex⟩, hst'⟩ := kc_stk.uncons hst
        exact lv_lstore_n hx hb hd rfl hk.2.2.2.1 hj rfl (fun ls' hl' => kc_J.mv k hk hg (fun _ _ => rfl) hE (Nat.le_refl _) (hk.2.2.1.st2 (a := (2, n, d)) hlt ⟨x, rfl, ex⟩) hl' hst')
      · cases h
    · cases h
  · rename_i j n
    split at h
    · rename_i hj
      cases hq : kc_load L 1 j with
      | none => rw [hq] at h; cases h
      | some a =>
        rw [hq] at h; cases h
        obtain ⟨ha, ht⟩ := kc_load.of hq
        obtain ⟨v, hm, hls, hlt, hv⟩ := kc_local hk ha (by rw [ht]; decide)
        obtain ⟨t, n1, d1⟩ := a
        cases ht
        obtain ⟨x, rfl, ex⟩ := hv
        obtain ⟨q, hq2⟩ := List.getElem?_of_mem hm
        obtain ⟨ρ', g1, g3, g4, g5, g6⟩ := kc_iadd.ok (β := β) (N := Hs.length) (a := (1, n1, d1)) (b := (1, 0, n)) (x := x) (y := Int32.ofInt n) hE h0 hlt h0.1 ex (by dsimp only; rw [kc_cst32 (by omega) (by omega)]; omega)
        exact lv_iinc hx hb hd hk.2.2.2.1 hq2 rfl hj.1 rfl (fun ls' hl' => kc_J.mv k hk hg g1 g3 g4 ((hk.2.2.1.ext g1 (fun _ _ => rfl) (Nat.le_refl _) g4).st1 g5 g6) hl' (kc_stk.ext g1 (fun _ _ => rfl) (Nat.le_refl _) g4 hst))
    · cases h
  · split at h
    · split at h
      · rename_i ha
        cases h
        obtain ⟨v, st', rfl, hlt, hv, hst'⟩ := kc_stk.uncons hst
        exact lv_pop hx hb hd (kc_cat1 hv ha) (kc_J.go k hk hg hst')
      · cases h
    · cases h
  · split at h
    · split at h
      · rename_i ha
        cases h
        obtain ⟨v, st', rfl, hlt, hv, hst'⟩ := kc_stk.uncons hst
        exact lv_dup hx hb hd (kc_cat1 hv ha) (kc_J.go k hk hg ⟨hlt, hv, hlt, hv, hst'⟩)
      · cases h
    · cases h
  · split at h
    · split at h
      · rename_i ha
        cases h
        obtain ⟨v, st', rfl, hlt, hv, hst'⟩ := kc_stk.uncons hst
        obtain ⟨v2, st2, rfl, hlt2, hv2, hst2⟩ := kc_stk.uncons hst'
        exact lv_dup_x1 hx hb hd (kc_cat1 hv ha.1) (kc_cat1 hv2 ha.2) (kc_J.go k hk hg ⟨hlt, hv, hlt2, hv2, hlt, hv, hst2⟩)
      · cases h
    · cases h
  · split at h
    · split at h
      · rename_i ha
        cases h
        obtain ⟨v, st', rfl, hlt, hv, hst'⟩ := kc_stk.uncons hst
        obtain ⟨v2, st2, rfl, hlt2, hv2, hst2⟩ := kc_stk.uncons hst'
        obtain ⟨v3, st3, rfl, hlt3, hv3, hst3⟩ := kc_stk.uncons hst2
        exact lv_dup_x2 hx hb hd (kc_cat1 hv ha.1) (kc_cat1 hv2 ha.2.1) (kc_cat1 hv3 ha.2.2) (kc_J.go k hk hg ⟨hlt, hv, hlt2, hv2, hlt3, hv3, hlt, hv, hst3⟩)
      · cases h
    · cases h
  · split at h
    · rename_i a b K2
      obtain ⟨v, st', rfl, hlt, hv, hst'⟩ := kc_stk.uncons hst
      obtain ⟨v2, st2, rfl, hlt2, hv2, hst2⟩ := kc_stk.uncons hst'
      split at h
      · rename_i ha
        cases h
        obtain ⟨t, n, d⟩ := a
        cases ha
        exact lv_dup2_2 hx hb hd (kc_cat2 hv) (kc_J.go k hk hg ⟨hlt, hv, hlt, hv, hlt2, hv2, hst2⟩)
      · rename_i ha
        split at h
        · rename_i hb2
          cases h
          exact lv_dup2_11 hx hb hd (kc_cat1 hv ha) (kc_cat1 hv2 hb2) (kc_J.go k hk hg ⟨hlt, hv, hlt2, hv2, hlt, hv, hlt2, hv2, hst2⟩)
        · cases h
    · cases h
  · split at h
    · rename_i n d K2
      cases h
      obtain ⟨v, st', rfl, hlt, ⟨x, rfl, ex⟩, hst'⟩ := kc_stk.uncons hst
      have hr := kc_isub.ok (β := β) (N := Hs.length) (a := (1, 0, 0)) (b := (1, n, d)) (x := 0) (y := x) hE h0 h0.1 (by dsimp only; rw [h0.2]; rfl) ex
      rw [Int32.zero_sub] at hr
      exact lv_ineg hx hb hd (kc_J.res k hk hg hst' hr)
    · cases h
  · split at h
    · rename_i n d K2
      cases h
      obtain ⟨v, st', rfl, hlt, ⟨x, rfl, ex⟩, hst'⟩ := kc_stk.uncons hst
      exact lv_i2l hx hb hd rfl (kc_J.go k hk hg ⟨hlt, ⟨_, rfl, by rw [Int32.toInt_toInt64]; exact ex⟩, hst'⟩)
    · cases h
  · split at h
    · rename_i n d K2
      obtain ⟨v, st', rfl, hlt, ⟨x, rfl, ex⟩, hst'⟩ := kc_stk.uncons hst
      split at h
      · rename_i hr
        cases h
        have hb3 := hE.at (2, n, d)
        dsimp only at hb3 ex
        refine lv_l2i hx hb hd rfl (kc_J.go k hk hg ⟨hlt, ⟨_, rfl, ?_⟩, hst'⟩)
        dsimp only
        rw [Int64.toInt_toInt32, ← ex]
        exact Int.bmod_eq_of_le (by omega) (by omega)
      · cases h
        exact lv_l2i hx hb hd rfl (kc_J.res k hk hg hst' (kc_mk.i hE h0 (kc_i32 _).1 (kc_i32 _).2))
    · cases h
  · split at h
    · rename_i n d K2
      cases h
      obtain ⟨v, st', rfl, hlt, ⟨x, rfl, ex⟩, hst'⟩ := kc_stk.uncons hst
      refine lv_i2b hx hb hd rfl (kc_J.res k hk hg hst' (kc_mk.i hE h0 ?_ ?_))
      · rw [Int8.toInt_toInt32]; have := x.toInt8.le_toInt; omega
      · rw [Int8.toInt_toInt32]; have := x.toInt8.toInt_lt; omega
    · cases h
  · split at h
    · rename_i n d K2
      cases h
      obtain ⟨v, st', rfl, hlt, ⟨x, rfl, ex⟩, hst'⟩ := kc_stk.uncons hst
      refine lv_i2s hx hb hd rfl (kc_J.res k hk hg hst' (kc_mk.i hE h0 ?_ ?_))
      · rw [Int16.toInt_toInt32]; have := x.toInt16.le_toInt; omega
      · rw [Int16.toInt_toInt32]; have := x.toInt16.toInt_lt; omega
    · cases h
  · split at h
    · cases h
      obtain ⟨v, st', rfl, hlt, ⟨x, rfl, ex⟩, hst'⟩ := kc_stk.uncons hst
      exact lv_lneg hx hb hd (kc_J.res k hk hg hst' (kc_mk.lg hE h0 (kc_i64 _).1 (kc_i64 _).2))
    · cases h
  · split at h
    · cases h
      obtain ⟨v, st', rfl, hlt, ⟨x, rfl, ex⟩, hst'⟩ := kc_stk.uncons hst
      obtain ⟨v2, st2, rfl, hlt2, ⟨x2, rfl, ex2⟩, hst2⟩ := kc_stk.uncons hst'
      exact lv_lshl hx hb hd rfl (kc_J.res k hk hg hst2 (kc_mk.lg hE h0 (kc_i64 _).1 (kc_i64 _).2))
    · cases h
  · split at h
    · cases h
      obtain ⟨v, st', rfl, hlt, ⟨x, rfl, ex⟩, hst'⟩ := kc_stk.uncons hst
      obtain ⟨v2, st2, rfl, hlt2, ⟨x2, rfl, ex2⟩, hst2⟩ := kc_stk.uncons hst'
      exact lv_lshr hx hb hd rfl (kc_J.res k hk hg hst2 (kc_mk.lg hE h0 (kc_i64 _).1 (kc_i64 _).2))
    · cases h
  · split at h
    · cases h
      obtain ⟨v, st', rfl, hlt, ⟨x, rfl, ex⟩, hst'⟩ := kc_stk.uncons hst
      obtain ⟨v2, st2, rfl, hlt2, ⟨x2, rfl, ex2⟩, hst2⟩ := kc_stk.uncons hst'
      exact lv_lushr hx hb hd rfl (kc_J.res k hk hg hst2 (kc_mk.lg hE h0 (kc_i64 _).1 (kc_i64 _).2))
    · cases h
  · split at h
    · rename_i n2 d2 n1 d1 K2
      obtain ⟨v, st', rfl, hlt, ⟨x, rfl, ex⟩, hst'⟩ := kc_stk.uncons hst
      obtain ⟨v2, st2, rfl, hlt2, ⟨x2, rfl, ex2⟩, hst2⟩ := kc_stk.uncons hst'
      cases hq : kc_b32 i E (1, n1, d1) (1, n2, d2) with
      | none => rw [hq] at h; cases h
      | some r =>
        rw [hq] at h; cases h
        have hlen : kc_len i = 1 := by
          unfold kc_b32 at hq
          split at hq <;> first | rfl | cases hq
        rw [hlen] at hd k
        exact kc_b32.ok hq hx hb hd hE h0 hlt2 hlt ex2 ex (fun z hz => kc_J.res k hk hg hst2 hz)
    · rename_i n2 d2 n1 d1 K2
      split at h
      · rename_i hq
        cases h
        obtain ⟨v, st', rfl, hlt, ⟨x, rfl, ex⟩, hst'⟩ := kc_stk.uncons hst
        obtain ⟨v2, st2, rfl, hlt2, ⟨x2, rfl, ex2⟩, hst2⟩ := kc_stk.uncons hst'
        have hR : ∀ z : Int64, W p l e R s m args below meth c H locs cs ss Q (F0 m (pc + kc_len i) ls (.long z :: st2)) := fun z => kc_J.res k hk hg hst2 (kc_mk.lg hE h0 (kc_i64 _).1 (kc_i64 _).2)
        have hne : kc_nz E (2, n2, d2) = true → ¬ x = 0 := fun q e0 => by
          have q := of_decide_eq_true q
          have hb3 := hE.at (2, n2, d2)
          dsimp only at hb3 ex
          rw [e0] at ex
          have : (0 : Int64).toInt = 0 := rfl
          omega
        unfold kc_isb64 at hq
        split at hq
        · exact lv_ladd hx hb hd (hR _)
        · exact lv_lsub hx hb hd (hR _)
        · exact lv_lmul hx hb hd (hR _)
        · exact lv_land hx hb hd (hR _)
        · exact lv_lor hx hb hd (hR _)
        · exact lv_lxor hx hb hd (hR _)
        · exact lv_ldiv hx hb hd (hne hq) (hR _)
        · exact lv_lrem hx hb hd (hne hq) (hR _)
        · cases hq
      · cases h
    · cases h
set_option maxHeartbeats 4000000 in
theorem kc_x1.okw {j : Nat} {n : Int} (h : kc_x1 nL (.iinc j n) E L K = some (E', L', K')) (hx : p.tables.exec = Jvm.exec) (hb : c.code = cc) (hd : decode cc pc = .ok (.iinc j n, 6))
    (k : kc_J p l e R s m args below meth c Q D cl A H0 nL nA ρ0 nB β0 (pc + 6) (E', L', K', Hs, cs, ss)) : kc_J p l e R s m args below meth c Q D cl A H0 nL nA ρ0 nB β0 pc (E, L, K, Hs, cs, ss) := by
  intro ρ β ws tys H locs ls lv st hk hg
  have hE : kc_env ρ E := hk.1
  have h0 : 0 < E.length ∧ ρ 0 = 0 := hk.2.1
  have hst : kc_stk ρ β Hs.length E.length K st := hk.2.2.2.2.1
  unfold kc_x1 at h
  dsimp only at h
  split at h
  · rename_i hj
    cases hq : kc_load L 1 j with
    | none => rw [hq] at h; cases h
    | some a =>
      rw [hq] at h; cases h
      obtain ⟨ha, ht⟩ := kc_load.of hq
      obtain ⟨v, hm, hls, hlt, hv⟩ := kc_local hk ha (by rw [ht]; decide)
      obtain ⟨t, n1, d1⟩ := a
      cases ht
      obtain ⟨x, rfl, ex⟩ := hv
      obtain ⟨q, hq2⟩ := List.getElem?_of_mem hm
      obtain ⟨ρ', g1, g3, g4, g5, g6⟩ := kc_iadd.ok (β := β) (N := Hs.length) (a := (1, n1, d1)) (b := (1, 0, n)) (x := x) (y := Int32.ofInt n) hE h0 hlt h0.1 ex (by dsimp only; rw [kc_cst32 (by omega) (by omega)]; omega)
      exact lv_iincW hx hb hd hk.2.2.2.1 hq2 rfl hj.1 rfl (fun ls' hl' => kc_J.mv k hk hg g1 g3 g4 ((hk.2.2.1.ext g1 (fun _ _ => rfl) (Nat.le_refl _) g4).st1 g5 g6) hl' (kc_stk.ext g1 (fun _ _ => rfl) (Nat.le_refl _) g4 hst))
  · cases h
end KE
