section KE
variable {p : Program} {l : Launch} {e : Env} {R : Room} {s : State} {m : MethodId} {args : Array Value} {below : List Frame} {meth : Method} {c : Code} {Q : State → Prop}
variable {cc : ByteArray} {nL : Nat} {D : va_G} {cl : List vw_C} {A : Nat → Prop} {RT : List ka_R} {av : List Nat} {H0 : Heap}
variable {Γ0 : Nat → Option Nat} {nA : Nat} {ρ0 : Nat → Int} {α0 : Nat → Nat}
variable {E E' : ka_E} {L L' K K' : List ka_V} {pd : List (Nat × List Nat)} {cs ss pc : Nat} {ρ ρ' : Nat → Int} {α α' : Nat → Nat} {Γ : Nat → Option Nat} {P : Nat → Nat → Prop} {ws : va_W} {tys : List (ClassId × FieldType)} {H : Heap} {locs : List Loc} {ls ls' : Array Slot} {lv lv' : List (Nat × Value)} {st st' : List Value}
theorem ka_J.mv (k : ka_J p l e R s m args below meth c Q D cl A RT H0 av nL Γ0 nA ρ0 α0 pc (E', L', K', pd, cs, ss)) (hk : ka_ok D cl A RT s H0 av nL E L K pd ρ α Γ P ws tys H locs ls lv st) (hn : nA ≤ E.length) (hΓ : ∀ b r, Γ0 b = some r → Γ b = some r) (hρ : ∀ k, k < nA → ρ k = ρ0 k ∧ α k = α0 k)
    (g1 : ∀ k, k < E.length → ρ' k = ρ k) (g2 : ∀ k, k < E.length → α' k = α k) (g3 : ka_env ρ' E') (g4 : E.length ≤ E'.length) (hL : ka_loc ρ' α' Γ E'.length L' lv') (hl : lv_has ls' nL lv') (hK : ka_stk ρ' α' Γ E'.length K' st') : W p l e R s m args below meth c H locs cs ss Q (F0 m pc ls' st') := by
  obtain ⟨hE, h0, -, -, -, hq, hP, hW⟩ := hk
  exact k ρ' α' Γ P ws tys H locs ls' lv' st' ⟨g3, ⟨Nat.lt_of_lt_of_le h0.1 g4, by rw [g1 0 h0.1]; exact h0.2⟩, hL, hl, hK, hq.ext g1 g2 (fun _ _ h => h) g4, hP.ext hq g2, hW⟩ (Nat.le_trans hn g4) hΓ (fun k h => ⟨(g1 k (Nat.lt_of_lt_of_le h hn)).trans (hρ k h).1, (g2 k (Nat.lt_of_lt_of_le h hn)).trans (hρ k h).2⟩)
theorem ka_J.go (k : ka_J p l e R s m args below meth c Q D cl A RT H0 av nL Γ0 nA ρ0 α0 pc (E, L, K', pd, cs, ss)) (hk : ka_ok D cl A RT s H0 av nL E L K pd ρ α Γ P ws tys H locs ls lv st) (hn : nA ≤ E.length) (hΓ : ∀ b r, Γ0 b = some r → Γ b = some r) (hρ : ∀ k, k < nA → ρ k = ρ0 k ∧ α k = α0 k)
    (hK : ka_stk ρ α Γ E.length K' st') : W p l e R s m args below meth c H locs cs ss Q (F0 m pc ls st') :=
  ka_J.mv k hk hn hΓ hρ (fun _ _ => rfl) (fun _ _ => rfl) hk.1 (Nat.le_refl _) hk.2.2.1 hk.2.2.2.1 hK
theorem ka_cst32 {n : Int} (h1 : -2147483648 ≤ n) (h2 : n ≤ 2147483647) : (Int32.ofInt n).toInt = n := Int32.toInt_ofInt_of_le (by omega) (by omega)
theorem ka_stk.uncons {n : Nat} {a : ka_V} {K : List ka_V} {st : List Value} (h : ka_stk ρ α Γ n (a :: K) st) : ∃ (v : Value) (st' : List Value), st = v :: st' ∧ a.2.1 < n ∧ ka_v ρ α Γ a v ∧ ka_stk ρ α Γ n K st' := by
  cases st with
  | nil => exact absurd h id
  | cons v st' => exact ⟨v, st', rfl, h.1, h.2.1, h.2.2⟩
theorem ka_local {i : Nat} {a : ka_V} (hk : ka_ok D cl A RT s H0 av nL E L K pd ρ α Γ P ws tys H locs ls lv st) (h : L[i]? = some a) (ha : a.1 ≠ 0) : ∃ v : Value, (i, v) ∈ lv ∧ ls[i]? = some (.val v) ∧ a.2.1 < E.length ∧ ka_v ρ α Γ a v := by
  obtain ⟨g1, v, g2, g3⟩ := hk.2.2.1 i a h ha
  exact ⟨v, g2, hk.2.2.2.1.2.2 _ g2, g1, g3⟩
set_option maxHeartbeats 4000000 in
theorem ka_x1.ok {i : Instr} (h : ka_x1 nL i E L K = some (E', L', K')) (hx : p.tables.exec = Jvm.exec) (hb : c.code = cc) (hd : decode cc pc = .ok (i, ka_len i))
    (k : ka_J p l e R s m args below meth c Q D cl A RT H0 av nL Γ0 nA ρ0 α0 (pc + ka_len i) (E', L', K', pd, cs, ss)) : ka_J p l e R s m args below meth c Q D cl A RT H0 av nL Γ0 nA ρ0 α0 pc (E, L, K, pd, cs, ss) := by
  intro ρ α Γ P ws tys H locs ls lv st hk hn hΓ hρ
  have hE : ka_env ρ E := hk.1
  have h0 : 0 < E.length ∧ ρ 0 = 0 := hk.2.1
  have hst : ka_stk ρ α Γ E.length K st := hk.2.2.2.2.1
  unfold ka_x1 at h
  split at h
  · split at h
    · cases h
      exact lv_iconst hx hb hd rfl (ka_J.res k hk hn hΓ hρ hst (ka_r.old hE h0.1 ⟨_, rfl, by dsimp only; rw [ka_cst32 (by omega) (by omega)]; omega⟩))
    · cases h
  · split at h
    · cases h
      refine lv_bipush hx hb hd rfl (ka_J.res k hk hn hΓ hρ hst (ka_r.old hE h0.1 ⟨_, rfl, ?_⟩))
      dsimp only
      rw [Int8.toInt_toInt32, Int8.toInt_ofInt_of_le (by omega) (by omega)]
      omega
    · cases h
  · split at h
    · cases h
      refine lv_sipush hx hb hd rfl (ka_J.res k hk hn hΓ hρ hst (ka_r.old hE h0.1 ⟨_, rfl, ?_⟩))
      dsimp only
      rw [Int16.toInt_toInt32, Int16.toInt_ofInt_of_le (by omega) (by omega)]
      omega
    · cases h
  · rename_i n
    cases h
    refine lv_lconst hx hb hd rfl (ka_J.res k hk hn hΓ hρ hst (ka_r.old hE h0.1 ⟨_, rfl, ?_⟩))
    dsimp only
    have : ∀ n : Fin 2, (Int64.ofNat (n : Nat)).toInt = ((n : Nat) : Int) := by decide
    rw [this]
    omega
  · cases h
    exact lv_null hx hb hd (ka_J.res k hk hn hΓ hρ hst (ka_r.old hE h0.1 (Or.inl ⟨rfl, by dsimp only; omega⟩)))
  · rename_i j
    cases hq : ka_load L 1 j with
    | none => rw [hq] at h; cases h
    | some a =>
      rw [hq] at h; cases h
      obtain ⟨ha, ht⟩ := ka_load.of hq
      obtain ⟨v, -, hls, hlt, hv⟩ := ka_local hk ha (by rw [ht]; decide)
      obtain ⟨t, n, d⟩ := a
      cases ht
      obtain ⟨x, rfl, e⟩ := hv
      exact lv_iload hx hb hd hls (ka_J.res k hk hn hΓ hρ hst (ka_r.old hE hlt ⟨x, rfl, e⟩))
  · rename_i j
    cases hq : ka_load L 1 j with
    | none => rw [hq] at h; cases h
    | some a =>
      rw [hq] at h; cases h
      obtain ⟨ha, ht⟩ := ka_load.of hq
      obtain ⟨v, -, hls, hlt, hv⟩ := ka_local hk ha (by rw [ht]; decide)
      obtain ⟨t, n, d⟩ := a
      cases ht
      obtain ⟨x, rfl, e⟩ := hv
      exact lv_iload_n hx hb hd rfl hls (ka_J.res k hk hn hΓ hρ hst (ka_r.old hE hlt ⟨x, rfl, e⟩))
  · rename_i j
    cases hq : ka_load L 2 j with
    | none => rw [hq] at h; cases h
    | some a =>
      rw [hq] at h; cases h
      obtain ⟨ha, ht⟩ := ka_load.of hq
      obtain ⟨v, -, hls, hlt, hv⟩ := ka_local hk ha (by rw [ht]; decide)
      obtain ⟨t, n, d⟩ := a
      cases ht
      obtain ⟨x, rfl, e⟩ := hv
      exact lv_lload hx hb hd hls (ka_J.res k hk hn hΓ hρ hst (ka_r.old hE hlt ⟨x, rfl, e⟩))
  · rename_i j
    cases hq : ka_load L 2 j with
    | none => rw [hq] at h; cases h
    | some a =>
      rw [hq] at h; cases h
      obtain ⟨ha, ht⟩ := ka_load.of hq
      obtain ⟨v, -, hls, hlt, hv⟩ := ka_local hk ha (by rw [ht]; decide)
      obtain ⟨t, n, d⟩ := a
      cases ht
      obtain ⟨x, rfl, e⟩ := hv
      exact lv_lload_n hx hb hd rfl hls (ka_J.res k hk hn hΓ hρ hst (ka_r.old hE hlt ⟨x, rfl, e⟩))
  · rename_i j
    cases hq : ka_load L 3 j with
    | none => rw [hq] at h; cases h
    | some a =>
      rw [hq] at h; cases h
      obtain ⟨ha, ht⟩ := ka_load.of hq
      obtain ⟨v, -, hls, hlt, hv⟩ := ka_local hk ha (by rw [ht]; decide)
      obtain ⟨t, n, d⟩ := a
      cases ht
      rcases hv with ⟨rfl, e⟩ | ⟨r, rfl, e⟩
      · exact lv_aloadN hx hb hd hls (ka_J.res k hk hn hΓ hρ hst (ka_r.old hE hlt (Or.inl ⟨rfl, e⟩)))
      · exact lv_aload hx hb hd hls (ka_J.res k hk hn hΓ hρ hst (ka_r.old hE hlt (Or.inr ⟨r, rfl, e⟩)))
  · rename_i j
    cases hq : ka_load L 3 j with
    | none => rw [hq] at h; cases h
    | some a =>
      rw [hq] at h; cases h
      obtain ⟨ha, ht⟩ := ka_load.of hq
      obtain ⟨v, -, hls, hlt, hv⟩ := ka_local hk ha (by rw [ht]; decide)
      obtain ⟨t, n, d⟩ := a
      cases ht
      rcases hv with ⟨rfl, e⟩ | ⟨r, rfl, e⟩
      · exact lv_aload_nN hx hb hd rfl hls (ka_J.res k hk hn hΓ hρ hst (ka_r.old hE hlt (Or.inl ⟨rfl, e⟩)))
      · exact lv_aload_n hx hb hd rfl hls (ka_J.res k hk hn hΓ hρ hst (ka_r.old hE hlt (Or.inr ⟨r, rfl, e⟩)))
  · rename_i j
    split at h
    · rename_i n d K2
      split at h
      · rename_i hj
        cases h
        obtain ⟨v, st', rfl, hlt, ⟨x, rfl, ex⟩, hst'⟩ := ka_stk.uncons hst
        exact lv_istore hx hb hd hk.2.2.2.1 hj rfl (fun ls' hl' => ka_J.mv k hk hn hΓ hρ (fun _ _ => rfl) (fun _ _ => rfl) hE (Nat.le_refl _) (hk.2.2.1.st1 (a := (1, n, d)) hlt ⟨x, rfl, ex⟩) hl' hst')
      · cases h
    · cases h
  · rename_i j
    split at h
    · rename_i n d K2
      split at h
      · rename_i hj
        cases h
        obtain ⟨v, st', rfl, hlt, ⟨x, rfl, ex⟩, hst'⟩ := ka_stk.uncons hst
        exact lv_istore_n hx hb hd rfl hk.2.2.2.1 hj rfl (fun ls' hl' => ka_J.mv k hk hn hΓ hρ (fun _ _ => rfl) (fun _ _ => rfl) hE (Nat.le_refl _) (hk.2.2.1.st1 (a := (1, n, d)) hlt ⟨x, rfl, ex⟩) hl' hst')
      · cases h
    · cases h
  · rename_i j
    split at h
    · rename_i n d K2
      split at h
      · rename_i hj
        cases h
        obtain ⟨v, st', rfl, hlt, hv, hst'⟩ := ka_stk.uncons hst
        have hv2 := hv
        rcases hv with ⟨rfl, ex⟩ | ⟨r, rfl, ex⟩
        · exact lv_astoreN hx hb hd hk.2.2.2.1 hj rfl (fun ls' hl' => ka_J.mv k hk hn hΓ hρ (fun _ _ => rfl) (fun _ _ => rfl) hE (Nat.le_refl _) (hk.2.2.1.st1 (a := (3, n, d)) hlt hv2) hl' hst')
        · exact lv_astore hx hb hd hk.2.2.2.1 hj rfl (fun ls' hl' => ka_J.mv k hk hn hΓ hρ (fun _ _ => rfl) (fun _ _ => rfl) hE (Nat.le_refl _) (hk.2.2.1.st1 (a := (3, n, d)) hlt hv2) hl' hst')
      · cases h
    · cases h
  · rename_i j
    split at h
    · rename_i n d K2
      split at h
      · rename_i hj
        cases h
        obtain ⟨v, st', rfl, hlt, hv, hst'⟩ := ka_stk.uncons hst
        have hv2 := hv
        rcases hv with ⟨rfl, ex⟩ | ⟨r, rfl, ex⟩
        · exact lv_astore_nN hx hb hd rfl hk.2.2.2.1 hj rfl (fun ls' hl' => ka_J.mv k hk hn hΓ hρ (fun _ _ => rfl) (fun _ _ => rfl) hE (Nat.le_refl _) (hk.2.2.1.st1 (a := (3, n, d)) hlt hv2) hl' hst')
        · exact lv_astore_n hx hb hd rfl hk.2.2.2.1 hj rfl (fun ls' hl' => ka_J.mv k hk hn hΓ hρ (fun _ _ => rfl) (fun _ _ => rfl) hE (Nat.le_refl _) (hk.2.2.1.st1 (a := (3, n, d)) hlt hv2) hl' hst')
      · cases h
    · cases h
  · rename_i j
    split at h
    · rename_i n d K2
      split at h
      · rename_i hj
        cases h
        obtain ⟨v, st', rfl, hlt, ⟨x, rfl, ex⟩, hst'⟩ := ka_stk.uncons hst
        exact lv_lstore hx hb hd hk.2.2.2.1 hj rfl (fun ls' hl' => ka_J.mv k hk hn hΓ hρ (fun _ _ => rfl) (fun _ _ => rfl) hE (Nat.le_refl _) (hk.2.2.1.st2 (a := (2, n, d)) hlt ⟨x, rfl, ex⟩) hl' hst')
      · cases h
    · cases h
  · rename_i j
    split at h
    · rename_i n d K2
      split at h
      · rename_i hj
        cases h
        obtain ⟨v, st', rfl, hlt, ⟨x, rfl, ex⟩, hst'⟩ := ka_stk.uncons hst
        exact lv_lstore_n hx hb hd rfl hk.2.2.2.1 hj rfl (fun ls' hl' => ka_J.mv k hk hn hΓ hρ (fun _ _ => rfl) (fun _ _ => rfl) hE (Nat.le_refl _) (hk.2.2.1.st2 (a := (2, n, d)) hlt ⟨x, rfl, ex⟩) hl' hst')
      · cases h
    · cases h
  · rename_i j n
    split at h
    · rename_i hj
      cases hq : ka_load L 1 j with
      | none => rw [hq] at h; cases h
      | some a =>
        rw [hq] at h; cases h
        obtain ⟨ha, ht⟩ := ka_load.of hq
        obtain ⟨v, hm, hls, hlt, hv⟩ := ka_local hk ha (by rw [ht]; decide)
        obtain ⟨t, n1, d1⟩ := a
        cases ht
        obtain ⟨x, rfl, ex⟩ := hv
        obtain ⟨q, hq2⟩ := List.getElem?_of_mem hm
        obtain ⟨ρ', α', g1, g2, g3, g4, g5, g6⟩ := ka_iadd.ok (Γ := Γ) (α := α) (a := (1, n1, d1)) (b := (1, 0, n)) (x := x) (y := Int32.ofInt n) hE h0 hlt h0.1 ex (by dsimp only; rw [ka_cst32 (by omega) (by omega)]; omega)
        exact lv_iinc hx hb hd hk.2.2.2.1 hq2 rfl hj.1 rfl (fun ls' hl' => ka_J.mv k hk hn hΓ hρ g1 g2 g3 g4 ((hk.2.2.1.ext g1 g2 (fun _ _ h => h) g4).st1 g5 g6) hl' (ka_stk.ext g1 g2 (fun _ _ h => h) g4 hst))
    · cases h
  · split at h
    · split at h
      · rename_i ha
        cases h
        obtain ⟨v, st', rfl, hlt, hv, hst'⟩ := ka_stk.uncons hst
        exact lv_pop hx hb hd (ka_cat1 hv ha) (ka_J.go k hk hn hΓ hρ hst')
      · cases h
    · cases h
  · split at h
    · split at h
      · rename_i ha
        cases h
        obtain ⟨v, st', rfl, hlt, hv, hst'⟩ := ka_stk.uncons hst
        exact lv_dup hx hb hd (ka_cat1 hv ha) (ka_J.go k hk hn hΓ hρ ⟨hlt, hv, hlt, hv, hst'⟩)
      · cases h
    · cases h
  · split at h
    · split at h
      · rename_i ha
        cases h
        obtain ⟨v, st', rfl, hlt, hv, hst'⟩ := ka_stk.uncons hst
        obtain ⟨v2, st2, rfl, hlt2, hv2, hst2⟩ := ka_stk.uncons hst'
        exact lv_dup_x1 hx hb hd (ka_cat1 hv ha.1) (ka_cat1 hv2 ha.2) (ka_J.go k hk hn hΓ hρ ⟨hlt, hv, hlt2, hv2, hlt, hv, hst2⟩)
      · cases h
    · cases h
  · split at h
    · split at h
      · rename_i ha
        cases h
        obtain ⟨v, st', rfl, hlt, hv, hst'⟩ := ka_stk.uncons hst
        obtain ⟨v2, st2, rfl, hlt2, hv2, hst2⟩ := ka_stk.uncons hst'
        obtain ⟨v3, st3, rfl, hlt3, hv3, hst3⟩ := ka_stk.uncons hst2
        exact lv_dup_x2 hx hb hd (ka_cat1 hv ha.1) (ka_cat1 hv2 ha.2.1) (ka_cat1 hv3 ha.2.2) (ka_J.go k hk hn hΓ hρ ⟨hlt, hv, hlt2, hv2, hlt3, hv3, hlt, hv, hst3⟩)
      · cases h
    · cases h
  · split at h
    · rename_i a b K2
      obtain ⟨v, st', rfl, hlt, hv, hst'⟩ := ka_stk.uncons hst
      obtain ⟨v2, st2, rfl, hlt2, hv2, hst2⟩ := ka_stk.uncons hst'
      split at h
      · rename_i ha
        cases h
        obtain ⟨t, n, d⟩ := a
        cases ha
        exact lv_dup2_2 hx hb hd (ka_cat2 hv) (ka_J.go k hk hn hΓ hρ ⟨hlt, hv, hlt, hv, hlt2, hv2, hst2⟩)
      · rename_i ha
        split at h
        · rename_i hb2
          cases h
          exact lv_dup2_11 hx hb hd (ka_cat1 hv ha) (ka_cat1 hv2 hb2) (ka_J.go k hk hn hΓ hρ ⟨hlt, hv, hlt2, hv2, hlt, hv, hlt2, hv2, hst2⟩)
        · cases h
    · cases h
  · split at h
    · rename_i n d K2
      cases h
      obtain ⟨v, st', rfl, hlt, ⟨x, rfl, ex⟩, hst'⟩ := ka_stk.uncons hst
      have hr := ka_isub.ok (Γ := Γ) (α := α) (a := (1, 0, 0)) (b := (1, n, d)) (x := 0) (y := x) hE h0 h0.1 (by dsimp only; rw [h0.2]; rfl) ex
      rw [Int32.zero_sub] at hr
      exact lv_ineg hx hb hd (ka_J.res k hk hn hΓ hρ hst' hr)
    · cases h
  · split at h
    · rename_i n d K2
      cases h
      obtain ⟨v, st', rfl, hlt, ⟨x, rfl, ex⟩, hst'⟩ := ka_stk.uncons hst
      exact lv_i2l hx hb hd rfl (ka_J.go k hk hn hΓ hρ ⟨hlt, ⟨_, rfl, by rw [Int32.toInt_toInt64]; exact ex⟩, hst'⟩)
    · cases h
  · split at h
    · rename_i n d K2
      obtain ⟨v, st', rfl, hlt, ⟨x, rfl, ex⟩, hst'⟩ := ka_stk.uncons hst
      split at h
      · rename_i hr
        cases h
        have hb3 := hE.at (2, n, d)
        dsimp only at hb3 ex
        refine lv_l2i hx hb hd rfl (ka_J.go k hk hn hΓ hρ ⟨hlt, ⟨_, rfl, ?_⟩, hst'⟩)
        dsimp only
        rw [Int64.toInt_toInt32, ← ex]
        exact Int.bmod_eq_of_le (by omega) (by omega)
      · cases h
        exact lv_l2i hx hb hd rfl (ka_J.res k hk hn hΓ hρ hst' (ka_mk.i hE h0 (ka_i32 _).1 (ka_i32 _).2))
    · cases h
  · split at h
    · rename_i n d K2
      cases h
      obtain ⟨v, st', rfl, hlt, ⟨x, rfl, ex⟩, hst'⟩ := ka_stk.uncons hst
      refine lv_i2b hx hb hd rfl (ka_J.res k hk hn hΓ hρ hst' (ka_mk.i hE h0 ?_ ?_))
      · rw [Int8.toInt_toInt32]; have := x.toInt8.le_toInt; omega
      · rw [Int8.toInt_toInt32]; have := x.toInt8.toInt_lt; omega
    · cases h
  · split at h
    · rename_i n d K2
      cases h
      obtain ⟨v, st', rfl, hlt, ⟨x, rfl, ex⟩, hst'⟩ := ka_stk.uncons hst
      refine lv_i2s hx hb hd rfl (ka_J.res k hk hn hΓ hρ hst' (ka_mk.i hE h0 ?_ ?_))
      · rw [Int16.toInt_toInt32]; have := x.toInt16.le_toInt; omega
      · rw [Int16.toInt_toInt32]; have := x.toInt16.toInt_lt; omega
    · cases h
  · split at h
    · cases h
      obtain ⟨v, st', rfl, hlt, ⟨x, rfl, ex⟩, hst'⟩ := ka_stk.uncons hst
      obtain ⟨v2, st2, rfl, hlt2, ⟨x2, rfl, ex2⟩, hst2⟩ := ka_stk.uncons hst'
      exact W.lcmp hx hb hd (ka_J.res k hk hn hΓ hρ hst2 (ka_mk.i hE h0 (ka_i32 _).1 (ka_i32 _).2))
    · cases h
  · split at h
    · cases h
      obtain ⟨v, st', rfl, hlt, ⟨x, rfl, ex⟩, hst'⟩ := ka_stk.uncons hst
      exact lv_lneg hx hb hd (ka_J.res k hk hn hΓ hρ hst' (ka_mk.lg hE h0 (ka_i64 _).1 (ka_i64 _).2))
    · cases h
  · split at h
    · cases h
      obtain ⟨v, st', rfl, hlt, ⟨x, rfl, ex⟩, hst'⟩ := ka_stk.uncons hst
      obtain ⟨v2, st2, rfl, hlt2, ⟨x2, rfl, ex2⟩, hst2⟩ := ka_stk.uncons hst'
      exact lv_lshl hx hb hd rfl (ka_J.res k hk hn hΓ hρ hst2 (ka_mk.lg hE h0 (ka_i64 _).1 (ka_i64 _).2))
    · cases h
  · split at h
    · cases h
      obtain ⟨v, st', rfl, hlt, ⟨x, rfl, ex⟩, hst'⟩ := ka_stk.uncons hst
      obtain ⟨v2, st2, rfl, hlt2, ⟨x2, rfl, ex2⟩, hst2⟩ := ka_stk.uncons hst'
      exact lv_lshr hx hb hd rfl (ka_J.res k hk hn hΓ hρ hst2 (ka_mk.lg hE h0 (ka_i64 _).1 (ka_i64 _).2))
    · cases h
  · split at h
    · cases h
      obtain ⟨v, st', rfl, hlt, ⟨x, rfl, ex⟩, hst'⟩ := ka_stk.uncons hst
      obtain ⟨v2, st2, rfl, hlt2, ⟨x2, rfl, ex2⟩, hst2⟩ := ka_stk.uncons hst'
      exact lv_lushr hx hb hd rfl (ka_J.res k hk hn hΓ hρ hst2 (ka_mk.lg hE h0 (ka_i64 _).1 (ka_i64 _).2))
    · cases h
  · split at h
    · rename_i n2 d2 n1 d1 K2
      obtain ⟨v, st', rfl, hlt, ⟨x, rfl, ex⟩, hst'⟩ := ka_stk.uncons hst
      obtain ⟨v2, st2, rfl, hlt2, ⟨x2, rfl, ex2⟩, hst2⟩ := ka_stk.uncons hst'
      cases hq : ka_b32 i E (1, n1, d1) (1, n2, d2) with
      | none => rw [hq] at h; cases h
      | some r =>
        rw [hq] at h; cases h
        have hlen : ka_len i = 1 := by
          unfold ka_b32 at hq
          split at hq <;> first | rfl | cases hq
        rw [hlen] at hd k
        exact ka_b32.ok hq hx hb hd hE h0 hlt2 hlt ex2 ex (fun z hz => ka_J.res k hk hn hΓ hρ hst2 hz)
    · rename_i n2 d2 n1 d1 K2
      split at h
      · rename_i hq
        cases h
        obtain ⟨v, st', rfl, hlt, ⟨x, rfl, ex⟩, hst'⟩ := ka_stk.uncons hst
        obtain ⟨v2, st2, rfl, hlt2, ⟨x2, rfl, ex2⟩, hst2⟩ := ka_stk.uncons hst'
        have hR : ∀ z : Int64, W p l e R s m args below meth c H locs cs ss Q (F0 m (pc + ka_len i) ls (.long z :: st2)) := fun z => ka_J.res k hk hn hΓ hρ hst2 (ka_mk.lg hE h0 (ka_i64 _).1 (ka_i64 _).2)
        have hne : ka_nz E (2, n2, d2) = true → ¬ x = 0 := fun q e0 => by
          have q := of_decide_eq_true q
          have hb3 := hE.at (2, n2, d2)
          dsimp only at hb3 ex
          rw [e0] at ex
          have : (0 : Int64).toInt = 0 := rfl
          omega
        unfold ka_isb64 at hq
        split at hq
        · exact lv_ladd hx hb hd (hR _)
        · exact lv_lsub hx hb hd (hR _)
        · exact lv_lmul hx hb hd (hR _)
        · exact lv_land hx hb hd (hR _)
        · exact lv_lor hx hb hd (hR _)
        · exact lv_lxor hx hb hd (hR _)
        · exact lv_ldiv hx hb hd (hne hq) (hR _)
        · exact lv_lrem hx hb hd (hne hq) (hR _)
        · cases hq
      · cases h
    · cases h
end KE
