section TD
variable {ρ : Nat → Int} {E : tk_E} {a b : tk_P} {x y : Int64}
theorem tk_divL {x y : Int64} (h1 : 0 ≤ x.toInt) (h2 : 0 < y.toInt) : (x / y).toInt = x.toInt / y.toInt := by
  rw [Int64.toInt_div, Int.tdiv_eq_ediv_of_nonneg h1]
  have q0 : 0 ≤ x.toInt / y.toInt := Int.ediv_nonneg h1 (by omega)
  have q1 := Int.ediv_le_self (a := x.toInt) y.toInt h1
  have q2 := (tk_R2 x).2
  have q3 : tk_Rh 2 = 9223372036854775807 := rfl
  exact Int.bmod_eq_of_le (by omega) (by omega)
theorem tk_ladd (h : tk_env ρ E) (h0 : 0 < E.length ∧ ρ 0 = 0) (ha : a.1 < E.length) (hb : b.1 < E.length) (ex : x.toInt = ρ a.1 + a.2) (ey : y.toInt = ρ b.1 + b.2) : tk_r E ρ (tk_add 2 E a b) (x + y).toInt := tk_add.ok h h0 ha hb ex ey (tk_R2 _) (fun h1 h2 => tk_add64 h1 h2)
theorem tk_lsub (h : tk_env ρ E) (h0 : 0 < E.length ∧ ρ 0 = 0) (ha : a.1 < E.length) (hb : b.1 < E.length) (ex : x.toInt = ρ a.1 + a.2) (ey : y.toInt = ρ b.1 + b.2) : tk_r E ρ (tk_sub 2 E a b) (x - y).toInt := tk_sub.ok h h0 ha hb ex ey (tk_R2 _) (fun h1 h2 => tk_sub64 h1 h2)
theorem tk_lmul (h : tk_env ρ E) (h0 : 0 < E.length ∧ ρ 0 = 0) (ex : x.toInt = ρ a.1 + a.2) (ey : y.toInt = ρ b.1 + b.2) : tk_r E ρ (tk_mul 2 E a b) (x * y).toInt := tk_mul.ok h h0 ex ey (tk_R2 _) (fun h1 h2 h3 => tk_mul64 (by have := Int.mul_nonneg h1 h2; omega) h3)
theorem tk_ldiv (h : tk_env ρ E) (h0 : 0 < E.length ∧ ρ 0 = 0) (ex : x.toInt = ρ a.1 + a.2) (ey : y.toInt = ρ b.1 + b.2) : tk_r E ρ (tk_div 2 E a b) (x / y).toInt := tk_div.ok h h0 ex ey (tk_R2 _) (fun h1 h2 => tk_divL h1 h2)
theorem tk_lrem (h : tk_env ρ E) (h0 : 0 < E.length ∧ ρ 0 = 0) (hb : b.1 < E.length) (ex : x.toInt = ρ a.1 + a.2) (ey : y.toInt = ρ b.1 + b.2) : tk_r E ρ (tk_rem 2 E a b) (x - x / y * y).toInt := by
  refine tk_rem.ok h h0 hb ex ey (tk_R2 _) (fun h1 h2 => ?_)
  have q0 := tk_divL h1 h2
  have q1 : 0 ≤ x.toInt / y.toInt := Int.ediv_nonneg h1 (by omega)
  have q2 := Int.ediv_mul_le x.toInt (show y.toInt ≠ 0 by omega)
  have q3 := (tk_R2 x).2
  have q4 : tk_Rh 2 = 9223372036854775807 := rfl
  have q5 : 0 ≤ x.toInt / y.toInt * y.toInt := Int.mul_nonneg q1 (by omega)
  have e1 : (x / y * y).toInt = x.toInt / y.toInt * y.toInt := by
    rw [tk_mul64 (by rw [q0]; omega) (by rw [q0]; omega), q0]
  have e2 := Int.emod_def x.toInt y.toInt
  rw [tk_sub64 (by rw [e1]; omega) (by rw [e1]; omega), e1, e2, Int.mul_comm]
end TD
section TE
variable {p : Program} {l : Launch} {e : Env} {R : Room} {s : State} {m : MethodId} {args : Array Value} {below : List Frame} {meth : Method} {c : Code} {H : Heap} {locs : List Loc} {cells slots : Nat} {Q : State → Prop} {cc : ByteArray} {pc : Nat} {ls : Array Slot} {rest : List Value}
variable {E : tk_E} {ρ : Nat → Int} {a b : tk_P}
theorem tk_nz.ok {v : Int} (h : tk_nz E b = true) (hE : tk_env ρ E) (ev : v = ρ b.1 + b.2) : v ≠ 0 := by
  have h1 := hE.at b
  have h2 := of_decide_eq_true h
  omega
theorem tk_b32.ok {x y : Int32} {i : Instr} {r : tk_E × tk_P} (h : tk_b32 i E a b = some r) (hx : p.tables.exec = Jvm.exec) (hb : c.code = cc) (hd : decode cc pc = .ok (i, 1)) (hE : tk_env ρ E) (h0 : 0 < E.length ∧ ρ 0 = 0) (ha : a.1 < E.length) (hbl : b.1 < E.length) (ea : x.toInt = ρ a.1 + a.2) (eb : y.toInt = ρ b.1 + b.2)
    (k : ∀ z : Int32, tk_r E ρ r z.toInt → W p l e R s m args below meth c H locs cells slots Q (F0 m (pc + 1) ls (.int z :: rest))) : W p l e R s m args below meth c H locs cells slots Q (F0 m pc ls (.int y :: .int x :: rest)) := by
  unfold tk_b32 at h
  split at h
  · cases h; exact lv_iadd hx hb hd (k _ (tk_iadd hE h0 ha hbl ea eb))
  · cases h; exact lv_isub hx hb hd (k _ (tk_isub hE h0 ha hbl ea eb))
  · cases h; exact lv_imul hx hb hd (k _ (tk_imul hE h0 ea eb))
  · split at h
    · rename_i hz
      cases h; exact lv_idiv hx hb hd (kc_ne0 (tk_nz.ok hz hE eb)) (k _ (tk_idiv hE h0 ea eb))
    · cases h
  · split at h
    · rename_i hz
      cases h; exact lv_irem hx hb hd (kc_ne0 (tk_nz.ok hz hE eb)) (k _ (tk_irem hE h0 hbl ea eb))
    · cases h
  · cases h; exact lv_iand hx hb hd (k _ (tk_iand hE h0 hbl ea eb))
  · cases h; exact lv_ior hx hb hd (k _ (tk_shift (o := 6) hE h0 ea eb))
  · cases h; exact lv_ixor hx hb hd (k _ (tk_shift (o := 7) hE h0 ea eb))
  · cases h; exact lv_ishl hx hb hd (k _ (tk_shift (o := 8) hE h0 ea eb))
  · cases h; exact lv_ishr hx hb hd (k _ (tk_shift (o := 9) hE h0 ea eb))
  · cases h; exact lv_iushr hx hb hd rfl (k _ (tk_shift (o := 10) hE h0 ea eb))
  · cases h
theorem tk_ne0L {y : Int64} (h : y.toInt ≠ 0) : ¬ y = 0 := fun q => h (by rw [q]; rfl)
theorem tk_b64.ok {x y : Int64} {i : Instr} {r : tk_E × tk_P} (h : tk_b64 i E a b = some r) (hx : p.tables.exec = Jvm.exec) (hb : c.code = cc) (hd : decode cc pc = .ok (i, 1)) (hE : tk_env ρ E) (h0 : 0 < E.length ∧ ρ 0 = 0) (ha : a.1 < E.length) (hbl : b.1 < E.length) (ea : x.toInt = ρ a.1 + a.2) (eb : y.toInt = ρ b.1 + b.2)
    (k : ∀ z : Int64, tk_r E ρ r z.toInt → W p l e R s m args below meth c H locs cells slots Q (F0 m (pc + 1) ls (.long z :: rest))) : W p l e R s m args below meth c H locs cells slots Q (F0 m pc ls (.long y :: .long x :: rest)) := by
  unfold tk_b64 at h
  split at h
  · cases h; exact lv_ladd hx hb hd (k _ (tk_ladd hE h0 ha hbl ea eb))
  · cases h; exact lv_lsub hx hb hd (k _ (tk_lsub hE h0 ha hbl ea eb))
  · cases h; exact lv_lmul hx hb hd (k _ (tk_lmul hE h0 ea eb))
  · split at h
    · rename_i hz
      cases h; exact lv_ldiv hx hb hd (tk_ne0L (tk_nz.ok hz hE eb)) (k _ (tk_ldiv hE h0 ea eb))
    · cases h
  · split at h
    · rename_i hz
      cases h; exact lv_lrem hx hb hd (tk_ne0L (tk_nz.ok hz hE eb)) (k _ (tk_lrem hE h0 hbl ea eb))
    · cases h
  · cases h; exact lv_land hx hb hd (k _ (tk_any.ok hE h0 (tk_R2 _)))
  · cases h; exact lv_lor hx hb hd (k _ (tk_any.ok hE h0 (tk_R2 _)))
  · cases h; exact lv_lxor hx hb hd (k _ (tk_any.ok hE h0 (tk_R2 _)))
  · cases h
theorem tk_nrw.ok {lo hi z w : Int} (hE : tk_env ρ E) (h0 : 0 < E.length ∧ ρ 0 = 0) (ha : a.1 < E.length) (ez : z = ρ a.1 + a.2) (h1 : lo ≤ w) (h2 : w ≤ hi) (he : lo ≤ z → z ≤ hi → w = z) : tk_r E ρ (tk_nrw lo hi E a) w := by
  have hA := hE.at a
  unfold tk_nrw
  split
  · rename_i hc
    exact tk_r.old hE ha (by rw [he (by omega) (by omega)]; omega)
  · exact tk_mk.ok hE h0 h1 h2
end TE
section TF
variable {p : Program} {l : Launch} {e : Env} {R : Room} {s : State} {m : MethodId} {args : Array Value} {below : List Frame} {meth : Method} {c : Code} {Q : State → Prop}
variable {cc : ByteArray} {nL : Nat} {D : va_G} {cl : List vw_C} {A : Nat → Prop} {H0 : Heap} {KT : Nat → tk_G} {F : List (Nat × Nat × Nat)} {B0 : tk_B} {ws0 : va_W}
variable {nA : Nat} {ρ0 : Nat → Int}
variable {E E' : tk_E} {L L' K K' : List tk_V} {M : tk_M} {cs ss pc : Nat} {ρ ρ' : Nat → Int} {B : tk_B} {ws : va_W} {tys : List (ClassId × FieldType)} {H : Heap} {locs : List Loc} {ls ls' : Array Slot} {lv lv' : List (Nat × Value)} {st st' : List Value}
theorem tk_nb {a : Nat} (h : ¬ Nat.beq a 2 = true) : a ≠ 2 := fun q => h (by rw [q]; rfl)
theorem tk_local {S : tk_S} {i : Nat} {a : tk_V} (hk : tk_ok D cl A s H0 KT F B0 ws0 nL S ρ B ws tys H locs ls lv st) (h : S.2.1[i]? = some a) (ha : a.1 ≠ 0) : ∃ v : Value, (i, v) ∈ lv ∧ ls[i]? = some (.val v) ∧ a.2.1 < S.1.length ∧ tk_v ρ B a v := by
  obtain ⟨g1, v, g2, g3⟩ := hk.2.2.1 i a h ha
  exact ⟨v, g2, hk.2.2.2.1.2.2 _ g2, g1, g3⟩
/-- an old value comes onto the stack -/
theorem tk_J.old {a : tk_V} {v : Value} (k : tk_J p l e R s m args below meth c Q D cl A H0 KT F B0 ws0 nL nA ρ0 pc (E, L, a :: K', M, cs, ss)) (hk : tk_ok D cl A s H0 KT F B0 ws0 nL (E, L, K, M, cs, ss) ρ B ws tys H locs ls lv st) (hg : tk_ag nA ρ0 E.length ρ)
    (hK : tk_stk ρ B E.length K' st') (ha : a.2.1 < E.length) (hv : tk_v ρ B a v) : W p l e R s m args below meth c H locs cs ss Q (F0 m pc ls (v :: st')) := tk_J.go k hk hg ⟨ha, hv, hK⟩

set_option maxHeartbeats 8000000 in
theorem tk_x1.ok {i : Instr} {n : Nat} (h : tk_x1 nL i E L K = some (E', L', K')) (hx : p.tables.exec = Jvm.exec) (hb : c.code = cc) (hd : decode cc pc = .ok (i, n)) (hn : n = kc_len i)
    (k : tk_J p l e R s m args below meth c Q D cl A H0 KT F B0 ws0 nL nA ρ0 (pc + n) (E', L', K', M, cs, ss)) : tk_J p l e R s m args below meth c Q D cl A H0 KT F B0 ws0 nL nA ρ0 pc (E, L, K, M, cs, ss) := by
  subst hn
  intro ρ B ws tys H locs ls lv st hk hg
  have hE : tk_env ρ E := hk.1
  have h0 : 0 < E.length ∧ ρ 0 = 0 := hk.2.1
  have hst : tk_stk ρ B E.length K st := hk.2.2.2.2.1
  have hg : tk_ag nA ρ0 E.length ρ := hg
  unfold tk_x1 at h
  split at h
  · split at h
    · cases h
      refine lv_iconst hx hb hd rfl (tk_J.old k hk hg hst h0.1 ⟨_, rfl, ?_⟩)
      dsimp only
      rw [kc_cst32 (by omega) (by omega)]
      omega
    · cases h
  · split at h
    · cases h
      refine lv_bipush hx hb hd rfl (tk_J.old k hk hg hst h0.1 ⟨_, rfl, ?_⟩)
      dsimp only
      rw [Int8.toInt_toInt32, Int8.toInt_ofInt_of_le (by omega) (by omega)]
      omega
    · cases h
  · split at h
    · cases h
      refine lv_sipush hx hb hd rfl (tk_J.old k hk hg hst h0.1 ⟨_, rfl, ?_⟩)
      dsimp only
      rw [Int16.toInt_toInt32, Int16.toInt_ofInt_of_le (by omega) (by omega)]
      omega
    · cases h
  · rename_i n
    cases h
    refine lv_lconst hx hb hd rfl (tk_J.old k hk hg hst h0.1 ⟨_, rfl, ?_⟩)
    dsimp only
    have : ∀ n : Fin 2, (Int64.ofNat (n : Nat)).toInt = ((n : Nat) : Int) := by decide
    rw [this]
    omega
  · rename_i j
    cases hq : tk_load L 1 j with
    | none => rw [hq] at h; cases h
    | some a =>
      rw [hq] at h; cases h
      obtain ⟨ha, ht⟩ := tk_load.of hq
      obtain ⟨v, -, hls, hlt, hv⟩ := tk_local hk ha (by rw [ht]; decide)
      obtain ⟨t, a⟩ := a
      cases ht
      obtain ⟨x, rfl, e⟩ := hv
      exact lv_iload hx hb hd hls (tk_J.old k hk hg hst hlt ⟨x, rfl, e⟩)
  · rename_i j
    cases hq : tk_load L 1 j with
    | none => rw [hq] at h; cases h
    | some a =>
      rw [hq] at h; cases h
      obtain ⟨ha, ht⟩ := tk_load.of hq
      obtain ⟨v, -, hls, hlt, hv⟩ := tk_local hk ha (by rw [ht]; decide)
      obtain ⟨t, a⟩ := a
      cases ht
      obtain ⟨x, rfl, e⟩ := hv
      exact lv_iload_n hx hb hd rfl hls (tk_J.old k hk hg hst hlt ⟨x, rfl, e⟩)
  · rename_i j
    cases hq : tk_load L 2 j with
    | none => rw [hq] at h; cases h
    | some a =>
      rw [hq] at h; cases h
      obtain ⟨ha, ht⟩ := tk_load.of hq
      obtain ⟨v, -, hls, hlt, hv⟩ := tk_local hk ha (by rw [ht]; decide)
      obtain ⟨t, a⟩ := a
      cases ht
      obtain ⟨x, rfl, e⟩ := hv
      exact lv_lload hx hb hd hls (tk_J.old k hk hg hst hlt ⟨x, rfl, e⟩)
  · rename_i j
    cases hq : tk_load L 2 j with
    | none => rw [hq] at h; cases h
    | some a =>
      rw [hq] at h; cases h
      obtain ⟨ha, ht⟩ := tk_load.of hq
      obtain ⟨v, -, hls, hlt, hv⟩ := tk_local hk ha (by rw [ht]; decide)
      obtain ⟨t, a⟩ := a
      cases ht
      obtain ⟨x, rfl, e⟩ := hv
      exact lv_lload_n hx hb hd rfl hls (tk_J.old k hk hg hst hlt ⟨x, rfl, e⟩)
  · rename_i j
    cases hq : tk_loadr L j with
    | none => rw [hq] at h; cases h
    | some a =>
      rw [hq] at h; cases h
      obtain ⟨ha, ht⟩ := tk_loadr.of hq
      obtain ⟨v, -, hls, hlt, hv⟩ := tk_local hk ha (by omega)
      obtain ⟨t, a⟩ := a
      dsimp only at ht
      have hv2 := hv
      rcases ht with ht | ht | ht
      · rcases (tk_vn.ref ht).mp hv with ⟨rfl, e⟩ | ⟨j, r, rfl, e⟩
        · exact lv_aloadN hx hb hd hls (tk_J.old k hk hg hst hlt hv2)
        · exact lv_aload hx hb hd hls (tk_J.old k hk hg hst hlt hv2)
      · cases ht
        cases hv
        exact lv_aload hx hb hd hls (tk_J.old k hk hg hst hlt hv2)
      · cases ht
        cases hv
        exact lv_aload hx hb hd hls (tk_J.old k hk hg hst hlt hv2)
  · rename_i j
    cases hq : tk_loadr L j with
    | none => rw [hq] at h; cases h
    | some a =>
      rw [hq] at h; cases h
      obtain ⟨ha, ht⟩ := tk_loadr.of hq
      obtain ⟨v, -, hls, hlt, hv⟩ := tk_local hk ha (by omega)
      obtain ⟨t, a⟩ := a
      dsimp only at ht
      have hv2 := hv
      rcases ht with ht | ht | ht
      · rcases (tk_vn.ref ht).mp hv with ⟨rfl, e⟩ | ⟨j, r, rfl, e⟩
        · exact lv_aload_nN hx hb hd rfl hls (tk_J.old k hk hg hst hlt hv2)
        · exact lv_aload_n hx hb hd rfl hls (tk_J.old k hk hg hst hlt hv2)
      · cases ht
        cases hv
        exact lv_aload_n hx hb hd rfl hls (tk_J.old k hk hg hst hlt hv2)
      · cases ht
        cases hv
        exact lv_aload_n hx hb hd rfl hls (tk_J.old k hk hg hst hlt hv2)
  · split at h
    · rename_i a K2
      split at h
      · rename_i hj
        cases h
        obtain ⟨v, st', rfl, hlt, ⟨x, rfl, ex⟩, hst'⟩ := tk_stk.uncons hst
        exact lv_istore hx hb hd hk.2.2.2.1 hj rfl (fun ls' hl' => tk_J.mv k hk hg (fun _ _ => rfl) hE (Nat.le_refl _) (tk_loc.st1 (a := (1, a)) hk.2.2.1 hlt ⟨x, rfl, ex⟩) hl' hst' hk.2.2.2.2.2.1)
      · cases h
    · cases h
  · split at h
    · rename_i a K2
      split at h
      · rename_i hj
        cases h
        obtain ⟨v, st', rfl, hlt, ⟨x, rfl, ex⟩, hst'⟩ := tk_stk.uncons hst
        exact lv_istore_n hx hb hd rfl hk.2.2.2.1 hj rfl (fun ls' hl' => tk_J.mv k hk hg (fun _ _ => rfl) hE (Nat.le_refl _) (tk_loc.st1 (a := (1, a)) hk.2.2.1 hlt ⟨x, rfl, ex⟩) hl' hst' hk.2.2.2.2.2.1)
      · cases h
    · cases h
  · split at h
    · rename_i ty a K2
      split at h
      · rename_i hj
        cases h
        obtain ⟨v, st', rfl, hlt, hv, hst'⟩ := tk_stk.uncons hst
        have hv2 := hv
        rcases (tk_vn.ref hj.2).mp hv with ⟨rfl, ex⟩ | ⟨j, r, rfl, ex⟩
        · exact lv_astoreN hx hb hd hk.2.2.2.1 hj.1 rfl (fun ls' hl' => tk_J.mv k hk hg (fun _ _ => rfl) hE (Nat.le_refl _) (tk_loc.st1 (a := (ty, a)) hk.2.2.1 hlt hv2) hl' hst' hk.2.2.2.2.2.1)
        · exact lv_astore hx hb hd hk.2.2.2.1 hj.1 rfl (fun ls' hl' => tk_J.mv k hk hg (fun _ _ => rfl) hE (Nat.le_refl _) (tk_loc.st1 (a := (ty, a)) hk.2.2.1 hlt hv2) hl' hst' hk.2.2.2.2.2.1)
      · cases h
    · cases h
  · split at h
    · rename_i ty a K2
      split at h
      · rename_i hj
        cases h
        obtain ⟨v, st', rfl, hlt, hv, hst'⟩ := tk_stk.uncons hst
        have hv2 := hv
        rcases (tk_vn.ref hj.2).mp hv with ⟨rfl, ex⟩ | ⟨j, r, rfl, ex⟩
        · exact lv_astore_nN hx hb hd rfl hk.2.2.2.1 hj.1 rfl (fun ls' hl' => tk_J.mv k hk hg (fun _ _ => rfl) hE (Nat.le_refl _) (tk_loc.st1 (a := (ty, a)) hk.2.2.1 hlt hv2) hl' hst' hk.2.2.2.2.2.1)
        · exact lv_astore_n hx hb hd rfl hk.2.2.2.1 hj.1 rfl (fun ls' hl' => tk_J.mv k hk hg (fun _ _ => rfl) hE (Nat.le_refl _) (tk_loc.st1 (a := (ty, a)) hk.2.2.1 hlt hv2) hl' hst' hk.2.2.2.2.2.1)
      · cases h
    · cases h
  · split at h
    · rename_i a K2
      split at h
      · rename_i hj
        cases h
        obtain ⟨v, st', rfl, hlt, ⟨x, rfl, ex⟩, hst'⟩ := tk_stk.uncons hst
        exact lv_lstore hx hb hd hk.2.2.2.1 hj rfl (fun ls' hl' => tk_J.mv k hk hg (fun _ _ => rfl) hE (Nat.le_refl _) (tk_loc.st2 (a := (2, a)) hk.2.2.1 hlt ⟨x, rfl, ex⟩) hl' hst' hk.2.2.2.2.2.1)
      · cases h
    · cases h
  · split at h
    · rename_i a K2
      split at h
      · rename_i hj
        cases h
        obtain ⟨v, st', rfl, hlt, ⟨x, rfl, ex⟩, hst'⟩ := tk_stk.uncons hst
        exact lv_lstore_n hx hb hd rfl hk.2.2.2.1 hj rfl (fun ls' hl' => tk_J.mv k hk hg (fun _ _ => rfl) hE (Nat.le_refl _) (tk_loc.st2 (a := (2, a)) hk.2.2.1 hlt ⟨x, rfl, ex⟩) hl' hst' hk.2.2.2.2.2.1)
      · cases h
    · cases h
  · rename_i j n
    split at h
    · rename_i hj
      cases hq : tk_load L 1 j with
      | none => rw [hq] at h; cases h
      | some a =>
        rw [hq] at h; cases h
        obtain ⟨ha, ht⟩ := tk_load.of hq
        obtain ⟨v, hm, hls, hlt, hv⟩ := tk_local hk ha (by rw [ht]; decide)
        obtain ⟨t, a⟩ := a
        cases ht
        obtain ⟨x, rfl, ex⟩ := hv
        obtain ⟨q, hq2⟩ := List.getElem?_of_mem hm
        obtain ⟨ρ', g1, g3, g4, g5, g6⟩ := tk_iadd (a := a) (b := (0, n)) (x := x) (y := Int32.ofInt n) hE h0 hlt h0.1 ex (by dsimp only; rw [kc_cst32 (by omega) (by omega)]; omega)
        exact lv_iinc hx hb hd hk.2.2.2.1 hq2 rfl hj.1 rfl (fun ls' hl' => tk_J.mv k hk hg g1 g3 g4 (tk_loc.st1 (a := (1, (tk_add 1 E a (0, n)).2)) (hk.2.2.1.ext g1 (tk_le.rf B) g4) g5 ⟨_, rfl, g6.symm⟩) hl' (tk_stk.ext g1 (tk_le.rf B) g4 hst) (hk.2.2.2.2.2.1.ext g1 g4))
    · cases h
  · split at h
    · split at h
      · cases h
      · rename_i ha
        cases h
        obtain ⟨v, st', rfl, hlt, hv, hst'⟩ := tk_stk.uncons hst
        exact lv_pop hx hb hd (tk_vn.cat1 hv (tk_nb ha)) (tk_J.go k hk hg hst')
    · cases h
  · split at h
    · split at h
      · cases h
      · rename_i ha
        cases h
        obtain ⟨v, st', rfl, hlt, hv, hst'⟩ := tk_stk.uncons hst
        exact lv_dup hx hb hd (tk_vn.cat1 hv (tk_nb ha)) (tk_J.go k hk hg ⟨hlt, hv, hlt, hv, hst'⟩)
    · cases h
  · split at h
    · split at h
      · cases h
      · rename_i ha
        cases h
        rw [Bool.or_eq_true, not_or] at ha
        obtain ⟨v, st', rfl, hlt, hv, hst'⟩ := tk_stk.uncons hst
        obtain ⟨v2, st2, rfl, hlt2, hv2, hst2⟩ := tk_stk.uncons hst'
        exact lv_dup_x1 hx hb hd (tk_vn.cat1 hv (tk_nb ha.1)) (tk_vn.cat1 hv2 (tk_nb ha.2)) (tk_J.go k hk hg ⟨hlt, hv, hlt2, hv2, hlt, hv, hst2⟩)
    · cases h
  · split at h
    · split at h
      · cases h
      · rename_i ha
        cases h
        rw [Bool.or_eq_true, Bool.or_eq_true, not_or, not_or] at ha
        obtain ⟨v, st', rfl, hlt, hv, hst'⟩ := tk_stk.uncons hst
        obtain ⟨v2, st2, rfl, hlt2, hv2, hst2⟩ := tk_stk.uncons hst'
        obtain ⟨v3, st3, rfl, hlt3, hv3, hst3⟩ := tk_stk.uncons hst2
        exact lv_dup_x2 hx hb hd (tk_vn.cat1 hv (tk_nb ha.1.1)) (tk_vn.cat1 hv2 (tk_nb ha.1.2)) (tk_vn.cat1 hv3 (tk_nb ha.2)) (tk_J.go k hk hg ⟨hlt, hv, hlt2, hv2, hlt3, hv3, hlt, hv, hst3⟩)
    · cases h
  · split at h
    · rename_i a b K2
      obtain ⟨v, st', rfl, hlt, hv, hst'⟩ := tk_stk.uncons hst
      obtain ⟨v2, st2, rfl, hlt2, hv2, hst2⟩ := tk_stk.uncons hst'
      split at h
      · rename_i ha
        cases h
        obtain ⟨t, a⟩ := a
        cases tk_bq ha
        exact lv_dup2_2 hx hb hd (tk_vn.cat2 hv) (tk_J.go k hk hg ⟨hlt, hv, hlt, hv, hlt2, hv2, hst2⟩)
      · rename_i ha
        split at h
        · cases h
        · rename_i hb2
          cases h
          exact lv_dup2_11 hx hb hd (tk_vn.cat1 hv (tk_nb ha)) (tk_vn.cat1 hv2 (tk_nb hb2)) (tk_J.go k hk hg ⟨hlt, hv, hlt2, hv2, hlt, hv, hlt2, hv2, hst2⟩)
    · rename_i a
      obtain ⟨v, st', rfl, hlt, hv, hst'⟩ := tk_stk.uncons hst
      split at h
      · rename_i ha
        cases h
        obtain ⟨t, a⟩ := a
        cases tk_bq ha
        exact lv_dup2_2 hx hb hd (tk_vn.cat2 hv) (tk_J.go k hk hg ⟨hlt, hv, hlt, hv, hst'⟩)
      · cases h
    · cases h
  · split at h
    · rename_i a K2
      cases h
      obtain ⟨v, st', rfl, hlt, ⟨x, rfl, ex⟩, hst'⟩ := tk_stk.uncons hst
      have hr := tk_isub (a := (0, 0)) (b := a) (x := 0) (y := x) hE h0 h0.1 hlt (by dsimp only; rw [h0.2]; rfl) ex
      rw [Int32.zero_sub] at hr
      exact lv_ineg hx hb hd (tk_J.res k hk hg hst' hr ⟨_, rfl, rfl⟩)
    · cases h
  · split at h
    · rename_i a K2
      cases h
      obtain ⟨v, st', rfl, hlt, ⟨x, rfl, ex⟩, hst'⟩ := tk_stk.uncons hst
      exact lv_i2l hx hb hd rfl (tk_J.go k hk hg ⟨hlt, ⟨_, rfl, by rw [Int32.toInt_toInt64]; exact ex⟩, hst'⟩)
    · cases h
  · split at h
    · rename_i a K2
      cases h
      obtain ⟨v, st', rfl, hlt, ⟨x, rfl, ex⟩, hst'⟩ := tk_stk.uncons hst
      refine lv_l2i hx hb hd rfl (tk_J.res k hk hg hst' (tk_nrw.ok (z := x.toInt) (w := x.toInt32.toInt) hE h0 hlt ex (kc_i32 _).1 (kc_i32 _).2 (fun h1 h2 => ?_)) ⟨_, rfl, rfl⟩)
      rw [Int64.toInt_toInt32]
      exact Int.bmod_eq_of_le (by omega) (by omega)
    · cases h
  · split at h
    · rename_i a K2
      cases h
      obtain ⟨v, st', rfl, hlt, ⟨x, rfl, ex⟩, hst'⟩ := tk_stk.uncons hst
      refine lv_i2b hx hb hd rfl (tk_J.res k hk hg hst' (tk_nrw.ok (z := x.toInt) (w := x.toInt8.toInt32.toInt) hE h0 hlt ex ?_ ?_ (fun h1 h2 => ?_)) ⟨_, rfl, rfl⟩)
      · rw [Int8.toInt_toInt32]; have := x.toInt8.le_toInt; omega
      · rw [Int8.toInt_toInt32]; have := x.toInt8.toInt_lt; omega
      · rw [Int8.toInt_toInt32, Int32.toInt_toInt8]
        exact Int.bmod_eq_of_le (by omega) (by omega)
    · cases h
  · split at h
    · rename_i a K2
      cases h
      obtain ⟨v, st', rfl, hlt, ⟨x, rfl, ex⟩, hst'⟩ := tk_stk.uncons hst
      refine lv_i2s hx hb hd rfl (tk_J.res k hk hg hst' (tk_nrw.ok (z := x.toInt) (w := x.toInt16.toInt32.toInt) hE h0 hlt ex ?_ ?_ (fun h1 h2 => ?_)) ⟨_, rfl, rfl⟩)
      · rw [Int16.toInt_toInt32]; have := x.toInt16.le_toInt; omega
      · rw [Int16.toInt_toInt32]; have := x.toInt16.toInt_lt; omega
      · rw [Int16.toInt_toInt32, Int32.toInt_toInt16]
        exact Int.bmod_eq_of_le (by omega) (by omega)
    · cases h
  · split at h
    · cases h
      obtain ⟨v, st', rfl, hlt, ⟨x, rfl, ex⟩, hst'⟩ := tk_stk.uncons hst
      exact lv_lneg hx hb hd (tk_J.res k hk hg hst' (tk_any.ok hE h0 (tk_R2 _)) ⟨_, rfl, rfl⟩)
    · cases h
  · split at h
    · cases h
      obtain ⟨v, st', rfl, hlt, ⟨x, rfl, ex⟩, hst'⟩ := tk_stk.uncons hst
      obtain ⟨v2, st2, rfl, hlt2, ⟨x2, rfl, ex2⟩, hst2⟩ := tk_stk.uncons hst'
      exact lv_lshl hx hb hd rfl (tk_J.res k hk hg hst2 (tk_any.ok hE h0 (tk_R2 _)) ⟨_, rfl, rfl⟩)
    · cases h
  · split at h
    · cases h
      obtain ⟨v, st', rfl, hlt, ⟨x, rfl, ex⟩, hst'⟩ := tk_stk.uncons hst
      obtain ⟨v2, st2, rfl, hlt2, ⟨x2, rfl, ex2⟩, hst2⟩ := tk_stk.uncons hst'
      exact lv_lshr hx hb hd rfl (tk_J.res k hk hg hst2 (tk_any.ok hE h0 (tk_R2 _)) ⟨_, rfl, rfl⟩)
    · cases h
  · split at h
    · cases h
      obtain ⟨v, st', rfl, hlt, ⟨x, rfl, ex⟩, hst'⟩ := tk_stk.uncons hst
      obtain ⟨v2, st2, rfl, hlt2, ⟨x2, rfl, ex2⟩, hst2⟩ := tk_stk.uncons hst'
      exact lv_lushr hx hb hd rfl (tk_J.res k hk hg hst2 (tk_any.ok hE h0 (tk_R2 _)) ⟨_, rfl, rfl⟩)
    · cases h
  · split at h
    · rename_i b a K2
      obtain ⟨v, st', rfl, hlt, ⟨x, rfl, ex⟩, hst'⟩ := tk_stk.uncons hst
      obtain ⟨v2, st2, rfl, hlt2, ⟨x2, rfl, ex2⟩, hst2⟩ := tk_stk.uncons hst'
      cases hq : tk_b32 i E a b with
      | none => rw [hq] at h; cases h
      | some r =>
        rw [hq] at h; cases h
        have hlen : kc_len i = 1 := by
          unfold tk_b32 at hq
          split at hq <;> first | rfl | cases hq
        rw [hlen] at hd k
        exact tk_b32.ok hq hx hb hd hE h0 hlt2 hlt ex2 ex (fun z hz => tk_J.res k hk hg hst2 hz ⟨z, rfl, rfl⟩)
    · rename_i b a K2
      obtain ⟨v, st', rfl, hlt, ⟨x, rfl, ex⟩, hst'⟩ := tk_stk.uncons hst
      obtain ⟨v2, st2, rfl, hlt2, ⟨x2, rfl, ex2⟩, hst2⟩ := tk_stk.uncons hst'
      cases hq : tk_b64 i E a b with
      | none => rw [hq] at h; cases h
      | some r =>
        rw [hq] at h; cases h
        have hlen : kc_len i = 1 := by
          unfold tk_b64 at hq
          split at hq <;> first | rfl | cases hq
        rw [hlen] at hd k
        exact tk_b64.ok hq hx hb hd hE h0 hlt2 hlt ex2 ex (fun z hz => tk_J.res k hk hg hst2 hz ⟨z, rfl, rfl⟩)
    · cases h
end TF
