/-! ===== the law's own rounds: its steps whatever rooms are taken, its script's ints told once ===== -/
/-- symbols, locals, stack, facts, ints of the script that are known: where, which -/
abbrev tm_X : Type := tk_E × List tk_V × List tk_V × tk_M × List (tk_P × tk_P)
def tm_S (X : tm_X) (cs ss : Nat) : tk_S := (X.1, X.2.1, X.2.2.1, X.2.2.2.1, cs, ss)
def tm_of (S : tk_S) (C : List (tk_P × tk_P)) : tm_X := (S.1, S.2.1, S.2.2.1, S.2.2.2.1, C)
def tm_i (i : Instr) : Bool := match i with
  | .iload_n _ => true | .aload_n _ => true | .iconst _ => true | .bipush _ => true | .iadd => true | .isub => true | .iand => true | .arraylength => true | .pop => true | .goto _ => true | .iinc _ _ => true | .if_icmp _ _ => true | .tableswitch _ _ _ _ => true | .i2l => true | .lshl => true | .land => true | .lor => true | .ldc2_w _ => true
  | _ => false
def tm_up (cs ss : Nat) (q : Nat × tk_S) : Nat × tk_S := (q.1, q.2.1, q.2.2.1, q.2.2.2.1, q.2.2.2.2.1, cs, ss)
set_option maxHeartbeats 4000000 in
theorem tm_sh {T : tk_T} {F : List (Nat × Nat × Nat)} {y pc n : Nat} {i : Instr} {E : tk_E} {L K : List tk_V} {M : tk_M} {cs ss : Nat} (h : tm_i i = true) : tk_step T F y pc i n (E, L, K, M, cs, ss) = (tk_step T F y pc i n (E, L, K, M, 0, 0)).map (fun r => r.map (tm_up cs ss)) := by
  have x1 : ∀ (j : Instr) (d : Nat), (tk_x1 (tk_Tmi T y).1 j E L K).map (fun r => [(pc + d, r.1, r.2.1, r.2.2, M, cs, ss)]) = ((tk_x1 (tk_Tmi T y).1 j E L K).map (fun r => [(pc + d, r.1, r.2.1, r.2.2, M, 0, 0)])).map (fun r => r.map (tm_up cs ss)) := fun j d => by
    cases tk_x1 (tk_Tmi T y).1 j E L K <;> rfl
  have x2 : ∀ (j : Instr), (tk_x2 j pc E K).map (fun r => r.map fun q => (q.1, q.2.1, L, q.2.2, M, cs, ss)) = ((tk_x2 j pc E K).map (fun r => r.map fun q => (q.1, q.2.1, L, q.2.2, M, 0, 0))).map (fun r => r.map (tm_up cs ss)) := fun j => by
    cases tk_x2 j pc E K with
    | none => rfl
    | some r =>
      show some (List.map _ r) = some (List.map _ (List.map _ r))
      rw [List.map_map]
      rfl
  have x3 : ∀ {a b : Option (List (Nat × tk_S))} {P : Prop} [Decidable P], a = b.map (fun r => r.map (tm_up cs ss)) → (if P then a else none) = (if P then b else none).map (fun r => r.map (tm_up cs ss)) := fun {a b P} _ hab => by
    by_cases hP : P
    · rw [if_pos hP, if_pos hP]; exact hab
    · rw [if_neg hP, if_neg hP]; rfl
  cases i <;> first
    | (exact absurd h Bool.false_ne_true)
    | (unfold tk_step; dsimp only; unfold tk_s0; dsimp only; exact x3 (x2 _))
    | (unfold tk_step; dsimp only; unfold tk_s0; dsimp only; exact x3 (x3 (x1 _ _)))
    | (unfold tk_step; dsimp only; unfold tk_s0; dsimp only)
  case arraylength =>
    refine x3 ?_
    show (tk_aln _ _ _ _).map _ = ((tk_aln _ _ _ _).map _).map _
    cases tk_aln (Nat.beq y 0) (tk_TKT T) E K <;> rfl
  case ldc2_w ix =>
    refine x3 ?_
    show (match tk_Tkw T (tk_Tmi T y).2.2.2.2.2.2.1 ix with
      | some q => if Nat.beq q.1 2 = true then some [(pc + 3, E, L, (2, 0, q.2) :: K, M, cs, ss)] else none
      | none => none) = (match tk_Tkw T (tk_Tmi T y).2.2.2.2.2.2.1 ix with
      | some q => if Nat.beq q.1 2 = true then some [(pc + 3, E, L, (2, 0, q.2) :: K, M, 0, 0)] else none
      | none => none).map _
    cases tk_Tkw T (tk_Tmi T y).2.2.2.2.2.2.1 ix with
    | none => rfl
    | some q =>
      dsimp only
      by_cases hq : Nat.beq q.1 2 = true
      · rw [if_pos hq, if_pos hq]; rfl
      · rw [if_neg hq, if_neg hq]; rfl
  case iinc j d =>
    refine x3 ?_
    by_cases h3 : n = kc_len (.iinc j d)
    · rw [if_pos h3, if_pos h3]; exact x1 _ _
    · rw [if_neg h3, if_neg h3]; exact x3 (x1 _ _)
/-- an int of the script -/
def tm_fs (i : tk_P) : List (tk_P × tk_P) → Option tk_P
  | [] => none
  | q :: C => if (Nat.beq q.1.1 i.1 && decide (q.1.2 = i.2)) = true then some q.2 else tm_fs i C
def tm_ld (X : tm_X) : Option tm_X := match X.2.2.1 with
  | (1, i) :: (5, _) :: K => if 0 ≤ tk_lo X.1 i ∧ (tk_B2 X.1 i.1 1).2 + i.2 < 0 then (match tm_fs i X.2.2.2.2 with
    | some v => some (X.1, X.2.1, (1, v) :: K, X.2.2.2.1, X.2.2.2.2)
    | none => some (X.1 ++ [(-2147483648, 2147483647, 0, 0, 0, 0)], X.2.1, (1, X.1.length, 0) :: K, X.2.2.2.1, (i, (X.1.length, 0)) :: X.2.2.2.2)) else none
  | _ => none
def tm_one (pc : Nat) (X : tm_X) : Option (List (Nat × tm_X)) := match tt_cd 0 pc with
  | some (.iaload, 1) => (tm_ld X).map (fun X' => [(pc + 1, X')])
  | some (i, n) => if tm_i i = true then (tk_step tt_T [] 0 pc i n (tm_S X 0 0)).map (fun ns => ns.map (fun q => (q.1, tm_of q.2 X.2.2.2.2))) else none
  | none => none
/-- a call by a contract: symbols and facts behind what was touched, what the contract's symbols are, the ends -/
def tm_cl (T : tk_T) (k : tk_K) (ts : List (tk_V × tk_V)) (pc : Nat) (X : tm_X) : Option (tk_E × tk_M × List tk_Lx × List (tk_A × tm_X)) := match tk_Tcd T 0 pc, tk_tcs (tk_TKT T) X.2.2.1 ts X.1 X.2.2.2.1 with
  | some (i, n), some z => (match tk_cal T tt_sc tt_nt 0 i n (z.1, X.2.1, X.2.2.1, z.2, 0, 0) with
    | some r => if Nat.beq r.1 k.1 = true then (match tk_wi 1 0 0 (k.2.1, [], k.2.2.1, k.2.2.2.1, (0, 0), true) (z.1, [], r.2.1, z.2, 0, 0) with
      | some xs => (match tk_apL T k xs r.2.2 (z.1, X.2.1, X.2.2.1, z.2, 0, 0) k.2.2.2.2.1 with
        | some rs => some (z.1, z.2, xs, (k.2.2.2.2.1.zip rs).map (fun q => (q.1, tm_of q.2 X.2.2.2.2)))
        | none => none)
      | none => none) else none
    | none => none)
  | _, _ => none
/-- cells that no plain call may touch -/
def tm_far (F : List (Nat × Nat × Nat)) : Bool := tl_far F && F.all (fun q => !(Nat.beq q.1 50) && !(Nat.beq q.1 51))
def tm_z (k : tk_K) : Bool := Nat.beq (tk_Tmi tt_T k.1).2.2.1 0 && Nat.beq (tk_Tmi tt_T k.1).2.2.2.1 0
def tm_try (pc : Nat) (X : tm_X) : List (tk_K × List (tk_V × tk_V)) → Option (List (Nat × tm_X))
  | [] => none
  | q :: qs => match tm_cl tt_T q.1 q.2 pc X with
    | some r => if (tm_far q.1.2.2.2.2.2 && tm_z q.1) = true then some (r.2.2.2.map (fun w => (pc + 3, w.2))) else none
    | none => tm_try pc X qs
/-- all ints, in stretches -/
def tm_cov : Int → List (Int × Int) → Bool
  | a, [] => decide (2147483647 < a)
  | a, q :: l => decide (q.1 ≤ a) && tm_cov (q.2 + 1) l
def tm_sp1 (j : Nat) (iv : List (Int × Int)) (X : tm_X) : Option (List tm_X) := match X.2.2.1[j]? with
  | some v => if (Nat.beq v.1 1 && tm_cov (-2147483648) iv) = true then some (iv.map (fun q => (tk_rf X.1 v.2.1 (q.1 - v.2.2) (q.2 - v.2.2), X.2))) else none
  | none => none
def tm_sps : List (Nat × List (Int × Int)) → List tm_X → Option (List tm_X)
  | [], Xs => some Xs
  | q :: qs, Xs => match Xs.mapM (tm_sp1 q.1 q.2) with
    | some Ys => tm_sps qs Ys.flatten
    | none => none
/-- runs on, plain calls and all, up to some places -/
def tm_go (tab : Nat → List (tk_K × List (tk_V × tk_V))) : Nat → List Nat → List (Nat × tm_X) → List (Nat × tm_X) → Option (List (Nat × tm_X))
  | 0, _, _, _ => none
  | _ + 1, _, [], outs => some outs
  | f + 1, st, q :: rest, outs => if st.contains q.1 = true then tm_go tab f st rest (q :: outs) else
    match (match tab q.1 with
      | [] => tm_one q.1 q.2
      | ks => tm_try q.1 q.2 ks) with
    | some ns => tm_go tab f st (ns ++ rest) outs
    | none => none
theorem tm_cov.ok {z : Int} : ∀ {l : List (Int × Int)} {a : Int}, tm_cov a l = true → a ≤ z → z ≤ 2147483647 → ∃ q ∈ l, q.1 ≤ z ∧ z ≤ q.2
  | [], a, h, h1, h2 => by
    have := of_decide_eq_true h
    omega
  | q :: l, a, h, h1, h2 => by
    unfold tm_cov at h
    rw [Bool.and_eq_true] at h
    have h3 := of_decide_eq_true h.1
    by_cases hz : z ≤ q.2
    · exact ⟨q, List.mem_cons_self, by omega, hz⟩
    · obtain ⟨q', g1, g2⟩ := tm_cov.ok h.2 (by omega) h2
      exact ⟨q', List.mem_cons_of_mem _ g1, g2⟩
-- rooms don't matter for what is computed
theorem tm_calU {T : tk_T} {sc nt y n : Nat} {i : Instr} {E : tk_E} {L K : List tk_V} {M : tk_M} {cs ss : Nat} {r : Nat × List tk_V × List tk_V} (h : tk_cal T sc nt y i n (E, L, K, M, 0, 0) = some r) (h1 : cs + (tk_Tmi T r.1).2.2.1 ≤ (tk_Tmi T y).2.2.1) (h2 : ss + (tk_Tmi T r.1).2.2.2.1 ≤ (tk_Tmi T y).2.2.2.1) : tk_cal T sc nt y i n (E, L, K, M, cs, ss) = some r := by
  unfold tk_cal at h ⊢
  split at h
  · rename_i kd y' hlk
    split at h
    · rename_i hn
      rw [if_pos hn]
      split at h
      · rename_i as K' ha
        have ha : tk_args (tk_Tmi T y').2.1.reverse K [] = some (as, K') := ha
        dsimp only
        rw [ha]
        dsimp only
        split at h
        · rename_i hc
          cases h
          dsimp only at h1 h2 hc
          rw [if_pos ?_]
          simp only [Bool.and_eq_true] at hc ⊢
          obtain ⟨⟨⟨⟨⟨⟨⟨c1, c2⟩, c3⟩, c4⟩, c5⟩, c6⟩, c7⟩, c8⟩ := hc
          exact ⟨⟨⟨⟨⟨⟨⟨c1, Nat.ble_eq_true_of_le h1⟩, Nat.ble_eq_true_of_le h2⟩, c4⟩, c5⟩, c6⟩, c7⟩, c8⟩
        · cases h
      · cases h
    · cases h
  · cases h
theorem tm_wwU {n0 : Nat} {E : tk_E} {L K : List tk_V} {M : tk_M} {cs ss : Nat} {w : tk_A} : ∀ (es : tk_E) (k : Nat) (xs : List tk_Lx), tk_ww n0 (E, L, K, M, cs, ss) w k es xs = tk_ww n0 (E, L, K, M, 0, 0) w k es xs
  | [], _, _ => rfl
  | e :: es, k, xs => by
    unfold tk_ww
    have h1 : tk_w1 n0 (E, L, K, M, cs, ss) w xs k e = tk_w1 n0 (E, L, K, M, 0, 0) w xs k e := rfl
    rw [h1]
    cases tk_w1 n0 (E, L, K, M, 0, 0) w xs k e with
    | none => rfl
    | some x => exact tm_wwU es (k + 1) (xs ++ [x])
theorem tm_wiU {n0 : Nat} {E : tk_E} {L K : List tk_V} {M : tk_M} {cs ss : Nat} {w : tk_A} {xs : List tk_Lx} (h : tk_wi n0 0 0 w (E, L, K, M, 0, 0) = some xs) : tk_wi n0 cs ss w (E, L, K, M, cs, ss) = some xs := by
  unfold tk_wi at h ⊢
  rw [tm_wwU]
  split at h
  · split at h
    · rename_i hc
      cases h
      rw [if_pos ?_]
      simp only [Bool.and_eq_true] at hc ⊢
      exact ⟨⟨hc.1.1, Nat.ble_eq_true_of_le (Nat.le_refl _)⟩, Nat.ble_eq_true_of_le (Nat.le_refl _)⟩
    · cases h
  · cases h
theorem tm_apU {T : tk_T} {k : tk_K} {xs : List tk_Lx} {K' : List tk_V} {E : tk_E} {L K : List tk_V} {M : tk_M} {cs ss : Nat} {w : tk_A} {r : tk_S} (h : tk_ap1 T k xs K' (E, L, K, M, 0, 0) w = some r) : tk_ap1 T k xs K' (E, L, K, M, cs, ss) w = some (r.1, r.2.1, r.2.2.1, r.2.2.2.1, cs + (tk_Tmi T k.1).2.2.1, ss + (tk_Tmi T k.1).2.2.2.1) := by
  unfold tk_ap1 at h ⊢
  split at h
  · rename_i E' Kp Mp e1 e2 e3
    have e1 : tk_rE (tk_E0 k).length E.length xs 0 w.1 = some E' := e1
    have e2 : tk_rK (tk_E0 k).length E.length xs w.2.2.1 = some Kp := e2
    have e3 : tk_rM (tk_E0 k).length E.length xs w.2.2.2.1 = some Mp := e3
    cases h
    dsimp only
    rw [e1, e2, e3]
  · cases h
theorem tm_apLU {T : tk_T} {k : tk_K} {xs : List tk_Lx} {K' : List tk_V} {S : tk_S} : ∀ {ps : List tk_A} {rs : List tk_S} {w : tk_A}, tk_apL T k xs K' S ps = some rs → w ∈ ps → ∃ r, (w, r) ∈ ps.zip rs ∧ tk_ap1 T k xs K' S w = some r
  | [], _, _, _, hw => by cases hw
  | w0 :: ps, rs, w, h, hw => by
    unfold tk_apL at h
    split at h
    · rename_i r rs' h1 h2
      cases h
      rcases List.mem_cons.mp hw with rfl | hw
      · exact ⟨r, by simp, h1⟩
      · obtain ⟨r', g1, g2⟩ := tm_apLU h2 hw
        exact ⟨r', by simp [g1], g2⟩
    · cases h
theorem tm_far.ok {F : List (Nat × Nat × Nat)} (h : tm_far F = true) (κ i : Nat) (hκ : κ = 50 ∨ κ = 51) : tk_iF F κ i = false := by
  unfold tm_far at h
  rw [Bool.and_eq_true] at h
  rw [Bool.eq_false_iff]
  intro hc
  obtain ⟨q, g1, g2⟩ := List.any_eq_true.mp hc
  simp only [Bool.and_eq_true] at g2
  have e1 := tk_bq g2.1.1
  have h1 := List.all_eq_true.mp h.2 q g1
  rcases hκ with rfl | rfl <;> · rw [e1] at h1; revert h1; decide
theorem tk_fr.dn {F : List (Nat × Nat × Nat)} {B0 B : tk_B} {ws ws' : va_W} (h : tk_fr F B ws ws') (hle : tk_le B0 B) : tk_fr F B0 ws ws' := fun j a κ hj => h j a κ (hle.at hj)
/-- meters[b] is 0 or below[12 b] is -1 -/
def tm_J1 (ws : va_W) (zm zb : Int) : Prop := ∀ b, b < 4 → tl_pl ws zm b = some (.int 0) ∨ tl_pl ws zb (12 * b) = some (.int (-1))
def tm_V (ρ : Nat → Int) (B0 : tk_B) (ws : va_W) : Prop := ((tl_kd B0 (ρ 5) 50 ∧ tl_kd B0 (ρ 6) 51) ∧ tl_kd B0 (ρ 7) 82 ∧ tl_kd B0 (ρ 8) 83 ∧ tl_kd B0 (ρ 9) 84) ∧ tm_J1 ws (ρ 5) (ρ 6) ∧ tl_J2 ws (ρ 7) (ρ 8) (ρ 9)
theorem tm_J1.far {F : List (Nat × Nat × Nat)} {B : tk_B} {ws ws' : va_W} {zm zb : Int} (h : tm_J1 ws zm zb) (hf : tk_fr F B ws ws') (hF : tm_far F = true) (h1 : tl_kd B zm 50) (h2 : tl_kd B zb 51) : tm_J1 ws' zm zb := fun b hb => by
  rw [tl_pl.fr hf h1 (tm_far.ok hF _ _ (Or.inl rfl)), tl_pl.fr hf h2 (tm_far.ok hF _ _ (Or.inr rfl))]
  exact h b hb
theorem tm_V.far {F : List (Nat × Nat × Nat)} {ρ : Nat → Int} {B0 : tk_B} {ws ws' : va_W} (h : tm_V ρ B0 ws) (hf : tk_fr F B0 ws ws') (hF : tm_far F = true) : tm_V ρ B0 ws' := by
  obtain ⟨⟨⟨k1, k2⟩, k3, k4, k5⟩, h1, h2⟩ := h
  refine ⟨⟨⟨k1, k2⟩, k3, k4, k5⟩, h1.far hf hF k1 k2, h2.far hf ?_ k3 k4 k5⟩
  unfold tm_far at hF
  rw [Bool.and_eq_true] at hF
  exact hF.1
def tm_sc (ρ : Nat → Int) (n : Nat) (xs : Nat → Int32) (C : List (tk_P × tk_P)) : Prop := ∀ q ∈ C, (q.1.1 < n ∧ q.2.1 < n) ∧ ρ q.2.1 + q.2.2 = (xs (ρ q.1.1 + q.1.2).toNat).toInt
theorem tm_sc.ext {ρ ρ' : Nat → Int} {n n' : Nat} {xs : Nat → Int32} {C : List (tk_P × tk_P)} (h : tm_sc ρ n xs C) (hg : tk_ag n ρ n' ρ') : tm_sc ρ' n' xs C := fun q hq => by
  obtain ⟨⟨h1, h2⟩, h3⟩ := h q hq
  refine ⟨⟨Nat.lt_of_lt_of_le h1 hg.1, Nat.lt_of_lt_of_le h2 hg.1⟩, ?_⟩
  rw [hg.2 _ h1, hg.2 _ h2]
  exact h3
theorem tm_fs.mem {i v : tk_P} : ∀ {C : List (tk_P × tk_P)}, tm_fs i C = some v → (i, v) ∈ C
  | [], h => by cases h
  | q :: C, h => by
    unfold tm_fs at h
    split at h
    · rename_i hq
      cases h
      rw [Bool.and_eq_true] at hq
      have e1 := tk_bq hq.1
      have e2 := of_decide_eq_true hq.2
      obtain ⟨⟨a, b⟩, v⟩ := q
      obtain ⟨a', b'⟩ := i
      dsimp only at e1 e2
      subst e1
      subst e2
      exact List.mem_cons_self
    · exact List.mem_cons_of_mem _ (tm_fs.mem h)
section TM
variable {p : Program} {l : Launch} {e : Env} {R : Room} {s : State} {m : MethodId} {args : Array Value} {below : List Frame} {meth : Method} {c : Code} {Q : State → Prop}
variable {D : va_G} {A : Nat → Prop} {H0 : Heap} {B0 : tk_B} {Ln : Nat} {xs : Nat → Int32} {nh : Nat} {ρh : Nat → Int}
/-- what stands fast while the law runs -/
def tm_C (p : Program) (R : Room) (s : State) (m : MethodId) (args : Array Value) (c : Code) (A : Nat → Prop) (H0 : Heap) (B0 : tk_B) (Ln : Nat) (xs : Nat → Int32) : Prop :=
  p.tables.exec = Jvm.exec ∧ c.code = tw_U.2.2.1 0 ∧ c.maxLocals = (tk_Tmi tt_T 0).1 ∧ s.vm.findClass (tw_U.1 (tk_Tmi tt_T 0).2.2.2.2.2.2.1) = some m.cls ∧ (∀ w ∈ tw_Ts, w.before args s = true) ∧ tk_Dx tw_NWs tw_TXs (tx_St A) B0.2.1 s H0 ∧ (∀ q, H0.size ≤ q → A q) ∧ ((tk_Tmi tt_T 0).2.2.1 ≤ R.cells ∧ (tk_Tmi tt_T 0).2.2.2.1 ≤ R.slots ∧ (tk_Tmi tt_T 0).2.2.2.2.1 ≤ R.frames ∧ (tk_Tmi tt_T 0).2.2.2.2.2.1 ≤ R.locals) ∧ B0.2.2.length + (tk_Tmi tt_T 0).2.2.1 ≤ 1000000000 ∧ va_X B0.1 Ln xs s H0 ∧ ¬ A B0.1 ∧ B0.1 < H0.size ∧ Ln ≤ 2147483647
theorem tm_C.x {n : Nat} {ρ : Nat → Int} (h : tm_C p R s m args c A H0 B0 Ln xs) (h1 : 1 < n) (h2 : ρ 1 = (Ln : Int)) : tk_Cx tt_T tw_U tw_Ts tw_NWs tw_TXs (tx_St A) 0 p R s m args meth c A H0 B0 n ρ := by
  obtain ⟨a1, a2, a3, a4, a5, a6, a7, a8, a9, a10, a11, a12, a13⟩ := h
  exact ⟨a1, a2, a3, a4, a5, a6, a7, a8, a9, fun _ => ⟨Ln, xs, a10, a11, a12, a13, h1, h2⟩⟩
/-- a state of the law's executor, and the machine's -/
def tm_G (D : va_G) (A : Nat → Prop) (s : State) (H0 : Heap) (B0 : tk_B) (Ln : Nat) (xs : Nat → Int32) (nh : Nat) (ρh : Nat → Int) (X : tm_X) (cs ss : Nat) (ρ : Nat → Int) (B : tk_B) (ws : va_W) (tys : List (ClassId × FieldType)) (H : Heap) (locs : List Loc) (ls : Array Slot) (lv : List (Nat × Value)) (st : List Value) : Prop :=
  tk_ok D tw_cl A s H0 (tk_TKT tt_T) [] B0 ws (tk_Tmi tt_T 0).1 (tm_S X cs ss) ρ B ws tys H locs ls lv st ∧ tk_ag nh ρh X.1.length ρ ∧ (10 ≤ nh ∧ ρh 1 = (Ln : Int)) ∧ tm_sc ρ X.1.length xs X.2.2.2.2 ∧ tm_V ρh B0 ws
def tm_J (p : Program) (l : Launch) (e : Env) (R : Room) (s : State) (m : MethodId) (args : Array Value) (below : List Frame) (meth : Method) (c : Code) (Q : State → Prop) (D : va_G) (A : Nat → Prop) (H0 : Heap) (B0 : tk_B) (Ln : Nat) (xs : Nat → Int32) (nh : Nat) (ρh : Nat → Int) (cs ss pc : Nat) (X : tm_X) : Prop :=
  ∀ (ρ : Nat → Int) (B : tk_B) (ws : va_W) (tys : List (ClassId × FieldType)) (H : Heap) (locs : List Loc) (ls : Array Slot) (lv : List (Nat × Value)) (st : List Value), tm_G D A s H0 B0 Ln xs nh ρh X cs ss ρ B ws tys H locs ls lv st → W p l e R s m args below meth c H locs cs ss Q (F0 m pc ls st)
variable {cs ss pc : Nat} {X : tm_X}
theorem tm_rb {cl : List vw_C} {KT : Nat → tk_G} {F F' : List (Nat × Nat × Nat)} {ws0 : va_W} {nL : Nat} {S : tk_S} {ρ : Nat → Int} {B : tk_B} {ws : va_W} {tys : List (ClassId × FieldType)} {H : Heap} {locs : List Loc} {ls : Array Slot} {lv : List (Nat × Value)} {st : List Value} (h : tk_ok D cl A s H0 KT F B0 ws0 nL S ρ B ws tys H locs ls lv st) : tk_ok D cl A s H0 KT F' B0 ws nL S ρ B ws tys H locs ls lv st := by
  obtain ⟨hE, h0, hL, hl, hst, hMm, hK, hPw, hD, hS, hC, hFr, hLe, hBl⟩ := h
  exact ⟨hE, h0, hL, hl, hst, hMm, hK, hPw, hD, hS, hC, hFr.self, hLe, hBl⟩
theorem tm_G.x {ρ : Nat → Int} {B : tk_B} {ws : va_W} {tys : List (ClassId × FieldType)} {H : Heap} {locs : List Loc} {ls : Array Slot} {lv : List (Nat × Value)} {st : List Value} (hC : tm_C p R s m args c A H0 B0 Ln xs) (hG : tm_G D A s H0 B0 Ln xs nh ρh X cs ss ρ B ws tys H locs ls lv st) : tk_Cx tt_T tw_U tw_Ts tw_NWs tw_TXs (tx_St A) 0 p R s m args meth c A H0 B0 X.1.length ρ := by
  obtain ⟨-, hg, ⟨h1, h2⟩, -⟩ := hG
  have := hg.1
  exact hC.x (by omega) (by rw [hg.2 1 (by omega)]; exact h2)
theorem tm_J.st {i : Instr} {n : Nat} {ns : List (Nat × tk_S)} (hC : tm_C p R s m args c A H0 B0 Ln xs) (hc : tt_cd 0 pc = some (i, n)) (hi : tm_i i = true) (h : tk_step tt_T [] 0 pc i n (tm_S X 0 0) = some ns) (k : ∀ q ∈ ns, tm_J p l e R s m args below meth c Q D A H0 B0 Ln xs nh ρh cs ss q.1 (tm_of q.2 X.2.2.2.2)) : tm_J p l e R s m args below meth c Q D A H0 B0 Ln xs nh ρh cs ss pc X := by
  intro ρ B ws tys H locs ls lv st hG
  have hX := hG.x (meth := meth) hC
  obtain ⟨hk, hg, h10, hsc, hv⟩ := hG
  have hs : tk_step tt_T [] 0 pc i n (tm_S X cs ss) = some (ns.map (tm_up cs ss)) := by
    unfold tm_S at h ⊢
    rw [tm_sh hi, h]
    rfl
  refine tk_step.ok (F := []) (B0 := B0) (ws0 := ws) (nA := X.1.length) (ρ0 := ρ) tw_V hX hc hs (fun q hq => ?_) ρ B ws tys H locs ls lv st hk tk_ag.rf
  obtain ⟨q', hq', rfl⟩ := List.mem_map.mp hq
  intro ρ' B' ws' tys' H' locs' ls' lv' st' hk' hg'
  exact k q' hq' ρ' B' ws' tys' H' locs' ls' lv' st' ⟨tm_rb hk', hg.tr hg', h10, hsc.ext hg', hv.far hk'.2.2.2.2.2.2.2.2.2.2.2.1 rfl⟩
theorem tm_J.ld {X' : tm_X} (hC : tm_C p R s m args c A H0 B0 Ln xs) (hc : tt_cd 0 pc = some (.iaload, 1)) (h : tm_ld X = some X') (k : tm_J p l e R s m args below meth c Q D A H0 B0 Ln xs nh ρh cs ss (pc + 1) X') : tm_J p l e R s m args below meth c Q D A H0 B0 Ln xs nh ρh cs ss pc X := by
  intro ρ B ws tys H locs ls lv st hG
  obtain ⟨hk, hg, h10, hsc, hv⟩ := hG
  obtain ⟨E, L, K, M, C⟩ := X
  obtain ⟨hE, h0, hL, hl, hst, hMm, hK, hPw, hD, hS, hCC, hFr, hLe, hBl⟩ := id hk
  have e2 : tk_env ρ E := hE
  have st2 : tk_stk ρ B E.length K st := hst
  have z2 : 0 < E.length ∧ ρ 0 = 0 := h0
  have g2 : tk_ag nh ρh E.length ρ := hg
  have sc2 : tm_sc ρ E.length xs C := hsc
  clear hE hst h0 hg hsc hk
  obtain ⟨a1, a2, a3, a4, a5, a6, a7, a8, a9, x1, x2, x3, x4⟩ := id hC
  unfold tm_ld at h
  dsimp only at h
  split at h
  · rename_i i d K2
    split at h
    · rename_i hcd
      obtain ⟨vi, st1, rfl, hlti, ⟨x, rfl, exi⟩, hst1⟩ := tk_stk.uncons st2
      obtain ⟨v, st', rfl, hlt, hvv, hst'⟩ := tk_stk.uncons hst1
      have hvv : v = .ref B.1 := hvv
      rw [hLe.1] at hvv
      subst hvv
      have hb1 := e2.at i
      obtain ⟨-, b2⟩ := tk_B2.ok e2 i.1 1
      have hr1 : ρ 1 = (Ln : Int) := by
        rw [g2.2 1 (by omega)]
        exact h10.2
      dsimp only at exi
      have hin : vp_in x Ln := vp_in_iff.mpr ⟨by omega, by omega⟩
      have hxi : (x.toNatClampNeg : Int) = ρ i.1 + i.2 := by
        rw [← exi]
        exact Int32.cast_toNatClampNeg x (by rw [Int32.le_iff_toInt_le]; show (0 : Int) ≤ _; omega)
      have hxn : (ρ i.1 + i.2).toNat = x.toNatClampNeg := by omega
      refine va_sld a1 a2 x1 x3 x2 hS hin (tw_V.1 0 pc _ _ hc) ?_
      split at h
      · rename_i vv hfs
        cases h
        obtain ⟨⟨f1, f2⟩, f3⟩ := sc2 _ (tm_fs.mem hfs)
        rw [hxn] at f3
        exact k ρ B ws tys H locs ls lv _ ⟨⟨e2, z2, hL, hl, ⟨f2, ⟨_, rfl, f3.symm⟩, hst'⟩, hMm, hK, hPw, hD, hS, hCC, hFr, hLe, hBl⟩, g2, h10, sc2, hv⟩
      · cases h
        have hpush := tl_push (t := 1) (z := (xs x.toNatClampNeg).toInt) (lo := -2147483648) (hi := 2147483647) (v := .int (xs x.toNatClampNeg)) (E := E) (L := L) (K := K2) (M := M) (cs := cs) (ss := ss) (st := st') ⟨e2, z2, hL, hl, hst', hMm, hK, hPw, hD, hS, hCC, hFr, hLe, hBl⟩ (kc_i32 _).1 (kc_i32 _).2 ⟨_, rfl, rfl⟩
        have hag : tk_ag E.length ρ (E ++ [((-2147483648 : Int), 2147483647, 0, 0, 0, (0 : Int))]).length (va_up ρ E.length (xs x.toNatClampNeg).toInt) := ⟨by simp, fun k hk => va_up_ne _ _ (Nat.ne_of_lt hk)⟩
        refine k _ B ws tys H locs ls lv _ ⟨hpush, g2.tr hag, h10, fun q hq => ?_, hv⟩
        rcases List.mem_cons.mp hq with rfl | hq
        · refine ⟨⟨Nat.lt_of_lt_of_le hlti hag.1, by simp⟩, ?_⟩
          dsimp only
          rw [va_up_self, va_up_ne _ _ (Nat.ne_of_lt hlti), hxn, Int.add_zero]
        · exact sc2.ext hag q hq
    · cases h
  · cases h
theorem tm_J.one {ns : List (Nat × tm_X)} (hC : tm_C p R s m args c A H0 B0 Ln xs) (h : tm_one pc X = some ns) (k : ∀ q ∈ ns, tm_J p l e R s m args below meth c Q D A H0 B0 Ln xs nh ρh cs ss q.1 q.2) : tm_J p l e R s m args below meth c Q D A H0 B0 Ln xs nh ρh cs ss pc X := by
  unfold tm_one at h
  split at h
  · rename_i hc
    obtain ⟨X', hX', rfl⟩ := Option.map_eq_some_iff.mp h
    exact tm_J.ld hC hc hX' (k _ List.mem_cons_self)
  · rename_i i n _ hc
    split at h
    · rename_i hi
      obtain ⟨ns', hn, rfl⟩ := Option.map_eq_some_iff.mp h
      exact tm_J.st hC hc hi hn (fun q hq => k _ (List.mem_map.mpr ⟨q, hq, rfl⟩))
    · cases h
  · cases h
end TM
