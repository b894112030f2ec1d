/-- what the tape tells: 0 go on, 1 wider states, 2 + k the contract k; wider states; places to be touched -/
abbrev tk_I : Type := Nat × List tk_A × List (tk_V × tk_V)
/-- a return, or the next states, or a method to be run: itself, its arguments, what is left on the stack, the states that its ends are put together to -/
abbrev tk_D : Type := (Unit ⊕ (List (Nat × tk_S) ⊕ (Nat × List tk_V × List tk_V × Option (List tk_A)))) × List tk_I
def tk_hx (T : tk_T) (y pc : Nat) (tp : List tk_I) : Option (Option (List tk_A) × List tk_I) := if tk_Thd T y pc = true then (match tp with
  | (0, _, _) :: tp' => some (none, tp')
  | (1, ws, _) :: tp' => some (some ws, tp')
  | _ => none) else some (none, tp)
/-- a call -/
def tk_inv (T : tk_T) (F : List (Nat × Nat × Nat)) (sc nt : Nat) (Ks : Nat → Option tk_K) (y pc : Nat) (S : tk_S) (i : Instr) (n : Nat) (tp : List tk_I) : Option tk_D := match tk_Tlk T (tk_Tmi T y).2.2.2.2.2.2.1 (kc_lnk i).1 with
  | some (4, _) => (match i with
    | .invokestatic _ => if (Nat.beq n 3 && Nat.ble 1 (tk_Tmi T y).2.2.2.2.1 && Nat.ble 26 (tk_Tmi T y).2.2.2.2.2.1) = true then (tk_acp (tk_TKT T) F S.1 S.2.2.1 S.2.2.2.1).map fun r => (.inr (.inl [(pc + 3, S.1, S.2.1, r.1, r.2, S.2.2.2.2)]), tp) else none
    | _ => none)
  | _ => (match tp with
    | (0, _, _) :: tp' => (tk_cal T sc nt y i n S).map fun r => (.inr (.inr (r.1, r.2.1, r.2.2, none)), tp')
    | (1, ws, _) :: tp' => (tk_cal T sc nt y i n S).map fun r => (.inr (.inr (r.1, r.2.1, r.2.2, some ws)), tp')
    | (id + 2, _, ts) :: tp' => (match Ks id, tk_tcs (tk_TKT T) S.2.2.1 ts S.1 S.2.2.2.1 with
      | some k, some q => (match tk_cal T sc nt y i n (q.1, S.2.1, S.2.2.1, q.2, S.2.2.2.2) with
        | some r => if Nat.beq r.1 k.1 = true then (tk_app T F k r.2.1 r.2.2 (q.1, S.2.1, S.2.2.1, q.2, S.2.2.2.2)).map fun rs => (.inr (.inl (rs.map fun r => (pc + 3, r))), tp') else none
        | none => none)
      | _, _ => none)
    | [] => none)
/-- a new object of a kind, made whole -/
def tk_mke (T : tk_T) (nw : Nat → Nat × Nat × Nat × Nat) (y pc n : Nat) (S : tk_S) : Option (List (Nat × tk_S)) := match tk_Tnk T y pc with
  | some κ => if (Nat.beq n 3 && Nat.ble (S.2.2.2.2.1 + (nw κ).1) (tk_Tmi T y).2.2.1 && Nat.ble (S.2.2.2.2.2 + (nw κ).2.1) (tk_Tmi T y).2.2.2.1 && Nat.ble (nw κ).2.2.1 (tk_Tmi T y).2.2.2.2.1 && Nat.ble (nw κ).2.2.2 (tk_Tmi T y).2.2.2.2.2.1 && Nat.ble (tk_cat S.2.2.1) 6) = true then some [(pc + 7, S.1 ++ [(1, tk_CAP, 0, 0, 0, 0)], S.2.1, (10 + κ, S.1.length, 0) :: S.2.2.1, S.2.2.2.1, S.2.2.2.2.1 + (nw κ).1, S.2.2.2.2.2 + (nw κ).2.1)] else none
  | none => none
def tk_one (T : tk_T) (F : List (Nat × Nat × Nat)) (sc nt : Nat) (Ks : Nat → Option tk_K) (nw : Nat → Nat × Nat × Nat × Nat) (y pc : Nat) (S : tk_S) (tp : List tk_I) : Option tk_D := match (tk_Tsp T y pc).bind (tk_spl S) with
  | some rs => some (.inr (.inl (rs.map fun r => (pc, r))), tp)
  | none => match tk_Tcd T y pc with
    | some (i, n) => (match kc_kind i with
      | 1 => if tk_rok (tk_Trk T y) (tk_Tmi T y).2.2.1 (tk_Tmi T y).2.2.2.1 i n S = true then some (.inl (), tp) else none
      | 2 => tk_inv T F sc nt Ks y pc S i n tp
      | _ => (match i with
        | .new _ => (tk_mke T nw y pc n S).map fun ns => (.inr (.inl ns), tp)
        | i => (tk_step T F y pc i n S).map fun ns => (.inr (.inl ns), tp)))
    | none => none
def tk_lps (g : tk_A → List tk_I → Option (List (Nat × tk_S) × List tk_I)) : List tk_A → List tk_I → Option (List (tk_A × List (Nat × tk_S)) × List tk_I)
  | [], tp => some ([], tp)
  | w :: ws, tp => match g w tp with
    | some r => (match tk_lps g ws r.2 with
      | some z => some ((w, r.1) :: z.1, z.2)
      | none => none)
    | none => none
def tk_jS (T : tk_T) (y' : Nat) (S : tk_S) (w : tk_A) : tk_S := (S.1 ++ w.1, w.2.1, w.2.2.1, w.2.2.2.1, S.2.2.2.2.1 + (tk_Tmi T y').2.2.1, S.2.2.2.2.2 + (tk_Tmi T y').2.2.2.1)
/-- runs a method from some states to its ends (and to the heads that are open), as the tape tells -/
def tk_run (T : tk_T) (F : List (Nat × Nat × Nat)) (sc nt : Nat) (Ks : Nat → Option tk_K) (nw : Nat → Nat × Nat × Nat × Nat) : Nat → Nat → List Nat → List tk_I → List (Nat × tk_S) → List (Nat × tk_S) → Option (List (Nat × tk_S) × List tk_I)
  | 0, _, _, _, _, _ => none
  | _ + 1, _, _, tp, [], outs => some (outs, tp)
  | f + 1, y, op, tp, q :: rest, outs =>
    if op.contains q.1 = true then tk_run T F sc nt Ks nw f y op tp rest (q :: outs) else
    match tk_hx T y q.1 tp with
    | some (some ws, tp1) =>
      if (tk_hd q.2.1.length q.2.2.2.2.2.1 q.2.2.2.2.2.2 ws q.2 && ws.all (fun w => tk_mB (q.2.1 ++ w.1) w)) = true then
        match tk_lps (fun w tpw => match tk_one T F sc nt Ks nw y q.1 (tk_wS q.2 w) tpw with
          | some (.inr (.inl ns), tp2) => tk_run T F sc nt Ks nw f y (q.1 :: op) tp2 ns []
          | _ => none) ws tp1 with
        | some z => if z.1.all (fun r => r.2.all (fun o => decide (o.1 ≠ q.1) || tk_bk q.2.1.length q.2.2.2.2.2.1 q.2.2.2.2.2.2 ws r.1 o.2)) = true then tk_run T F sc nt Ks nw f y op z.2 rest ((z.1.flatMap fun r => r.2.filter fun o => decide (o.1 ≠ q.1)) ++ outs) else none
        | none => none
      else none
    | some (none, tp1) => match tk_one T F sc nt Ks nw y q.1 q.2 tp1 with
      | some (.inl _, tp2) => tk_run T F sc nt Ks nw f y op tp2 rest (q :: outs)
      | some (.inr (.inl ns), tp2) => tk_run T F sc nt Ks nw f y op tp2 (ns ++ rest) outs
      | some (.inr (.inr (y', as, K', none)), tp2) => (match tk_run T F sc nt Ks nw f y' [] tp2 [(0, q.2.1, tk_lc (tk_Tmi T y').1 as, [], q.2.2.2.2.1, 0, 0)] [] with
        | some z => tk_run T F sc nt Ks nw f y op z.2 ((z.1.map fun o => (q.1 + 3, tk_bh T y' q.2 K' o.2)) ++ rest) outs
        | none => none)
      | some (.inr (.inr (y', as, K', some ws)), tp2) => (match tk_run T F sc nt Ks nw f y' [] tp2 [(0, q.2.1, tk_lc (tk_Tmi T y').1 as, [], q.2.2.2.2.1, 0, 0)] [] with
        | some z => if z.1.all (fun o => tk_hd q.2.1.length (tk_bh T y' q.2 K' o.2).2.2.2.2.1 (tk_bh T y' q.2 K' o.2).2.2.2.2.2 ws (tk_bh T y' q.2 K' o.2)) = true then tk_run T F sc nt Ks nw f y op z.2 ((ws.map fun w => (q.1 + 3, tk_jS T y' q.2 w)) ++ rest) outs else none
        | none => none)
      | none => none
    | none => none
theorem tk_lps.ok {g : tk_A → List tk_I → Option (List (Nat × tk_S) × List tk_I)} : ∀ {ws : List tk_A} {tp : List tk_I} {z : List (tk_A × List (Nat × tk_S)) × List tk_I}, tk_lps g ws tp = some z → ∀ w ∈ ws, ∃ (os : List (Nat × tk_S)) (t1 t2 : List tk_I), (w, os) ∈ z.1 ∧ g w t1 = some (os, t2)
  | [], _, _, _, w, hw => by cases hw
  | w0 :: ws, tp, z, h, w, hw => by
    unfold tk_lps at h
    split at h
    · rename_i r hr
      split at h
      · rename_i z' hz
        cases h
        rcases List.mem_cons.mp hw with rfl | hw
        · exact ⟨r.1, tp, r.2, List.mem_cons_self, hr⟩
        · obtain ⟨os, t1, t2, g1, g2⟩ := tk_lps.ok hz w hw
          exact ⟨os, t1, t2, List.mem_cons_of_mem _ g1, g2⟩
      · cases h
    · cases h
theorem tk_lps.of {g : tk_A → List tk_I → Option (List (Nat × tk_S) × List tk_I)} : ∀ {ws : List tk_A} {tp : List tk_I} {z : List (tk_A × List (Nat × tk_S)) × List tk_I}, tk_lps g ws tp = some z → ∀ r ∈ z.1, ∃ (t1 t2 : List tk_I), g r.1 t1 = some (r.2, t2)
  | [], _, _, h, r, hr => by
    cases h
    cases hr
  | w0 :: ws, tp, z, h, r, hr => by
    unfold tk_lps at h
    split at h
    · rename_i r0 hr0
      split at h
      · rename_i z' hz
        cases h
        rcases List.mem_cons.mp hr with rfl | hr
        · exact ⟨tp, _, hr0⟩
        · exact tk_lps.of hz r hr
      · cases h
    · cases h
