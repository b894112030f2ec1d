/-! ===== the law's start, up to its head ===== -/
def te_eqG (g h : kc_G) : Bool := decide (g.1 = h.1 ∧ g.2.1 = h.2.1 ∧ g.2.2.1 = h.2.2.1 ∧ g.2.2.2.1 = h.2.2.2.1 ∧ g.2.2.2.2.1 = h.2.2.2.2.1) && decide (g.2.2.2.2.2.1 = h.2.2.2.2.2.1) && decide (g.2.2.2.2.2.2 = h.2.2.2.2.2.2)
def te_eqH : List kc_G → List kc_G → Bool
  | [], [] => true
  | g :: gs, h :: hs => te_eqG g h && te_eqH gs hs
  | _, _ => false
def te_eqS (S W : kc_S) : Bool := decide (S.1 = W.1) && decide (S.2.1 = W.2.1) && decide (S.2.2.1 = W.2.2.1) && te_eqH S.2.2.2.1 W.2.2.2.1 && decide (S.2.2.2.2 = W.2.2.2.2)
theorem te_eqH.ok : ∀ {a b : List kc_G}, te_eqH a b = true → a = b
  | [], [], _ => rfl
  | (a1, a2, a3, a4, a5, a6, a7) :: gs, (b1, b2, b3, b4, b5, b6, b7) :: hs, h => by
    unfold te_eqH te_eqG at h
    simp only [Bool.and_eq_true, decide_eq_true_eq] at h
    obtain ⟨⟨⟨⟨rfl, rfl, rfl, rfl, rfl⟩, rfl⟩, rfl⟩, h2⟩ := h
    rw [te_eqH.ok h2]
  | [], _ :: _, h => by cases h
  | _ :: _, [], h => by cases h
theorem te_eqS.ok {S W : kc_S} (h : te_eqS S W = true) : S = W := by
  obtain ⟨a1, a2, a3, a4, a5⟩ := S
  obtain ⟨b1, b2, b3, b4, b5⟩ := W
  unfold te_eqS at h
  simp only [Bool.and_eq_true, decide_eq_true_eq] at h
  obtain ⟨⟨⟨⟨rfl, rfl⟩, rfl⟩, h4⟩, rfl⟩ := h
  rw [te_eqH.ok h4]
set_option maxRecDepth 100000 in
theorem te_e0 : (match kc_run kt_T 3000 0 [18] [(0, kt_S0)] [] with
  | some os => os.all (fun o => Nat.beq o.1 18 && te_eqS o.2 kt_S1)
  | none => false) = true := by decide +kernel
/-- what a place holds, there: the cell's kind, its number less 1, the place, the value's type and number; the cell's symbol, the value's -/
abbrev te_Q : Type := Nat × Nat × Nat × Nat × Int × (Nat × Int) × (Nat × Int)
def te_vl (g : kc_G) (i : Nat) : Option kc_F := match g.1 with
  | 0 => (match g.2.2.2.2.2.2[i]? with
    | some a => if (Nat.beq a.2.1 0 && (Nat.beq a.1 1 || Nat.beq a.1 3)) = true then some (a.1, a.2.2, a.2.2) else none
    | none => none)
  | 1 => if i < g.2.2.2.1 then some (g.2.2.2.2.2.1.getD i g.2.2.2.2.1) else none
  | 3 => if i < g.2.2.2.1 then some (g.2.2.2.2.2.1.getD i g.2.2.2.2.1) else none
  | _ => none
theorem te_vl.ok {g : kc_G} {i : Nat} {f : kc_F} {ρ : Nat → Int} {β : Nat → Nat} {N n : Nat} {tys : List (ClassId × FieldType)} {e : va_E} (h : te_vl g i = some f) (h0 : ρ 0 = 0) (he : kc_e ρ β N n tys g e) : ∃ v : Value, tk_pl e i = some v ∧ kc_t β N f v := by
  unfold te_vl at h
  unfold kc_e at he
  split at h
  · rename_i e0
    rw [e0] at he
    obtain ⟨fs, rfl, f1, f2⟩ := he
    split at h
    · rename_i a ha
      split at h
      · rename_i hc
        cases h
        rw [Bool.and_eq_true, Bool.or_eq_true] at hc
        obtain ⟨c1, c2⟩ := hc
        have c1 := Nat.eq_of_beq_eq_true c1
        have hi : i < fs.length := by
          rw [f1]
          exact (List.getElem?_eq_some_iff.mp ha).1
        obtain ⟨-, hv⟩ := f2 i a fs[i] ha (List.getElem?_eq_getElem hi)
        refine ⟨fs[i], List.getElem?_eq_getElem hi, ?_⟩
        obtain ⟨a1, a2, a3⟩ := a
        dsimp only at c1
        subst c1
        exact te_v h0 (by
          rcases c2 with c2 | c2
          · exact Or.inl (Nat.eq_of_beq_eq_true c2)
          · exact Or.inr (Or.inr (Nat.eq_of_beq_eq_true c2))) hv
      · cases h
    · cases h
  · rename_i e0
    rw [e0] at he
    obtain ⟨cA, t0, hh, rfl, -, e3⟩ := he
    split at h
    · rename_i hi
      cases h
      exact ⟨.int (hh i), if_pos hi, e3 i hi⟩
    · cases h
  · rename_i e0
    rw [e0] at he
    obtain ⟨cA, t0, hh, rfl, -, e3⟩ := he
    split at h
    · rename_i hi
      cases h
      exact ⟨va_rf (hh i), if_pos hi, e3 i hi⟩
    · cases h
  · cases h
def te_ff (q : te_Q) : Bool := match te_lk[q.2.1]?, kt_H[q.2.1]? with
  | some κ, some g => Nat.beq κ q.1 && (match te_vl g q.2.2.1 with
    | some f => decide (f.2.1 = q.2.2.2.2.1) && decide (f.2.2 = q.2.2.2.2.1) && ((Nat.beq f.1 1 && Nat.beq q.2.2.2.1 1) || (Nat.beq f.1 3 && Nat.ble 10 q.2.2.2.1 && (decide (q.2.2.2.2.1 = 0) || (decide (1 ≤ q.2.2.2.2.1) && decide (te_lk[(q.2.2.2.2.1 - 1).toNat]? = some (q.2.2.2.1 - 10))))))
    | none => false)
  | _, _ => false
theorem te_len : kt_H.length = te_lk.length := (te_H.ok te_law).1
theorem te_ff.ok {q : te_Q} {ρ : Nat → Int} {β : Nat → Nat} {n b : Nat} {ad : Nat → Nat} {tys : List (ClassId × FieldType)} {ws : va_W} (h : te_ff q = true) (h0 : ρ 0 = 0) (hC : kc_C ρ β n tys kt_H ws) : tk_fa (te_U (b, ad, []) β te_lk) ws (10 + q.1) ((q.2.1 : Int) + 1) (q.2.2.1 : Int) q.2.2.2.1 q.2.2.2.2.1 := by
  obtain ⟨κ0, k, i, t, z, so, sv⟩ := q
  unfold te_ff at h
  dsimp only at h ⊢
  split at h
  · rename_i κ g hκ hg
    rw [Bool.and_eq_true] at h
    obtain ⟨h1, h3⟩ := h
    have h1 := Nat.eq_of_beq_eq_true h1
    subst h1
    split at h3
    · rename_i f hf
      rw [Bool.and_eq_true, Bool.and_eq_true] at h3
      obtain ⟨⟨a1, a2⟩, a3⟩ := h3
      have c1 := of_decide_eq_true a1
      have c2 := of_decide_eq_true a2
      obtain ⟨e, e1, e2⟩ := hC.2 k g hg
      obtain ⟨v, v1, v2⟩ := te_vl.ok hf h0 e2
      have hB : (te_U (b, ad, []) β te_lk).2.2 = te_B β 0 te_lk := List.nil_append _
      refine ⟨k, β (0 + k + 1), e, v, by omega, ?_, rfl, by rw [e1, Nat.zero_add], by omega, ?_, ?_⟩
      · rw [hB, te_B.at, hκ, show 10 + κ - 10 = κ by omega]
        rfl
      · rw [Int.toNat_natCast]
        exact v1
      · unfold kc_t at v2
        rw [Bool.or_eq_true, Bool.and_eq_true] at a3
        rcases a3 with ⟨b1, b2⟩ | b3
        · have d1 := Nat.eq_of_beq_eq_true b1
          have d2 := Nat.eq_of_beq_eq_true b2
          rw [d1] at v2
          subst d2
          obtain ⟨x, x1, x2, x3⟩ := v2
          exact ⟨x, x1, by omega⟩
        · rw [Bool.and_eq_true, Bool.and_eq_true] at b3
          obtain ⟨⟨b1, b2⟩, b4⟩ := b3
          have d1 := Nat.eq_of_beq_eq_true b1
          have d2 := Nat.le_of_ble_eq_true b2
          rw [d1] at v2
          rw [Bool.or_eq_true] at b4
          rcases v2 with ⟨w1, w2, w3⟩ | ⟨r, r1, r2, r3, r4, r5⟩
          · exact (tk_vn.ref d2).mpr (Or.inl ⟨w1, by omega⟩)
          · rcases b4 with b4 | b4
            · have := of_decide_eq_true b4
              omega
            · rw [Bool.and_eq_true] at b4
              have d3 := of_decide_eq_true b4.1
              have d4 := of_decide_eq_true b4.2
              refine (tk_vn.ref d2).mpr (Or.inr ⟨r - 1, β r, r1, ?_, by omega⟩)
              rw [hB, te_B.at, ← show (z - 1).toNat = r - 1 by omega, d4, show 0 + (z - 1).toNat + 1 = r by omega]
              rfl
    · cases h3
  · cases h
theorem te_kd {κ k : Nat} {β : Nat → Nat} {b : Nat} {ad : Nat → Nat} (h : te_lk[k]? = some κ) : tl_kd (te_U (b, ad, []) β te_lk) ((k : Int) + 1) κ := ⟨k, β (0 + k + 1), rfl, by
  show ([] ++ te_B β 0 te_lk)[k]? = _
  rw [List.nil_append, te_B.at, h]
  rfl⟩
/-- an array of ints, all 0 as yet -/
theorem te_zero {ρ : Nat → Int} {β : Nat → Nat} {n k N j : Nat} {tys : List (ClassId × FieldType)} {ws : va_W} (hC : kc_C ρ β n tys kt_H ws) (hg : kt_H[k]? = some (1, 0, .int, N, (1, 0, 0), [], [])) (hj : j < N) : tl_pl ws ((k : Int) + 1) j = some (.int 0) := by
  obtain ⟨e, e1, cA, t0, h, rfl, -, e3⟩ := hC.2 k _ hg
  unfold tl_pl
  rw [show ((k : Int) + 1 - 1).toNat = k by omega, e1]
  show (if j < N then some (Value.int (h j)) else none) = _
  rw [if_pos hj]
  obtain ⟨x, x1, x2, x3⟩ := e3 j hj
  rw [x1]
  have : x = 0 := Int32.toInt_inj.mp (by
    have y2 : (0 : Int) ≤ x.toInt := x2
    have y3 : x.toInt ≤ (0 : Int) := x3
    have : (0 : Int32).toInt = 0 := rfl
    omega)
  rw [this]
def te_zs : List Int := [0, 0, 1, 211, 181, 218, 219, 250, 251, 252, 0, 182, 183, 184, 200, 203, 0, 0, 0, 0, 0, 0, 0, 0, 0, 0, 0, 0, 212, 213, -1, -1, -1, -1]
def te_ρ (Ln : Nat) : Nat → Int := fun k => if k = 1 then (Ln : Int) else te_zs.getD k 0
def te_qs : List te_Q := [(0, 0, 12, 43, 181, (2, 0), (4, 0)), (33, 180, 0, 44, 182, (4, 0), (11, 0)), (33, 180, 1, 46, 183, (4, 0), (12, 0)), (33, 180, 2, 46, 184, (4, 0), (13, 0)), (43, 210, 17, 60, 218, (3, 0), (5, 0)), (43, 210, 18, 61, 219, (3, 0), (6, 0)), (43, 210, 52, 92, 250, (3, 0), (7, 0)), (43, 210, 53, 93, 251, (3, 0), (8, 0)), (43, 210, 54, 94, 252, (3, 0), (9, 0)), (33, 180, 7, 1, 0, (4, 0), (0, 0)), (0, 0, 13, 14, 200, (2, 0), (14, 0)), (4, 199, 0, 51, 203, (14, 0), (15, 0)), (4, 199, 1, 51, 205, (14, 0), (15, 2)), (4, 199, 2, 51, 207, (14, 0), (15, 4)), (4, 199, 3, 51, 209, (14, 0), (15, 6)), (41, 202, 1, 1, 0, (15, 0), (16, 0)), (41, 204, 1, 1, 0, (15, 2), (17, 0)), (41, 206, 1, 1, 0, (15, 4), (18, 0)), (41, 208, 1, 1, 0, (15, 6), (19, 0)), (41, 202, 2, 1, 0, (15, 0), (20, 0)), (41, 204, 2, 1, 0, (15, 2), (21, 0)), (41, 206, 2, 1, 0, (15, 4), (22, 0)), (41, 208, 2, 1, 0, (15, 6), (23, 0)), (41, 202, 3, 1, 0, (15, 0), (24, 0)), (41, 204, 3, 1, 0, (15, 2), (25, 0)), (41, 206, 3, 1, 0, (15, 4), (26, 0)), (41, 208, 3, 1, 0, (15, 6), (27, 0)), (43, 210, 1, 54, 212, (3, 0), (28, 0)), (43, 210, 2, 55, 213, (3, 0), (29, 0)), (44, 211, 0, 1, (-1), (28, 0), (30, 0)), (44, 211, 1, 1, (-1), (28, 0), (31, 0)), (44, 211, 2, 1, (-1), (28, 0), (32, 0)), (44, 211, 3, 1, (-1), (28, 0), (33, 0)), (45, 212, 0, 1, 0, (29, 0), (24, 0)), (45, 212, 1, 1, 0, (29, 0), (25, 0)), (45, 212, 2, 1, 0, (29, 0), (26, 0)), (45, 212, 3, 1, 0, (29, 0), (27, 0))]
set_option maxRecDepth 100000 in
theorem te_qs1 : te_qs.all te_ff = true := by decide +kernel
def te_m (q : te_Q) : tk_V × tk_V × tk_V := ((10 + q.1, q.2.2.2.2.2.1), (1, 0, (q.2.2.1 : Int)), (q.2.2.2.1, q.2.2.2.2.2.2))
theorem te_qs0 : (tp_h false false).2.2.2.1 = te_qs.map te_m := by decide +kernel
theorem te_qs2 : te_qs.all (fun q => decide (q.2.2.2.2.2.1.1 < tp_n ∧ q.2.2.2.2.2.1.1 ≠ 1 ∧ te_zs.getD q.2.2.2.2.2.1.1 0 + q.2.2.2.2.2.1.2 = (q.2.1 : Int) + 1 ∧ q.2.2.2.2.2.2.1 < tp_n ∧ q.2.2.2.2.2.2.1 ≠ 1 ∧ te_zs.getD q.2.2.2.2.2.2.1 0 + q.2.2.2.2.2.2.2 = q.2.2.2.2.1)) = true := by decide +kernel
theorem te_zl : te_zs.length = tp_n ∧ (tp_h false false).1.length = tp_n ∧ 10 < tp_n := by decide +kernel
theorem te_R0 : tp_rels.all (fun it => it.any (fun b => b.all (fun q => decide (q.1 ≠ 1 ∧ q.2.1 ≤ te_zs.getD q.1 0 ∧ te_zs.getD q.1 0 ≤ q.2.2)))) = true := by decide +kernel
theorem te_R {Ln : Nat} : tp_R (te_ρ Ln) := fun it hit => by
  obtain ⟨b, hb, h⟩ := List.any_eq_true.mp (List.all_eq_true.mp te_R0 it hit)
  refine ⟨b, hb, fun q hq => ?_⟩
  obtain ⟨h1, h2, h3⟩ := of_decide_eq_true (List.all_eq_true.mp h q hq)
  rw [show te_ρ Ln q.1 = te_zs.getD q.1 0 from if_neg h1]
  exact ⟨h2, h3⟩
theorem te_hs : kt_H[217]? = some (1, 0, .int, 5, (1, 0, 0), [], []) ∧ kt_H[249]? = some (1, 0, .int, 4, (1, 0, 0), [], []) := ⟨rfl, rfl⟩
theorem te_ls : (te_lk[0]? = some 0 ∧ te_lk[210]? = some 43) ∧ te_lk[217]? = some 50 ∧ te_lk[218]? = some 51 ∧ te_lk[249]? = some 82 ∧ te_lk[250]? = some 83 ∧ te_lk[251]? = some 84 := by decide +kernel
theorem te_ll : te_lk.length = 261 := by decide +kernel
theorem te_en : (List.range tp_n).all (fun n => Nat.beq n 1 || decide ((tk_at (tp_h false false).1 n).1 ≤ te_zs.getD n 0 ∧ te_zs.getD n 0 ≤ (tk_at (tp_h false false).1 n).2.1 ∧ (tk_at (tp_h false false).1 n).2.2.1 = 0)) = true := by decide +kernel
set_option maxHeartbeats 4000000 in
theorem te_head {D : va_G} {A : Nat → Prop} {s : State} {H0 : Heap} {ρ : Nat → Int} {β : Nat → Nat} {ws : va_W} {tys : List (ClassId × FieldType)} {H : Heap} {locs : List Loc} {ls : Array Slot} {lv : List (Nat × Value)} {st : List Value} {b Ln : Nat} {xs : Nat → Int32} {ad : Nat → Nat} (hk : kc_ok D tw_cl A s H0 (kc_Tmi kt_T 0).1 kt_S1.1 kt_S1.2.1 kt_S1.2.2.1 kt_S1.2.2.2.1 ρ β ws tys H locs ls lv st) (hb : β 0 = b) (hL : Ln ≤ 3072) : tm_G D A s H0 (te_U (b, ad, []) β te_lk) Ln xs 10 (te_ρ Ln) (tp_h false false) 261 122554 (te_ρ Ln) (te_U (b, ad, []) β te_lk) ws tys H locs ls lv st := by
  obtain ⟨-, h0, hl, hls, hst, hK, hPw, hD, hS, hC⟩ := hk
  have h0 : ρ 0 = 0 := h0.2
  have hC : kc_C ρ β kt_S1.1.length tys kt_H ws := hC
  have hl : kc_loc ρ β kt_H.length 2 [(5, 0, 0), (3, 0, 1), (3, 0, 211), (1, 0, 0)] lv := hl
  have hlen : (te_U (b, ad, []) β te_lk).2.2.length = 261 := by
    show ([] ++ te_B β 0 te_lk).length = 261
    rw [List.nil_append, te_B.len, te_ll]
  have hCC : tk_C (tk_TKT tt_T) tys (te_U (b, ad, []) β te_lk) ws := by
    have := te_C (KT := tk_TKT tt_T) (ks := te_lk) (tys := []) (ws := []) (B := (b, ad, [])) te_law h0 (by rw [te_ll]; exact Nat.le_of_ble_eq_true rfl) ⟨rfl, fun j a κ h => by simp at h⟩ hC
    simpa using this
  have rr : ∀ k, k ≠ 1 → te_ρ Ln k = te_zs.getD k 0 := fun k hk => if_neg hk
  have kd : ∀ (r κ : Nat), te_lk[r]? = some κ → ∀ v : Value, kc_v ρ β kt_H.length (3, 0, (r : Int) + 1) v → tk_vn (te_U (b, ad, []) β te_lk) (10 + κ) ((r : Int) + 1) v := fun r κ hr v hv => by
    unfold kc_v at hv
    dsimp only at hv
    rw [h0] at hv
    rcases hv with ⟨-, y⟩ | ⟨r', r1, -, -, r4⟩
    · omega
    · have : r' = r + 1 := by omega
      subst this
      refine (tk_vn.ref (by omega)).mpr (Or.inr ⟨r, β (r + 1), r1, ?_, rfl⟩)
      show ([] ++ te_B β 0 te_lk)[r]? = _
      rw [List.nil_append, te_B.at, hr, show 10 + κ - 10 = κ by omega, Nat.zero_add]
      rfl
  refine ⟨⟨fun n => ?_, ⟨by show 0 < (tp_h false false).1.length; rw [te_zl.2.1]; decide, rfl⟩, fun i a ha hne => ?_, hls, ?_, fun f hf => ?_, hK, hPw, hD, hS, hCC, fun j a κ hj => ?_, tk_le.rf _, Nat.le_add_right _ _⟩, ⟨by show 10 ≤ (tp_h false false).1.length; rw [te_zl.2.1]; decide, fun _ _ => rfl⟩, ⟨Nat.le_refl _, rfl⟩, fun q hq => absurd hq List.not_mem_nil, ⟨⟨⟨te_kd te_ls.2.1, te_kd te_ls.2.2.1⟩, te_kd te_ls.2.2.2.1, te_kd te_ls.2.2.2.2.1, te_kd te_ls.2.2.2.2.2⟩, fun k hk => Or.inl (te_zero hC te_hs.1 (by omega)), fun k hk cnt hc => ?_⟩⟩
  · by_cases e1 : n = 1
    · subst e1
      refine ⟨?_, ?_, fun h => absurd h (by decide), fun h => absurd h (by decide), fun h => absurd h (by decide)⟩
      · show (0 : Int) ≤ (Ln : Int)
        omega
      · show (Ln : Int) ≤ (3072 : Int)
        omega
    · by_cases e2 : n < tp_n
      · have hq := List.all_eq_true.mp te_en n (List.mem_range.mpr e2)
        rw [Bool.or_eq_true] at hq
        rcases hq with hq | hq
        · exact absurd (Nat.eq_of_beq_eq_true hq) e1
        · obtain ⟨q1, q2, q3⟩ := of_decide_eq_true hq
          rw [rr n e1]
          have q3 : (tk_at (tm_S (tp_h false false) 261 122554).1 n).2.2.1 = 0 := q3
          exact ⟨q1, q2, fun h => by rw [q3] at h; omega, fun h => by rw [q3] at h; omega, fun h => by rw [q3] at h; omega⟩
      · rw [show tk_at (tm_S (tp_h false false) 261 122554).1 n = (0, 0, 0, 0, 0, 0) from tk_at.out (by show (tp_h false false).1.length ≤ n; rw [te_zl.2.1]; omega), rr n e1, show te_zs.getD n 0 = 0 by rw [List.getD_eq_getElem?_getD, List.getElem?_eq_none (by rw [te_zl.1]; omega)]; rfl]
        exact ⟨Int.le_refl _, Int.le_refl _, fun h => by dsimp only at h; omega, fun h => by dsimp only at h; omega, fun h => by dsimp only at h; omega⟩
  · match i, ha with
    | 0, ha =>
      cases ha
      obtain ⟨-, v, v1, v2⟩ := hl 0 _ rfl (by decide)
      have v2 : v = .ref (β 0) := v2
      exact ⟨by decide, v, v1, by rw [hb] at v2; exact v2⟩
    | 1, ha =>
      cases ha
      obtain ⟨-, v, v1, v2⟩ := hl 1 _ rfl (by decide)
      exact ⟨by decide, v, v1, kd 0 0 te_ls.1.1 v v2⟩
    | 2, ha =>
      cases ha
      obtain ⟨-, v, v1, v2⟩ := hl 2 _ rfl (by decide)
      exact ⟨by decide, v, v1, kd 210 43 te_ls.1.2 v v2⟩
    | 3, ha =>
      cases ha
      obtain ⟨-, v, v1, x, x1, x2⟩ := hl 3 _ rfl (by decide)
      exact ⟨by decide, v, v1, x, x1, by rw [x2, h0]; rfl⟩
    | n + 4, ha => exact absurd ha (by simp [tm_S, tp_h, tp_w, tm_w])
  · cases st with
    | nil => trivial
    | cons _ _ => exact absurd hst id
  · have hf : f ∈ (tp_h false false).2.2.2.1 := hf
    rw [te_qs0] at hf
    obtain ⟨q, q1, rfl⟩ := List.mem_map.mp hf
    obtain ⟨c1, c2, c3, c4, c5, c6⟩ := of_decide_eq_true (List.all_eq_true.mp te_qs2 q q1)
    refine ⟨⟨by show _ < (tp_h false false).1.length; rw [te_zl.2.1]; exact c1, show 0 < (tp_h false false).1.length by rw [te_zl.2.1]; decide, c4⟩, ?_⟩
    have := te_ff.ok (b := b) (ad := ad) (List.all_eq_true.mp te_qs1 q q1) h0 hC
    unfold te_m
    dsimp only
    rw [rr _ c2, rr _ c5, c3, c6, rr 0 (by decide), show te_zs.getD 0 0 = 0 from rfl, Int.zero_add]
    exact this
  · obtain ⟨e, e1, -⟩ := hCC.2 j a κ hj
    exact ⟨e, e, e1, e1, fun _ _ => rfl⟩
  · have hz := te_zero hC te_hs.2 hk
    have hz : tl_pl ws (te_ρ Ln 7) k = some (.int 0) := hz
    rw [hz] at hc
    cases hc
    intro i j _ h2
    exfalso
    have : (0 : Int32).toInt = 0 := rfl
    omega
