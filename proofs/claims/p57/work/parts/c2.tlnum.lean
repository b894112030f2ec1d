theorem tx_wP : Jvm.Cond.fieldLink "WheelTown$Meter" 48 "WheelTown$Meter" "POWERS" "[I" ∈ tw_Ts := tw_in.ok (h := (3, 164)) (by decide +kernel)
theorem tx_wC : Jvm.Cond.fieldLink "java/lang/String" 38 "java/lang/String" "COMPACT_STRINGS" "Z" ∈ tw_Ts := tw_in.ok (h := (3, 97)) (by decide +kernel)
theorem tx_wV : Jvm.Cond.fieldLink "java/lang/String" 9 "java/lang/String" "value" "[B" ∈ tw_Ts := tw_in.ok (h := (9, 205)) (by decide +kernel)
theorem tx_wK : Jvm.Cond.fieldLink "java/lang/String" 15 "java/lang/String" "coder" "B" ∈ tw_Ts := tw_in.ok (h := (9, 206)) (by decide +kernel)
def tx_fr (x : Int32) : Int32 := tx_bc ((x &&& -x) - 1)
def tx_chk (n : Nat) (b : Int) : Bool := (List.range n).all (fun j => decide (0 ≤ (tx_fr (nI (j + 1))).toInt ∧ (tx_fr (nI (j + 1))).toInt ≤ b))
theorem tx_chk.ok {n : Nat} {b : Int} (h : tx_chk n b = true) {x : Int32} (h1 : 1 ≤ x.toInt) (h2 : x.toInt ≤ (n : Int)) : 0 ≤ (tx_fr x).toInt ∧ (tx_fr x).toInt ≤ b := by
  obtain ⟨j, hj, e1, e2⟩ := kc_nn (x := x) (by omega)
  have h3 : (nI j).toInt = (j : Int) := nI_toInt hj
  rw [e1, h3] at h1 h2
  have h4 := of_decide_eq_true (List.all_eq_true.mp h (j - 1) (List.mem_range.mpr (by omega)))
  rw [show j - 1 + 1 = j by omega, ← e1] at h4
  exact h4
theorem tx_any (x : Int32) : 0 ≤ (tx_fr x).toInt ∧ (tx_fr x).toInt ≤ 63 := by
  unfold tx_fr tx_bc
  exact kc_and_le _ 63 (by decide)
set_option maxRecDepth 100000 in
theorem tx_c1 : tx_chk 1 0 = true := by decide +kernel
set_option maxRecDepth 100000 in
theorem tx_c3 : tx_chk 3 1 = true := by decide +kernel
set_option maxRecDepth 100000 in
theorem tx_c11 : tx_chk 2047 10 = true := by decide +kernel
set_option maxRecDepth 100000 in
theorem tx_c12 : tx_chk 4095 11 = true := by decide +kernel
set_option maxRecDepth 100000 in
theorem tx_c13 : tx_chk 8191 12 = true := by decide +kernel
section TG2
variable {D : va_G} {cl : List vw_C} {A : Nat → Prop} {s : State} {H0 : Heap} {KT : Nat → tk_G} {F : List (Nat × Nat × Nat)} {B0 : tk_B} {ws0 : va_W} {nL : Nat} {E : tk_E} {L K : List tk_V} {M : tk_M} {cs ss : Nat} {ρ : Nat → Int} {B : tk_B} {ws : va_W} {tys : List (ClassId × FieldType)} {H : Heap} {locs : List Loc} {ls : Array Slot} {lv : List (Nat × Value)} {st : List Value}
/-- a value more that symbols have already -/
theorem tl_pushv {a : tk_V} {v : Value} (hk : tk_ok D cl A s H0 KT F B0 ws0 nL (E, L, K, M, cs, ss) ρ B ws tys H locs ls lv st) (h1 : a.2.1 < E.length) (hv : tk_v ρ B a v) : tk_ok D cl A s H0 KT F B0 ws0 nL (E, L, a :: K, M, cs, ss) ρ B ws tys H locs ls lv (v :: st) := by
  obtain ⟨hE, h0, hL, hl, hst, hMm, hW⟩ := hk
  exact ⟨hE, h0, hL, hl, ⟨h1, hv, hst⟩, hMm, hW⟩
end TG2
section TK2
variable {l : Launch} {D : va_G} {A : Nat → Prop}
set_option maxHeartbeats 4000000 in
theorem tx_fb {lo hi bb : Int} (hbb : ∀ x : Int32, lo ≤ x.toInt → x.toInt ≤ hi → 0 ≤ (tx_fr x).toInt ∧ (tx_fr x).toInt ≤ bb) : tx_Con l D A (50, [(lo, hi, 0, 0, 0, 0)], [(1, 1, 0)], [], [([(0, bb, 0, 0, 0, 0)], [], [(1, 2, 0)], [], (0, 0), true)], []) := by
  refine tl_hand (pcR := 9) tw_V (tw_mv (y := 50) (by decide) (by decide)) (show (50 : Nat) ≠ 0 by decide) (Nat.le_of_ble_eq_true rfl) rfl ⟨.ireturn, 1, rfl, rfl⟩ ?_
  intro ρ B ws H p e s m args below meth c Q hX hH hJ
  intro ρ1 B1 ws1 tys H1 locs ls lv st hk hg
  obtain ⟨hE, h0, hL, hl, hst, hMm, hWW⟩ := id hk
  obtain ⟨hlt, v, hmem, x, rfl, hxv⟩ := hL 0 (1, 1, 0) rfl (by decide)
  cases st with
  | cons _ _ => exact absurd hst id
  | nil =>
    have hl0 := hl.2.2 (0, .int x) hmem
    have hx := hX.1
    have hb := hX.2.1
    have hr := (hE 1)
    have hr1 : lo ≤ ρ1 1 := hr.1
    have hr2 : ρ1 1 ≤ hi := hr.2.1
    have hxv : x.toInt = ρ1 1 + 0 := hxv
    obtain ⟨f1, f2⟩ := hbb x (by omega) (by omega)
    refine lv_iload_n hx hb (tw_V.1 50 0 _ _ (rfl : tt_cd 50 0 = some (.iload_n 0, 1))) rfl hl0 ?_
    refine lv_iload_n hx hb (tw_V.1 50 1 _ _ (rfl : tt_cd 50 1 = some (.iload_n 0, 1))) rfl hl0 ?_
    refine lv_ineg hx hb (tw_V.1 50 2 _ _ (rfl : tt_cd 50 2 = some (.ineg, 1))) ?_
    refine lv_iand hx hb (tw_V.1 50 3 _ _ (rfl : tt_cd 50 3 = some (.iand, 1))) ?_
    refine lv_iconst hx hb (tw_V.1 50 4 _ _ (rfl : tt_cd 50 4 = some (.iconst 1, 1))) rfl ?_
    refine lv_isub hx hb (tw_V.1 50 5 _ _ (rfl : tt_cd 50 5 = some (.isub, 1))) ?_
    have hz := tk_R1 ((x &&& -x) - Int32.ofInt 1)
    have hk6 := tl_push (t := 1) (lo := -2147483648) (hi := 2147483647) (v := .int ((x &&& -x) - Int32.ofInt 1)) hk hz.1 hz.2 ⟨_, rfl, rfl⟩
    refine tk_cal.ok (S := ([(0, 0, 0, 0, 0, 0), (lo, hi, 0, 0, 0, 0), (-2147483648, 2147483647, 0, 0, 0, 0)], tk_lc (tk_Tmi tt_T 50).1 [(1, 1, 0)], [(1, 2, 0)], [], 0, 0)) (y := 50) (pc := 6) (y' := 6) (as := [(1, 2, 0)]) (K' := []) (sc := tt_sc) (nt := tt_nt) tw_V tw_LV tw_Ts_good (tx_Sc A) (fun s H ad h k hk => tx_Tx h k hk) hX (rfl : tt_cd 50 6 = some (.invokestatic 134, 3)) rfl hk6 (fun vs rest q1 q2 c6 c2 hy0 hM => ?_)
    obtain ⟨v2, vs2, rfl, -, ⟨x2, rfl, e2⟩, q3⟩ := tk_stk.uncons q1
    cases vs2 with
    | cons _ _ => exact absurd q3 id
    | nil =>
      cases rest with
      | cons _ _ => exact absurd q2 id
      | nil =>
        have e3 : x2 = (x &&& -x) - Int32.ofInt 1 := Int32.toInt_inj.mp (by
          have e2 : x2.toInt = va_up ρ1 2 ((x &&& -x) - Int32.ofInt 1).toInt 2 + 0 := e2
          rw [e2, va_up_self, Int.add_zero])
        subst e3
        refine ⟨tx_Qr (tx_fr x), tx_bcM _, fun X hr => ?_⟩
        refine tx_after hr (fun L1 hL1 => ?_)
        exact hJ _ B1 ws1 tys H1 (locs ++ L1) ls lv _ (tl_push (t := 1) (lo := 0) (hi := bb) (v := .int (tx_fr x)) (tl_locs hk hL1) f1 f2 ⟨_, rfl, rfl⟩) (hg.ext (fun k hk => va_up_ne _ _ (Nat.ne_of_lt hk)) (by simp))

theorem tu_c31 : tx_Con l D A tu_k31 := tx_fb (fun x _ _ => tx_any x)
theorem tu_c32 : tx_Con l D A tu_k32 := tx_fb (fun x h1 h2 => tx_chk.ok tx_c1 h1 h2)
theorem tu_c33 : tx_Con l D A tu_k33 := tx_fb (fun x h1 h2 => tx_chk.ok tx_c11 h1 h2)
theorem tu_c34 : tx_Con l D A tu_k34 := tx_fb (fun x h1 h2 => tx_chk.ok tx_c3 h1 h2)
theorem tu_c35 : tx_Con l D A tu_k35 := tx_fb (fun x h1 h2 => tx_chk.ok tx_c12 h1 h2)
theorem tu_c36 : tx_Con l D A tu_k36 := tx_fb (fun x h1 h2 => tx_chk.ok tx_c13 h1 h2)
theorem tx_pwb : ∀ j : Fin 7, 1 ≤ (tx_pw.getD j 0).toInt ∧ (tx_pw.getD j 0).toInt ≤ 1000000 := by decide
theorem tx_at {x : Int32} (h1 : ¬ x < 0) (h2 : ¬ (Int32.ofNat 7) ≤ x) : x.toNatClampNeg < 7 := by
  have a1 : (0 : Int) ≤ x.toInt := by simpa using Int32.le_iff_toInt_le.mp (Int32.not_lt.mp h1)
  have a2 := Int32.lt_iff_toInt_lt.mp (Int32.not_le.mp h2)
  have a3 : (Int32.ofNat 7).toInt = 7 := rfl
  show x.toInt.toNat < 7
  omega
set_option maxHeartbeats 4000000 in
theorem tx_pt {lo hi : Int} : tx_Con l D A (249, [(lo, hi, 0, 0, 0, 0)], [(1, 1, 0)], [], [([(1, 1000000, 0, 0, 0, 0)], [], [(1, 2, 0)], [], (0, 0), true)], []) := by
  refine tl_hand (pcR := 21) tw_V (tw_mv (y := 249) (by decide) (by decide)) (show (249 : Nat) ≠ 0 by decide) (Nat.le_of_ble_eq_true rfl) rfl ⟨.ireturn, 1, rfl, rfl⟩ ?_
  intro ρ B ws H p e s m args below meth c Q hX hH hJ
  intro ρ1 B1 ws1 tys H1 locs ls lv st hk hg
  obtain ⟨hE, h0, hL, hl, hst, hMm, hK, hPw, hD, hS, hrest⟩ := id hk
  obtain ⟨hlt, v, hmem, x, rfl, hxv⟩ := hL 0 (1, 1, 0) rfl (by decide)
  cases st with
  | cons _ _ => exact absurd hst id
  | nil =>
    have hl0 := hl.2.2 (0, .int x) hmem
    have hx := hX.1
    have hb := hX.2.1
    have hown := hX.2.2.2.1
    have hts := hX.2.2.2.2.1
    obtain ⟨-, -, adV, pw, -, -, hZ, hT, -⟩ := hX.2.2.2.2.2.1
    subst hH
    have fin : ∀ r : Int32, 1 ≤ r.toInt → r.toInt ≤ 1000000 → W p l e _ s m args below meth c H1 locs 0 0 Q (F0 m 21 ls [.int r]) := fun r f1 f2 =>
      hJ _ B1 ws1 tys H1 locs ls lv _ (tl_push (t := 1) (lo := 1) (hi := 1000000) (v := .int r) hk f1 f2 ⟨_, rfl, rfl⟩) (hg.ext (fun k hk => va_up_ne _ _ (Nat.ne_of_lt hk)) (by simp))
    have one : W p l e _ s m args below meth c H1 locs 0 0 Q (F0 m 20 ls []) := lv_iconst hx hb (tw_V.1 249 20 _ _ (rfl : tt_cd 249 20 = some (.iconst 1, 1))) rfl (fin 1 (by decide) (by decide))
    refine lv_iload_n hx hb (tw_V.1 249 0 _ _ (rfl : tt_cd 249 0 = some (.iload_n 0, 1))) rfl hl0 ?_
    refine lv_if_lt hx hb (tgt := 20) (tw_V.1 249 1 _ _ (rfl : tt_cd 249 1 = some (.ifCond .lt 19, 3))) rfl (fun _ => one) (fun n1 => ?_)
    refine lv_iload_n hx hb (tw_V.1 249 4 _ _ (rfl : tt_cd 249 4 = some (.iload_n 0, 1))) rfl hl0 ?_
    refine va_gets hx hb hZ hS hown (hts _ tx_wP) (fun _ h => h) (tw_V.1 249 5 _ _ (rfl : tt_cd 249 5 = some (.getstatic 48, 3))) ?_
    refine va_tlen hx hb hT hS rfl (tw_V.1 249 8 _ _ (rfl : tt_cd 249 8 = some (.arraylength, 1))) ?_
    refine lv_icmp_ge hx hb (tgt := 20) (tw_V.1 249 9 _ _ (rfl : tt_cd 249 9 = some (.if_icmp .ge 11, 3))) rfl (fun _ => one) (fun n2 => ?_)
    refine va_gets hx hb hZ hS hown (hts _ tx_wP) (fun _ h => h) (tw_V.1 249 12 _ _ (rfl : tt_cd 249 12 = some (.getstatic 48, 3))) ?_
    refine lv_iload_n hx hb (tw_V.1 249 15 _ _ (rfl : tt_cd 249 15 = some (.iload_n 0, 1))) rfl hl0 ?_
    have n3 := tx_at n1 n2
    refine va_ti hx hb hT hS (i := x) (fun q => by
      rcases q with q | q
      · exact n1 q
      · omega) rfl (tw_V.1 249 16 _ _ (rfl : tt_cd 249 16 = some (.iaload, 1))) ?_
    refine lv_goto hx hb (tgt := 21) (tw_V.1 249 17 _ _ (rfl : tt_cd 249 17 = some (.goto 4, 3))) rfl ?_
    obtain ⟨f1, f2⟩ := tx_pwb ⟨x.toNatClampNeg, n3⟩
    exact fin _ f1 f2

theorem tu_c68 : tx_Con l D A tu_k68 := tx_pt
theorem tu_c69 : tx_Con l D A tu_k69 := tx_pt
end TK2
