/-! ===== texts, statics and links, as the Statement gives them ===== -/
def tx_ix : List Nat := [173, 177, 201, 134, 275, 84, 197, 157, 205, 79, 267, 74, 250, 203, 252, 253, 69, 240, 59, 207, 242, 223, 228, 263, 168, 199, 153, 89, 251, 271, 145]
def tx_ord : List Nat := [18, 3, 30, 26, 7, 24, 0, 1, 6, 25, 2, 13, 8, 19, 16, 21, 22, 11, 17, 20, 9, 12, 28, 5, 14, 15, 27, 23, 10, 29, 4]
def tx_tm (i : Nat) : Term := .string "WheelTown$Parser" (tx_ix.getD i 0)
def tx_vl (i : Nat) : Term := .field (tx_tm i) "java/lang/String" "value" "[B"
def tx_gr (i : Nat) : List Jvm.Cond := [.exactly (tx_tm i) "java/lang/String", .eq (.field (tx_tm i) "java/lang/String" "coder" "B") (.int 0), .arrayOf (tx_vl i) .byte, .eq (.length (tx_vl i)) (.int (Int32.ofNat (tx_len.getD i 0)))] ++ (List.range (tx_len.getD i 0)).map (fun j => .eq (.elem (tx_vl i) (.int (Int32.ofNat j))) (.int ((tx_byt.getD i []).getD j 0)))
def tx_FL : List Jvm.Cond := flatC (Jvm.Cond.and given_1 narrow_1)
set_option maxRecDepth 100000 in
theorem tx_fl : (tx_FL.drop 97).take 274 = tx_ord.flatMap tx_gr := by decide +kernel
set_option maxRecDepth 100000 in
theorem tx_fs : tx_FL[4]? = some (.eq (.static "java/lang/String" "COMPACT_STRINGS" "Z") (.int 1)) ∧ tx_FL[5]? = some (.isRef (.static "jdk/internal/util/Preconditions" "SIOOBE_FORMATTER" "Ljava/util/function/BiFunction;")) ∧ tx_FL[9 + 1]? = some (.arrayOf (.static "WheelTown$Meter" "POWERS" "[I") .int) ∧ tx_FL[9 + 2]? = some (.eq (.length (.static "WheelTown$Meter" "POWERS" "[I")) (.int 7)) := by decide +kernel
set_option maxRecDepth 100000 in
theorem tx_fp : (tx_FL.drop (9 + 3)).take 7 = (List.range 7).map (fun j => .eq (.elem (.static "WheelTown$Meter" "POWERS" "[I") (.int (Int32.ofNat j))) (.int (tx_pw.getD j 0))) := by decide +kernel
theorem tx_hCS : tw_at (3, 98) = some (.laysStatic "java/lang/String" "COMPACT_STRINGS" "Z") := by decide +kernel
theorem tx_hSI : tw_at (1, 15) = some (.initialized "java/lang/String") := by decide +kernel
theorem tx_hPW : tw_at (3, 165) = some (.laysStatic "WheelTown$Meter" "POWERS" "[I") := by decide +kernel
theorem tx_hMI : tw_at (1, 3) = some (.initialized "WheelTown$Meter") := by decide +kernel
theorem tx_hFO : tw_at (3, 114) = some (.laysStatic "jdk/internal/util/Preconditions" "SIOOBE_FORMATTER" "Ljava/util/function/BiFunction;") := by decide +kernel
theorem tx_hFI : tw_at (1, 17) = some (.initialized "jdk/internal/util/Preconditions") := by decide +kernel
set_option maxRecDepth 100000 in
theorem tx_hTX : (List.range 31).all (fun i => match tw_TXs[i]? with
  | some q => decide (q.1 = "WheelTown$Parser" ∧ q.2.2.2 < 31 ∧ tx_ix.getD q.2.2.2 0 = q.2.1) && decide (tw_at (([(3, 80), (3, 184), (3, 195), (3, 202), (3, 209), (3, 216), (3, 145), (3, 154), (3, 159), (3, 160), (3, 166), (3, 168), (3, 169), (3, 174), (3, 175), (3, 176), (3, 177), (3, 178), (3, 179), (3, 193), (3, 194), (3, 200), (3, 201), (3, 207), (3, 208), (3, 214), (3, 215), (3, 221), (3, 222), (3, 223), (3, 224)] : List (Nat × Nat)).getD i (0, 0)) = some (.stringRef q.1 q.2.1 q.2.2.1))
  | none => false) = true := by decide +kernel
set_option maxRecDepth 100000 in
theorem tx_hNW : (List.range tw_NWs.length).all (fun i => match tw_NWs[i]? with
  | some q => decide (tw_at (([(5, 47), (4, 91), (5, 108), (1, 232), (2, 34), (2, 67), (2, 105), (2, 118), (2, 169), (2, 205), (2, 124), (1, 43), (1, 114), (1, 145)] : List (Nat × Nat)).getD i (0, 0)) = some (.methodLinkNest q.1 q.2.1 q.2.2.1 q.2.2.2))
  | none => false) = true := by decide +kernel
set_option maxRecDepth 100000 in
theorem tx_df : (List.range 31).all (fun i => (List.range 31).all (fun j => Nat.beq i j || !(Nat.beq (tx_len.getD i 0) (tx_len.getD j 0) && (List.range (tx_len.getD i 0)).all (fun k => decide ((tx_byt.getD i []).getD k 0 = (tx_byt.getD j []).getD k 0))))) = true := by decide +kernel
theorem tx_ob : (List.range 31).all (fun i => tx_ord.contains i && Nat.ble (tx_len.getD i 0) 100) = true := by decide +kernel
theorem tx_nl : tw_TXs.length = 31 := by decide +kernel
/-- tables at one place are one table -/
theorem tx_same {t N N' : Nat} {f f' : Nat → Value} {A : Nat → Prop} {s : State} (h : va_T .byte t N f A s s.heap) (h' : va_T .byte t N' f' A s s.heap) (hN : N ≤ 100) (hN' : N' ≤ 100) : N = N' ∧ ∀ k, k < N → f k = f' k := by
  obtain ⟨c, h1, -, -, -, h2, h3, -⟩ := h
  obtain ⟨c', g1, -, -, -, g2, g3, -⟩ := h'
  cases h1.symm.trans g1
  have e : Int32.ofNat N = Int32.ofNat N' := h2.symm.trans g2
  have e1 := congrArg Int32.toNatClampNeg e
  rw [Int32.toNatClampNeg_ofNat_of_lt (by omega), Int32.toNatClampNeg_ofNat_of_lt (by omega)] at e1
  subst e1
  exact ⟨rfl, fun k hk => Option.some.inj ((h3 k hk).symm.trans (g3 k hk))⟩
theorem tx_gm {i : Nat} (hi : i < 31) {w : Jvm.Cond} (hw : w ∈ tx_gr i) : w ∈ tx_FL := by
  have h1 := List.all_eq_true.mp tx_ob i (List.mem_range.mpr hi)
  rw [Bool.and_eq_true] at h1
  have h2 : i ∈ tx_ord := List.contains_iff_mem.mp h1.1
  have h3 : w ∈ tx_ord.flatMap tx_gr := List.mem_flatMap.mpr ⟨i, h2, hw⟩
  rw [← tx_fl] at h3
  exact List.mem_of_mem_drop (List.mem_of_mem_take h3)
set_option maxHeartbeats 4000000 in
theorem tx_Of {args : Array Value} {s : State} {A : Nat → Prop} (hs : ∀ w ∈ tx_FL, w.before args s = true) (hA : ∀ a : Nat, a < s.heap.size → ¬ A a) : ∃ adK adV : Nat → Nat, vk_S 31 tx_len tx_byt adK adV A s s.heap ∧ ∀ i : Nat, i < 31 → (tx_tm i).eval args s none [] s = some (.ref (adK i)) := by
  have hl : ∀ i, i < 31 → tx_len.getD i 0 ≤ 100 := fun i hi => by
    have h1 := List.all_eq_true.mp tx_ob i (List.mem_range.mpr hi)
    rw [Bool.and_eq_true] at h1
    exact Nat.le_of_ble_eq_true h1.2
  have h0 : ∀ i : Nat, ∃ q : Nat × Nat, i < 31 → (tx_tm i).eval args s none [] s = some (.ref q.1) ∧ (tx_vl i).eval args s none [] s = some (.ref q.2) ∧ va_O "java/lang/String" q.1 A s s.heap ∧ va_OF "java/lang/String" "coder" "B" (.int 0) q.1 A s s.heap ∧ va_OF "java/lang/String" "value" "[B" (.ref q.2) q.1 A s s.heap ∧ va_T .byte q.2 (tx_len.getD i 0) (fun j => .int ((tx_byt.getD i []).getD j 0)) A s s.heap := by
    intro i
    by_cases hi : i < 31
    · have m : ∀ w ∈ tx_gr i, w.before args s = true := fun w hw => hs w (tx_gm hi hw)
      have m1 := m (.exactly (tx_tm i) "java/lang/String") (by unfold tx_gr; simp)
      have m2 := m (.eq (.field (tx_tm i) "java/lang/String" "coder" "B") (.int 0)) (by unfold tx_gr; simp)
      have m3 := m (.arrayOf (tx_vl i) .byte) (by unfold tx_gr; simp)
      have m4 := m (.eq (.length (tx_vl i)) (.int (Int32.ofNat (tx_len.getD i 0)))) (by unfold tx_gr; simp)
      have m5 : ∀ j, j < tx_len.getD i 0 → (Jvm.Cond.eq (.elem (tx_vl i) (.int (Int32.ofNat j))) (.int ((tx_byt.getD i []).getD j 0))).before args s = true := fun j hj => m _ (by
        unfold tx_gr
        exact List.mem_append_right _ (List.mem_map.mpr ⟨j, List.mem_range.mpr hj, rfl⟩))
      obtain ⟨a, c, cA, kA, q1, q2, q3, q4, q5, q6, -⟩ := Cond.exactly_spec (args := args) (first := s) (o := none) (s := s) (idx := []) (t := tx_tm i) (cls := "java/lang/String") m1
      obtain ⟨t, ht, hT⟩ := va_Tof (f := fun j => .int ((tx_byt.getD i []).getD j 0)) (A := A) (by have := hl i hi; omega) m3 (va_eqt m4) (fun j hj => va_eqt (m5 j hj)) hA
      exact ⟨(a, t), fun _ => ⟨q1, ht, ⟨cA, q3, q5, by rw [q6]; exact q2, hA a (Array.getElem?_eq_some_iff.mp q3).1⟩, vk_OFof q1 (va_eqt m2) hA, vk_OFof q1 ht hA, hT⟩⟩
    · exact ⟨(0, 0), fun h => absurd h hi⟩
  obtain ⟨ad, had⟩ := Classical.axiomOfChoice h0
  refine ⟨fun i => (ad i).1, fun i => (ad i).2, ⟨fun i hi => ⟨(had i hi).2.2.1, (had i hi).2.2.2.1, (had i hi).2.2.2.2.1, (had i hi).2.2.2.2.2⟩, fun i j hi hj e => ?_⟩, fun i hi => (had i hi).1⟩
  dsimp only at e
  obtain ⟨a1, a2, -, -, -, a6⟩ := had i hi
  obtain ⟨b1, b2, -, -, -, b6⟩ := had j hj
  have ev : (ad i).2 = (ad j).2 := by
    unfold tx_vl at a2 b2
    rw [va_fe a1] at a2
    rw [va_fe b1] at b2
    rw [e] at a2
    exact Value.ref.inj (Option.some.inj (a2.symm.trans b2))
  rw [ev] at a6
  obtain ⟨e1, e2⟩ := tx_same a6 b6 (hl i hi) (hl j hj)
  have hd := List.all_eq_true.mp (List.all_eq_true.mp tx_df i (List.mem_range.mpr hi)) j (List.mem_range.mpr hj)
  rw [Bool.or_eq_true] at hd
  rcases hd with hd | hd
  · exact Nat.eq_of_beq_eq_true hd
  · exfalso
    have : (Nat.beq (tx_len.getD i 0) (tx_len.getD j 0) && (List.range (tx_len.getD i 0)).all (fun k => decide ((tx_byt.getD i []).getD k 0 = (tx_byt.getD j []).getD k 0))) = true := by
      rw [Bool.and_eq_true]
      exact ⟨by rw [e1]; exact Nat.beq_refl _, List.all_eq_true.mpr (fun k hk => decide_eq_true (Value.int.inj (e2 k (List.mem_range.mp hk))))⟩
    rw [this] at hd
    cases hd
/-- all of it -/
theorem tx_Dx {args : Array Value} {s : State} {A : Nat → Prop} (hs : ∀ w ∈ tx_FL, w.before args s = true) (hts : ∀ w ∈ lw_tbl, w.before args s = true) (hA : ∀ a : Nat, a < s.heap.size → ¬ A a) : ∃ ad : Nat → Nat, tk_Dx tw_NWs tw_TXs (tx_St A) ad s s.heap := by
  obtain ⟨adK, adV, hS, hev⟩ := tx_Of hs hA
  obtain ⟨f1, f2, f3, f4⟩ := tx_fs
  have g1 := hs _ (List.mem_of_getElem? f1)
  have g2 := hs _ (List.mem_of_getElem? f2)
  have g3 := hs _ (List.mem_of_getElem? f3)
  have g4 := hs _ (List.mem_of_getElem? f4)
  have g5 : ∀ j, j < 7 → (Jvm.Cond.eq (.elem (.static "WheelTown$Meter" "POWERS" "[I") (.int (Int32.ofNat j))) (.int (tx_pw.getD j 0))).before args s = true := fun j hj => by
    refine hs _ (List.mem_of_mem_drop (List.mem_of_mem_take (i := 7) (?_ : _ ∈ (tx_FL.drop (9 + 3)).take 7)))
    rw [tx_fp]
    exact List.mem_map.mpr ⟨j, List.mem_range.mpr hj, rfl⟩
  obtain ⟨pw, p1, p2⟩ := va_Tof (N := 7) (f := fun j => .int (tx_pw.getD j 0)) (A := A) (by decide) g3 (va_eqt g4) (fun j hj => va_eqt (g5 j hj)) hA
  refine ⟨adK, fun q hq => ?_, fun q hq => ?_, adV, pw, hS, va_Zof (hts _ (tw_at.mem tx_hCS)) (hts _ (tw_at.mem tx_hSI)) (va_eqt g1) hA, va_Zref (hts _ (tw_at.mem tx_hPW)) (hts _ (tw_at.mem tx_hMI)) p1 hA, p2, va_Zqof (hts _ (tw_at.mem tx_hFO)) (hts _ (tw_at.mem tx_hFI)) g2 hA, (kt_dy hts).1, (kt_dy hts).2.1⟩
  · obtain ⟨i, hi⟩ := List.getElem?_of_mem hq
    have h1 := List.all_eq_true.mp tx_hNW i (List.mem_range.mpr (List.getElem?_eq_some_iff.mp hi).1)
    rw [hi] at h1
    exact va_Nw.of rfl (hts _ (tw_at.mem (of_decide_eq_true h1)))
  · obtain ⟨i, hi⟩ := List.getElem?_of_mem hq
    have hl : i < 31 := by
      rw [← tx_nl]
      exact (List.getElem?_eq_some_iff.mp hi).1
    have h1 := List.all_eq_true.mp tx_hTX i (List.mem_range.mpr hl)
    rw [hi] at h1
    dsimp only at h1
    rw [Bool.and_eq_true] at h1
    obtain ⟨e1, e2, e3⟩ := of_decide_eq_true h1.1
    refine vk_R.of (hts _ (tw_at.mem (of_decide_eq_true h1.2))) ?_
    have := hev q.2.2.2 e2
    unfold tx_tm at this
    rw [e3, ← e1] at this
    exact this
