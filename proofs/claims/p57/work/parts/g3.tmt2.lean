/-! ===== the second tables: walk, step, round once their rows are made ===== -/
theorem tm_nbq {a b : Nat} (h : a ≠ b) : Nat.beq a b = false := by
  cases hq : Nat.beq a b with
  | false => rfl
  | true => exact absurd (Nat.eq_of_beq_eq_true hq) h
theorem tm_mi2 {y : Nat} (h1 : y ≠ 22) (h2 : y ≠ 89) (h3 : y ≠ 95) (h4 : y ≠ 112) (h5 : y ≠ 113) : tt_mi2 y = tt_mi y := by
  unfold tt_mi2
  simp only [kc_f1, tm_nbq (Ne.symm h1), tm_nbq (Ne.symm h2), tm_nbq (Ne.symm h3), tm_nbq (Ne.symm h4), tm_nbq (Ne.symm h5)]
  rfl
theorem tm_mi2e (y : Nat) : (tt_mi2 y).1 = (tt_mi y).1 ∧ (tt_mi2 y).2.1 = (tt_mi y).2.1 ∧ (tt_mi2 y).2.2.2.2.2.2.1 = (tt_mi y).2.2.2.2.2.2.1 := by
  by_cases h1 : y = 22
  · subst h1; exact ⟨rfl, rfl, rfl⟩
  by_cases h2 : y = 89
  · subst h2; exact ⟨rfl, rfl, rfl⟩
  by_cases h3 : y = 95
  · subst h3; exact ⟨rfl, rfl, rfl⟩
  by_cases h4 : y = 112
  · subst h4; exact ⟨rfl, rfl, rfl⟩
  by_cases h5 : y = 113
  · subst h5; exact ⟨rfl, rfl, rfl⟩
  rw [tm_mi2 h1 h2 h3 h4 h5]
  exact ⟨rfl, rfl, rfl⟩
theorem tm_V2 : tk_TV tt_T2 tw_U tw_cl tw_Ts tw_TXs := tw_V
theorem tm_MV2 {y : Nat} (h : tk_MV tt_T tw_U tw_Ts y) : tk_MV tt_T2 tw_U tw_Ts y := by
  obtain ⟨e1, e2, e3⟩ := tm_mi2e y
  obtain ⟨a1, a2, a3, a4, a5, a6⟩ := h
  have a1 : Cond.code (tw_U.2.1 y) (tw_U.2.2.1 y) (tt_mi y).1 (tw_U.2.2.2 y) ∈ tw_Ts := a1
  have a5 : tw_U.1 (tt_mi y).2.2.2.2.2.2.1 = (tw_U.2.1 y).cls := a5
  rw [← e1] at a1
  rw [← e3] at a5
  exact ⟨a1, a2, a3, a4, a5, a6⟩
theorem tm_LV2 : tk_LV tt_T2 tw_U tw_Ts tw_NWs := by
  intro ci ix kd y hlk
  obtain ⟨h4, h0⟩ := tw_LV ci ix kd y hlk
  refine ⟨h4, fun hk => ?_⟩
  obtain ⟨a1, a2, a3, a4, a5⟩ := h0 hk
  obtain ⟨e1, e2, e3⟩ := tm_mi2e y
  refine ⟨tm_MV2 a1, a2, a3, fun q => ?_, fun q => ?_⟩
  · obtain ⟨b1, b2, b3⟩ := a4 q
    refine ⟨b1, b2, ?_⟩
    have b3 : (parseMethodDescriptor (tw_U.2.1 y).desc).map (fun d => d.parameters.length) = some ((tt_mi y).2.1.length - 1) := b3
    show _ = some ((tt_mi2 y).2.1.length - 1)
    rw [e2]
    exact b3
  · obtain ⟨b1, b3⟩ := a5 q
    refine ⟨b1, ?_⟩
    have b3 : (parseMethodDescriptor (tw_U.2.1 y).desc).map (fun d => d.parameters.length) = some (tt_mi y).2.1.length := b3
    show _ = some (tt_mi2 y).2.1.length
    rw [e2]
    exact b3
theorem tm_y66 {y pc ix κ : Nat} (hc : tt_cd y pc = some (.new ix, 3)) (hk : tt_nk y pc = some κ) : y = 66 := by
  unfold tt_nk at hk
  split at hk
  · rename_i lst hl
    have h1 := te_f1 (tw_all2.ok te_nk0 hl) hk
    rw [hc] at h1
    have h1 : (Nat.beq y 66 && ((Nat.beq pc 26 && Nat.beq κ 7) || (Nat.beq pc 48 && Nat.beq κ 16))) = true := h1
    rw [Bool.and_eq_true] at h1
    exact Nat.eq_of_beq_eq_true h1.1
  · cases hk
def tm_nf (id : Nat) (k : tk_K) : Bool := Nat.ble 437 id || !([22, 89, 95, 112, 113].contains k.1)
theorem tm_nf0 : tw_all2 tm_nf tu_ks = true := by decide +kernel
theorem tm_p437 : tk_ck tt_T tt_sc tt_nt (tu_K 437) tt_nw 8000 tu_t445 tu_k445 = true := by decide +kernel
theorem tm_p446 : tk_ck tt_T tt_sc tt_nt (tu_K 437) tt_nw 8000 tu_t446 tu_k446 = true := by decide +kernel
section TG
variable {l : Launch} {D : va_G} {A : Nat → Prop}
abbrev tm_Con2 (l : Launch) (D : va_G) (A : Nat → Prop) (k : tk_K) : Prop := tk_Con tt_T2 tw_U tw_Ts tw_NWs tw_TXs (tx_St A) l D tw_cl A k
theorem tm_NV2 : tk_NV tt_T2 tw_U tw_Ts tw_NWs tw_TXs (tx_St A) l D tw_cl A tt_nw := by
  intro y pc ix κ hc hk
  have h66 : y = 66 := tm_y66 hc hk
  subst h66
  exact te_NV 66 pc ix κ hc hk
theorem tm_con2 {k : tk_K} (h : tx_Con l D A k) (he : tt_mi2 k.1 = tt_mi k.1) : tm_Con2 l D A k := by
  have e : tk_Tmi tt_T2 k.1 = tk_Tmi tt_T k.1 := he
  have e2 : tk_pS tt_T2 k = tk_pS tt_T k := by
    funext w
    unfold tk_pS
    rw [e]
  have e3 : tk_TKT tt_T2 = tk_TKT tt_T := rfl
  have e4 : tk_ws_ tt_T2 tw_U tw_Ts k.1 = tk_ws_ tt_T tw_U tw_Ts k.1 := by
    unfold tk_ws_
    rw [e]
  have e5 : tk_rm tt_T2 k.1 = tk_rm tt_T k.1 := by
    unfold tk_rm
    rw [e]
  unfold tx_Con tk_Con at h
  unfold tm_Con2 tk_Con
  rw [e, e2, e3, e4, e5]
  exact h
theorem tm_Ks2 (id : Nat) (k : tk_K) (h : tu_K 437 id = some k) : tm_Con2 l D A k := by
  refine tm_con2 (ty_Ks id k h) ?_
  unfold tu_K at h
  split at h
  · cases h
  · rename_i hb
    have h1 := tw_all2.ok tm_nf0 h
    unfold tm_nf at h1
    rw [Bool.or_eq_true] at h1
    rcases h1 with h1 | h1
    · exact absurd h1 hb
    · have h2 : ¬ (k.1 ∈ [22, 89, 95, 112, 113]) := fun q => by
        rw [List.contains_iff_mem.mpr q] at h1
        cases h1
      simp only [List.mem_cons, not_or] at h2
      exact tm_mi2 h2.1 h2.2.1 h2.2.2.1 h2.2.2.2.1 h2.2.2.2.2.1
theorem tm_c438 : tm_Con2 l D A tu_k438 := tk_ck.ok tm_V2 tm_LV2 tw_Ts_good (tx_Sc A) ty_Tx tm_Ks2 tm_NV2 (tm_MV2 (tw_mv (by decide) (by decide))) tu_p438
theorem tm_c440 : tm_Con2 l D A tu_k440 := tk_ck.ok tm_V2 tm_LV2 tw_Ts_good (tx_Sc A) ty_Tx tm_Ks2 tm_NV2 (tm_MV2 (tw_mv (by decide) (by decide))) tu_p440
theorem tm_c443 : tm_Con2 l D A tu_k443 := tk_ck.ok tm_V2 tm_LV2 tw_Ts_good (tx_Sc A) ty_Tx tm_Ks2 tm_NV2 (tm_MV2 (tw_mv (by decide) (by decide))) tu_p443
theorem tm_c444 : tm_Con2 l D A tu_k444 := tk_ck.ok tm_V2 tm_LV2 tw_Ts_good (tx_Sc A) ty_Tx tm_Ks2 tm_NV2 (tm_MV2 (tw_mv (by decide) (by decide))) tu_p444
theorem tm_c445 : tx_Con l D A tu_k445 := tk_ck.ok tw_V tw_LV tw_Ts_good (tx_Sc A) ty_Tx ty_Ks te_NV (tw_mv (by decide) (by decide)) tm_p437
theorem tm_c446 : tx_Con l D A tu_k446 := tk_ck.ok tw_V tw_LV tw_Ts_good (tx_Sc A) ty_Tx ty_Ks te_NV (tw_mv (by decide) (by decide)) tm_p446
theorem tm_T2 : tm_T tt_T2 l D A := ⟨⟨tm_V2, tm_LV2⟩, rfl, rfl⟩
end TG
