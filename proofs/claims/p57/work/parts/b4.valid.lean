theorem tw_dall : tw_all2 tw_cD tt_cds = true := by
  simp only [tw_all2, tt_cds, List.all_cons, List.all_nil, tw_d0, tw_d1, tw_d2, tw_d3, tw_d4, tw_d5, tw_d6, tw_d7, tw_d8, tw_d9, tw_d10, tw_d11, tw_d12, tw_d13, tw_d14, tw_d15, tw_d16, tw_d17, tw_d18, tw_d19, tw_d20, tw_d21, tw_d22, tw_d23, tw_d24, tw_d25, tw_d26, tw_d27, tw_d28, tw_d29, tw_d30, tw_d31, tw_d32, tw_d33, tw_d34, tw_d35, tw_d36, tw_d37, tw_d38, tw_d39, tw_d40, tw_d41, tw_d42, tw_d43, tw_d44, tw_d45, tw_d46, tw_d47, tw_d48, tw_d49, tw_d50, tw_d51, tw_d52, tw_d53, tw_d54, tw_d55, tw_d56, tw_d57, tw_d58, tw_d59, tw_d60, tw_d61, tw_d62, tw_d63, tw_d64, tw_d65, tw_d66, tw_d67, tw_d68, tw_d69, tw_d70, tw_d71, tw_d72, tw_d73, tw_d74, tw_d75, tw_d76, tw_d77, tw_d78, tw_d79, tw_d80, tw_d81, tw_d82, tw_d83, tw_d84, tw_d85, tw_d86, tw_d87, tw_d88, tw_d89, tw_d90, tw_d91, tw_d92, tw_d93, tw_d94, tw_d95, tw_d96, tw_d97, tw_d98, tw_d99, tw_d100, tw_d101, tw_d102, tw_d103, tw_d104, tw_d105, tw_d106, tw_d107, tw_d108, tw_d109, tw_d110, tw_d111, tw_d112, tw_d113, tw_d114, tw_d115, tw_d116, tw_d117, tw_d118, tw_d119, tw_d120, tw_d121, tw_d122, tw_d123, tw_d124, tw_d125, tw_d126, tw_d127, tw_d128, tw_d129, tw_d130, tw_d131, tw_d132, tw_d133, tw_d134, tw_d135, tw_d136, tw_d137, tw_d138, tw_d139, tw_d140, tw_d141, tw_d142, tw_d143, tw_d144, tw_d145, tw_d146, tw_d147, tw_d148, tw_d149, tw_d150, tw_d151, tw_d152, tw_d153, tw_d154, tw_d155, tw_d156, tw_d157, tw_d158, tw_d159, tw_d160, tw_d161, tw_d162, tw_d163, tw_d164, tw_d165, tw_d166, tw_d167, tw_d168, tw_d169, tw_d170, tw_d171, tw_d172, tw_d173, tw_d174, tw_d175, tw_d176, tw_d177, tw_d178, tw_d179, tw_d180, tw_d181, tw_d182, tw_d183, tw_d184, tw_d185, tw_d186, tw_d187, tw_d188, tw_d189, tw_d190, tw_d191, tw_d192, tw_d193, tw_d194, tw_d195, tw_d196, tw_d197, tw_d198, tw_d199, tw_d200, tw_d201, tw_d202, tw_d203, tw_d204, tw_d205, tw_d206, tw_d207, tw_d208, tw_d209, tw_d210, tw_d211, tw_d212, tw_d213, tw_d214, tw_d215, tw_d216, tw_d217, tw_d218, tw_d219, tw_d220, tw_d221, tw_d222, tw_d223, tw_d224, tw_d225, tw_d226, tw_d227, tw_d228, tw_d229, tw_d230, tw_d231, tw_d232, tw_d233, tw_d234, tw_d235, tw_d236, tw_d237, tw_d238, tw_d239, tw_d240, tw_d241, tw_d242, tw_d243, tw_d244, tw_d245, tw_d246, tw_d247, tw_d248, tw_d249, tw_d250, tw_d251, tw_d252, tw_d253, tw_d254, tw_d255, tw_d256, tw_d257, tw_d258, tw_d259, tw_d260, tw_d261, tw_d262, tw_d263, tw_d264, tw_d265, tw_d266, tw_d267, tw_d268, tw_d269, tw_d270, tw_d271, tw_d272, tw_d273, tw_d274, tw_d275, tw_d276, tw_d277, tw_d278, tw_d279, tw_d280, tw_d281, tw_d282, tw_d283, tw_d284, tw_d285, tw_d286, tw_d287, tw_d288, tw_d289, tw_d290, tw_d291, tw_d292, tw_d293, tw_d294, tw_d295, tw_d296, tw_d297, tw_d298, tw_d299, tw_d300, tw_d301, tw_d302, tw_d303, tw_d304, tw_d305, tw_d306, tw_d307, tw_d308, tw_d309, tw_d310, tw_d311, tw_d312, tw_d313, Bool.and_self, Bool.and_true]
theorem tw_cl_len : tw_cl.length = 13 := rfl
theorem tw_bool {a b : Bool} (h : (a && b) = true) : a = true ∧ b = true := by rwa [Bool.and_eq_true] at h
theorem tw_V : tk_TV tt_T tw_U tw_cl tw_Ts tw_TXs := by
  refine ⟨fun y pc i n h => ?_, fun ci q hq => ?_, fun ci ix c k h => ?_, fun ci => ⟨fun ix v h => ?_, fun ix v h => ?_⟩, fun ci q hq => ?_, fun ty hty => ?_, fun ci ix k h => ?_⟩
  · have h1 : (match kc_f2 y tt_cds with
      | some l => kc_f2 pc l
      | none => none) = some (i, n) := h
    cases hq : kc_f2 y tt_cds with
    | none => rw [hq] at h1; cases h1
    | some l2 =>
      rw [hq] at h1
      exact of_decide_eq_true (tw_all2.ok (tw_all2.ok tw_dall hq) h1)
  · have hci : ci < 13 := by rw [← tw_cl_len]; exact (List.getElem?_eq_some_iff.mp hq).1
    have h := tw_rgl.ok tw_hCL hci
    unfold tw_cCL at h
    rw [hq] at h
    dsimp only at h
    simp only [Bool.and_eq_true] at h
    obtain ⟨⟨⟨⟨⟨⟨⟨h1, h2⟩, h3⟩, h4⟩, h5⟩, h6⟩, h7⟩, h8⟩ := h
    have h3' : ∀ k, k < q.2.2 → _ := fun k hk => tw_rgl.ok h3 hk
    simp only [Bool.and_eq_true] at h3'
    refine ⟨fun w hw => by
      obtain ⟨k, hk, rfl⟩ := List.mem_map.mp hw
      exact tw_in.ok (tw_rgl.ok h1 (List.mem_range.mp hk)), of_decide_eq_true h2, fun k hk => of_decide_eq_true (h3' k hk).1.1, fun a ha b hb hab => ?_, fun k hk => of_decide_eq_true (h3' k hk).1.2, fun k hk => of_decide_eq_true (h3' k hk).2, fun z hz => List.all_eq_true.mp h5 z hz⟩
    have h9 := tw_rgl.ok (tw_rgl.ok h4 ha) hb
    rw [Bool.or_eq_true] at h9
    rcases h9 with h9 | h9
    · exact absurd (Nat.eq_of_beq_eq_true h9) hab
    · exact of_decide_eq_true h9
  · have h1 : tw_cFL ci ix (c, k) = true := by
      have h0 : tt_fl ci ix = some (c, k) := h
      unfold tt_fl at h0
      split at h0
      · rename_i l2 hl
        exact tw_all2.ok (tw_all2.ok (P := fun c l2 => tw_all2 (tw_cFL c) l2) tw_hFL hl) h0
      · cases h0
    unfold tw_cFL at h1
    dsimp only at h1
    split at h1
    · rename_i z hz
      rw [Bool.and_eq_true] at h1
      exact ⟨z, hz, of_decide_eq_true h1.1, tw_in.ok h1.2⟩
    · cases h1
  · have h1 : tw_cKL ci ix (1, v) = true := by
      have h0 : tt_kw ci ix = some (1, v) := h
      unfold tt_kw at h0
      split at h0
      · rename_i l2 hl
        exact tw_all2.ok (tw_all2.ok (P := fun c l2 => tw_all2 (tw_cKL c) l2) tw_hKL hl) h0
      · cases h0
    unfold tw_cKL at h1
    rw [Bool.or_eq_true] at h1
    rcases h1 with h1 | h1
    · rw [Bool.and_eq_true, Bool.and_eq_true] at h1
      exact ⟨_, of_decide_eq_true h1.1.2, tw_in.ok h1.2⟩
    · rw [Bool.and_eq_true, Bool.and_eq_true] at h1
      exact absurd (Nat.eq_of_beq_eq_true h1.1.1) (show ¬ (1 : Nat) = 2 by decide)
  · have h1 : tw_cKL ci ix (2, v) = true := by
      have h0 : tt_kw ci ix = some (2, v) := h
      unfold tt_kw at h0
      split at h0
      · rename_i l2 hl
        exact tw_all2.ok (tw_all2.ok (P := fun c l2 => tw_all2 (tw_cKL c) l2) tw_hKL hl) h0
      · cases h0
    unfold tw_cKL at h1
    rw [Bool.or_eq_true] at h1
    rcases h1 with h1 | h1
    · rw [Bool.and_eq_true, Bool.and_eq_true] at h1
      exact absurd (Nat.eq_of_beq_eq_true h1.1.1) (show ¬ (2 : Nat) = 1 by decide)
    · rw [Bool.and_eq_true, Bool.and_eq_true] at h1
      exact ⟨_, of_decide_eq_true h1.1.2, tw_in.ok h1.2⟩
  · have hci : ci < 13 := by rw [← tw_cl_len]; exact (List.getElem?_eq_some_iff.mp hq).1
    have h := tw_rgl.ok tw_hCL hci
    unfold tw_cCL at h
    rw [hq] at h
    dsimp only at h
    simp only [Bool.and_eq_true] at h
    exact ⟨of_decide_eq_true h.1.1.2, of_decide_eq_true h.1.2⟩
  · have h1 := (tw_bool (tw_bool (tw_bool tw_hAC).1).1).1
    simp only [Bool.and_eq_true] at h1
    rcases hty with rfl | rfl | rfl | rfl | rfl
    · exact tw_in.ok h1.1.1.1.1
    · exact tw_in.ok h1.1.1.1.2
    · exact tw_in.ok h1.1.1.2
    · exact tw_in.ok h1.1.2
    · exact tw_in.ok h1.2
  · have h1 : tw_cTX ci ix k = true := by
      have h0 : tt_tx ci ix = some k := h
      unfold tt_tx at h0
      split at h0
      · rename_i l2 hl
        exact tw_all2.ok (tw_all2.ok (P := fun c l2 => tw_all2 (tw_cTX c) l2) tw_hTX hl) h0
      · cases h0
    obtain ⟨q, g1, g2⟩ := List.any_eq_true.mp h1
    obtain ⟨q1, q2, q3, q4⟩ := q
    obtain ⟨e1, e2, e3⟩ := of_decide_eq_true g2
    dsimp only at e1 e2 e3
    subst e1; subst e2; subst e3
    exact ⟨q3, g1⟩
theorem tw_cwall {y : Nat} (h1 : 1 ≤ y) (h2 : y ≤ 313) : Jvm.Cond.code (tw_nm y) (tw_cc y) (tt_mi y).1 (tw_rt y) ∈ tw_Ts := by
  by_cases g0 : y ≤ 60
  · exact tw_cwc0 y (by simp only [List.mem_cons, List.not_mem_nil, or_false]; omega)
  by_cases g60 : y ≤ 120
  · exact tw_cwc1 y (by simp only [List.mem_cons, List.not_mem_nil, or_false]; omega)
  by_cases g120 : y ≤ 180
  · exact tw_cwc2 y (by simp only [List.mem_cons, List.not_mem_nil, or_false]; omega)
  by_cases g180 : y ≤ 240
  · exact tw_cwc3 y (by simp only [List.mem_cons, List.not_mem_nil, or_false]; omega)
  by_cases g240 : y ≤ 300
  · exact tw_cwc4 y (by simp only [List.mem_cons, List.not_mem_nil, or_false]; omega)
  by_cases g300 : y ≤ 313
  · exact tw_cwc5 y (by simp only [List.mem_cons, List.not_mem_nil, or_false]; omega)
  omega
theorem tw_mv {y : Nat} (h1 : 1 ≤ y) (h2 : y ≤ 313) : tk_MV tt_T tw_U tw_Ts y := by
  have h := tw_rgl.ok tw_hMV (k := y - 1) (by omega)
  rw [show y - 1 + 1 = y by omega] at h
  unfold tw_cMV at h
  simp only [Bool.and_eq_true] at h
  obtain ⟨⟨⟨⟨g1, g2⟩, g3⟩, g4⟩, g6⟩ := h
  have hrk : ∀ r : Nat, tk_Trk tt_T y = r → tw_cRK r (tw_rt y) = true := fun r hr => by rw [← hr]; exact g6
  refine ⟨tw_cwall h1 h2, tw_in.ok g1, g2, of_decide_eq_true g3, of_decide_eq_true g4, fun hr => ?_, fun hr => ?_, fun hr => ?_, fun hr => ?_, fun hr => ?_, fun hr => ?_⟩
  all_goals
    have hh := hrk _ hr
    show _
    change tw_cRK _ (tw_rt y) = true at hh
    generalize hz : tw_rt y = rr at hh
  · have hz2 : tw_U.2.2.2 y = rr := hz
    rw [hz2]
    unfold tw_cRK at hh
    split at hh <;> first | rfl | (exfalso; simp_all; done) | cases hh
  · have hz2 : tw_U.2.2.2 y = rr := hz
    rw [hz2]
    unfold tw_cRK at hh
    split at hh <;> first | rfl | (exfalso; simp_all; done) | cases hh
  · have hz2 : tw_U.2.2.2 y = rr := hz
    rw [hz2]
    unfold tw_cRK at hh
    split at hh <;> first | rfl | (exfalso; simp_all; done) | cases hh
  · have hz2 : tw_U.2.2.2 y = rr := hz
    rw [hz2]
    unfold tw_cRK at hh
    split at hh <;> first | exact ⟨_, rfl, Or.inl ⟨_, rfl⟩⟩ | exact ⟨_, rfl, Or.inr ⟨_, rfl⟩⟩ | (exfalso; simp_all; done) | cases hh
  · have hz2 : tw_U.2.2.2 y = rr := hz
    rw [hz2]
    unfold tw_cRK at hh
    split at hh <;> first | rfl | (exfalso; simp_all; done) | cases hh
  · have hz2 : tw_U.2.2.2 y = rr := hz
    rw [hz2]
    unfold tw_cRK at hh
    split at hh <;> first | rfl | (exfalso; simp_all; done) | cases hh
theorem tw_LV : tk_LV tt_T tw_U tw_Ts tw_NWs := by
  intro ci ix kd y h
  have hc : tw_cLK ci ix (kd, y) = true := by
    have h0 : tt_lk ci ix = some (kd, y) := h
    unfold tt_lk at h0
    split at h0
    · rename_i l2 hl
      exact tw_all2.ok (tw_all2.ok (P := fun c l2 => tw_all2 (tw_cLK c) l2) tw_hLK hl) h0
    · cases h0
  unfold tw_cLK at hc
  dsimp only at hc
  refine ⟨fun e => ?_, fun e => ?_⟩
  · subst e
    rw [if_pos rfl] at hc
    exact ⟨tw_in.ok hc, tw_in.ok (tw_bool (tw_bool (tw_bool tw_hAC).1).1).2, tw_in.ok (tw_bool (tw_bool tw_hAC).1).2, tw_in.ok (tw_bool tw_hAC).2⟩
  · rw [if_neg (by omega)] at hc
    simp only [Bool.and_eq_true] at hc
    obtain ⟨⟨⟨c1, c2⟩, c3⟩, c4⟩ := hc
    refine ⟨tw_mv (Nat.le_of_ble_eq_true c1) (Nat.le_of_ble_eq_true c2), fun hk => ?_, fun hk => ?_, fun hk => ?_, fun hk => ?_⟩
    · rw [if_pos (by omega)] at c3
      exact tw_in.ok c3
    · rw [if_neg (by omega)] at c3
      obtain ⟨q, h1, h2⟩ := List.any_eq_true.mp c3
      obtain ⟨g1, g2, g3⟩ := of_decide_eq_true h2
      obtain ⟨q1, q2, q3, q4⟩ := q
      dsimp only at g1 g2 g3
      subst g1; subst g2; subst g3
      exact ⟨q4, h1⟩
    · rw [if_pos hk] at c4
      simp only [Bool.and_eq_true] at c4
      exact ⟨tw_in.ok c4.1.1, tw_in.ok c4.1.2, of_decide_eq_true c4.2⟩
    · rw [if_neg (by omega), if_pos hk] at c4
      simp only [Bool.and_eq_true] at c4
      exact ⟨tw_in.ok c4.1, of_decide_eq_true c4.2⟩
