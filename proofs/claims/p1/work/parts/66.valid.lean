theorem kt_dall : kt_all2 kt_cD kt_cds = true := by
  simp only [kt_all2, kt_cds, List.all_cons, List.all_nil, kt_d0, kt_d1, kt_d2, kt_d3, kt_d4, kt_d5, kt_d6, kt_d7, kt_d8, kt_d9, kt_d10, kt_d11, kt_d12, kt_d13, kt_d14, kt_d15, kt_d16, kt_d17, kt_d18, kt_d19, kt_d20, kt_d21, kt_d22, kt_d23, kt_d24, kt_d25, kt_d26, kt_d27, kt_d28, kt_d29, kt_d30, kt_d31, kt_d32, kt_d33, kt_d34, kt_d35, kt_d36, kt_d37, kt_d38, kt_d39, kt_d40, kt_d41, kt_d42, kt_d43, kt_d44, kt_d45, kt_d46, kt_d47, kt_d48, kt_d49, kt_d50, kt_d51, kt_d52, kt_d53, kt_d54, kt_d55, kt_d56, kt_d57, kt_d58, kt_d59, kt_d60, kt_d61, kt_d62, kt_d63, kt_d64, kt_d65, kt_d66, kt_d67, kt_d68, kt_d69, kt_d70, kt_d71, kt_d72, kt_d73, kt_d74, kt_d75, kt_d76, kt_d77, kt_d78, kt_d79, kt_d80, kt_d81, kt_d82, kt_d83, kt_d84, kt_d85, kt_d86, kt_d87, kt_d88, kt_d89, kt_d90, kt_d91, kt_d92, kt_d93, kt_d94, kt_d95, kt_d96, kt_d97, kt_d98, kt_d99, kt_d100, kt_d101, kt_d102, kt_d103, kt_d104, kt_d105, kt_d106, kt_d107, kt_d108, kt_d109, kt_d110, kt_d111, kt_d112, kt_d113, kt_d114, kt_d115, kt_d116, kt_d117, kt_d118, kt_d119, kt_d120, kt_d121, kt_d122, kt_d123, kt_d124, kt_d125, kt_d126, kt_d127, kt_d128, kt_d129, kt_d130, kt_d131, kt_d132, kt_d133, kt_d134, kt_d135, kt_d136, kt_d137, kt_d138, kt_d139, kt_d140, kt_d141, kt_d142, kt_d143, kt_d144, kt_d145, kt_d146, kt_d147, kt_d148, kt_d149, kt_d150, kt_d151, kt_d152, kt_d153, kt_d154, kt_d155, kt_d156, kt_d157, kt_d158, kt_d159, kt_d160, kt_d161, kt_d162, kt_d163, kt_d164, kt_d165, kt_d166, kt_d167, kt_d168, kt_d169, kt_d170, kt_d171, kt_d172, kt_d173, kt_d174, kt_d175, kt_d176, kt_d177, kt_d178, kt_d179, Bool.and_self, Bool.and_true]
theorem kt_cl_len : kt_cl.length = 13 := rfl
theorem kt_bool {a b : Bool} (h : (a && b) = true) : a = true ∧ b = true := by rwa [Bool.and_eq_true] at h
theorem kt_V : kc_TV kt_T kt_U kt_cl kt_Ts kt_AOs := by
  refine ⟨fun y pc i n h => ?_, fun ci q hq => ?_, fun ci ix c k h => ?_, fun ci ix c h => ?_, fun ci => ⟨fun ix v h => ?_, fun ix v h => ?_⟩, fun ci q hq => ?_, fun ty hty => ?_, fun ci ix ty h => ?_, fun ci ix h => ?_⟩
  · have h1 : (match kc_f2 y kt_cds with
      | some l => kc_f2 pc l
      | none => none) = some (i, n) := h
    cases hq : kc_f2 y kt_cds with
    | none => rw [hq] at h1; cases h1
    | some l2 =>
      rw [hq] at h1
      exact of_decide_eq_true (kt_all2.ok (kt_all2.ok kt_dall hq) h1)
  · have hci : ci < 13 := by rw [← kt_cl_len]; exact (List.getElem?_eq_some_iff.mp hq).1
    have h := kt_rgl.ok kt_hCL hci
    unfold kt_cCL at h
    rw [hq] at h
    dsimp only at h
    simp only [Bool.and_eq_true] at h
    obtain ⟨⟨⟨⟨⟨⟨⟨h1, h2⟩, h3⟩, h4⟩, h5⟩, h6⟩, h7⟩, h8⟩ := h
    have h3' : ∀ k, k < q.2.2 → _ := fun k hk => kt_rgl.ok h3 hk
    simp only [Bool.and_eq_true] at h3'
    refine ⟨fun w hw => by
      obtain ⟨k, hk, rfl⟩ := List.mem_map.mp hw
      exact kt_in.ok (kt_rgl.ok h1 (List.mem_range.mp hk)), of_decide_eq_true h2, fun k hk => of_decide_eq_true (h3' k hk).1.1, fun a ha b hb hab => ?_, fun k hk => of_decide_eq_true (h3' k hk).1.2, fun k hk => of_decide_eq_true (h3' k hk).2, fun z hz => List.all_eq_true.mp h5 z hz⟩
    have h9 := kt_rgl.ok (kt_rgl.ok h4 ha) hb
    rw [Bool.or_eq_true] at h9
    rcases h9 with h9 | h9
    · exact absurd (Nat.eq_of_beq_eq_true h9) hab
    · exact of_decide_eq_true h9
  · have h1 : kt_cFL ci ix (c, k) = true := by
      have h0 : kt_fl ci ix = some (c, k) := h
      unfold kt_fl at h0
      split at h0
      · rename_i l2 hl
        exact kt_all2.ok (kt_all2.ok (P := fun c l2 => kt_all2 (kt_cFL c) l2) kt_hFL hl) h0
      · cases h0
    unfold kt_cFL at h1
    dsimp only at h1
    split at h1
    · rename_i z hz
      rw [Bool.and_eq_true] at h1
      exact ⟨z, hz, of_decide_eq_true h1.1, kt_in.ok h1.2⟩
    · cases h1
  · have h1 : kt_cNL ci ix c = true := by
      have h0 : kt_nw ci ix = some c := h
      unfold kt_nw at h0
      split at h0
      · rename_i l2 hl
        exact kt_all2.ok (kt_all2.ok (P := fun c l2 => kt_all2 (kt_cNL c) l2) kt_hNL hl) h0
      · cases h0
    unfold kt_cNL at h1
    split at h1
    · rename_i z hz
      rw [Bool.and_eq_true, Bool.and_eq_true] at h1
      exact ⟨z, hz, kt_in.ok h1.1.1, kt_in.ok h1.1.2, kt_in.ok h1.2⟩
    · cases h1
  · have h1 : kt_cKL ci ix (1, v) = true := by
      have h0 : kt_kw ci ix = some (1, v) := h
      unfold kt_kw at h0
      split at h0
      · rename_i l2 hl
        exact kt_all2.ok (kt_all2.ok (P := fun c l2 => kt_all2 (kt_cKL c) l2) kt_hKL hl) h0
      · cases h0
    unfold kt_cKL at h1
    rw [Bool.or_eq_true] at h1
    rcases h1 with h1 | h1
    · rw [Bool.and_eq_true, Bool.and_eq_true] at h1
      exact ⟨_, of_decide_eq_true h1.1.2, kt_in.ok h1.2⟩
    · rw [Bool.and_eq_true, Bool.and_eq_true] at h1
      exact absurd (Nat.eq_of_beq_eq_true h1.1.1) (show ¬ (1 : Nat) = 2 by decide)
  · have h1 : kt_cKL ci ix (2, v) = true := by
      have h0 : kt_kw ci ix = some (2, v) := h
      unfold kt_kw at h0
      split at h0
      · rename_i l2 hl
        exact kt_all2.ok (kt_all2.ok (P := fun c l2 => kt_all2 (kt_cKL c) l2) kt_hKL hl) h0
      · cases h0
    unfold kt_cKL at h1
    rw [Bool.or_eq_true] at h1
    rcases h1 with h1 | h1
    · rw [Bool.and_eq_true, Bool.and_eq_true] at h1
      exact absurd (Nat.eq_of_beq_eq_true h1.1.1) (show ¬ (2 : Nat) = 1 by decide)
    · rw [Bool.and_eq_true, Bool.and_eq_true] at h1
      exact ⟨_, of_decide_eq_true h1.1.2, kt_in.ok h1.2⟩
  · have hci : ci < 13 := by rw [← kt_cl_len]; exact (List.getElem?_eq_some_iff.mp hq).1
    have h := kt_rgl.ok kt_hCL hci
    unfold kt_cCL at h
    rw [hq] at h
    dsimp only at h
    simp only [Bool.and_eq_true] at h
    exact ⟨of_decide_eq_true h.1.1.2, of_decide_eq_true h.1.2⟩
  · have h1 := (kt_bool (kt_bool (kt_bool (kt_bool (kt_bool kt_hAC).1).1).1).1).1
    simp only [Bool.and_eq_true] at h1
    rcases hty with rfl | rfl | rfl | rfl | rfl
    · exact kt_in.ok h1.1.1.1.1
    · exact kt_in.ok h1.1.1.1.2
    · exact kt_in.ok h1.1.1.2
    · exact kt_in.ok h1.1.2
    · exact kt_in.ok h1.2
  · have h1 : kt_cAL ci ix ty = true := by
      have h0 : kt_aw ci ix = some ty := h
      unfold kt_aw at h0
      split at h0
      · rename_i l2 hl
        exact kt_all2.ok (kt_all2.ok (P := fun c l2 => kt_all2 (kt_cAL c) l2) kt_hAL hl) h0
      · cases h0
    unfold kt_cAL at h1
    split at h1
    · rename_i C
      rw [Bool.and_eq_true] at h1
      exact ⟨C, by simpa using h1.1, rfl, kt_in.ok h1.2⟩
    · cases h1
  · have h0 : (kt_mx ci ix).getD false = true := h
    cases hq : kt_mx ci ix with
    | none => rw [hq] at h0; cases h0
    | some b =>
      unfold kt_mx at hq
      split at hq
      · rename_i l2 hl
        exact kt_in.ok (kt_all2.ok (P := kt_cML ci) (kt_all2.ok (P := fun c l2 => kt_all2 (kt_cML c) l2) kt_hML hl) hq)
      · cases hq
theorem kt_cwall {y : Nat} (h1 : 1 ≤ y) (h2 : y ≤ 179) : Jvm.Cond.code (kt_nm y) (kt_cc y) (kt_mi y).1 (kt_rt y) ∈ kt_Ts := by
  by_cases g0 : y ≤ 30
  · exact kt_cwc0 y (by simp only [List.mem_cons, List.not_mem_nil, or_false]; omega)
  by_cases g30 : y ≤ 60
  · exact kt_cwc1 y (by simp only [List.mem_cons, List.not_mem_nil, or_false]; omega)
  by_cases g60 : y ≤ 90
  · exact kt_cwc2 y (by simp only [List.mem_cons, List.not_mem_nil, or_false]; omega)
  by_cases g90 : y ≤ 120
  · exact kt_cwc3 y (by simp only [List.mem_cons, List.not_mem_nil, or_false]; omega)
  by_cases g120 : y ≤ 150
  · exact kt_cwc4 y (by simp only [List.mem_cons, List.not_mem_nil, or_false]; omega)
  by_cases g150 : y ≤ 179
  · exact kt_cwc5 y (by simp only [List.mem_cons, List.not_mem_nil, or_false]; omega)
  omega
theorem kt_mv {y : Nat} (h1 : 1 ≤ y) (h2 : y ≤ 179) : kc_MV kt_T kt_U kt_Ts y := by
  have h := kt_rgl.ok kt_hMV (k := y - 1) (by omega)
  rw [show y - 1 + 1 = y by omega] at h
  unfold kt_cMV at h
  simp only [Bool.and_eq_true] at h
  obtain ⟨⟨⟨⟨⟨g1, g2⟩, g3⟩, g4⟩, g5⟩, g6⟩ := h
  have hrk : ∀ r : Nat, kc_Trk kt_T y = r → kt_cRK r (kt_rt y) = true := fun r hr => by rw [← hr]; exact g6
  refine ⟨kt_cwall h1 h2, kt_in.ok g1, g2, of_decide_eq_true g3, of_decide_eq_true g4, fun hi => ?_, fun hr => ?_, fun hr => ?_, fun hr => ?_, fun hr => ?_, fun hr => ?_⟩
  · have hi2 : (kt_mi y).2.2.2.2.2.2.2 = true := hi
    rw [hi2] at g5
    have g7 : (kt_nm y).name = "<init>" := by simpa using g5
    exact g7
  all_goals
    have hh := hrk _ hr
    show _
    change kt_cRK _ (kt_rt y) = true at hh
    generalize hz : kt_rt y = rr at hh
  · have hz2 : kt_U.2.2.2 y = rr := hz
    rw [hz2]
    unfold kt_cRK at hh
    split at hh <;> first | rfl | (exfalso; simp_all; done) | cases hh
  · have hz2 : kt_U.2.2.2 y = rr := hz
    rw [hz2]
    unfold kt_cRK at hh
    split at hh <;> first | rfl | (exfalso; simp_all; done) | cases hh
  · have hz2 : kt_U.2.2.2 y = rr := hz
    rw [hz2]
    unfold kt_cRK at hh
    split at hh <;> first | rfl | (exfalso; simp_all; done) | cases hh
  · have hz2 : kt_U.2.2.2 y = rr := hz
    rw [hz2]
    unfold kt_cRK at hh
    split at hh <;> first | exact ⟨_, rfl, Or.inl ⟨_, rfl⟩⟩ | exact ⟨_, rfl, Or.inr ⟨_, rfl⟩⟩ | (exfalso; simp_all; done) | cases hh
  · have hz2 : kt_U.2.2.2 y = rr := hz
    rw [hz2]
    unfold kt_cRK at hh
    split at hh <;> first | rfl | (exfalso; simp_all; done) | cases hh
theorem kt_oi : Jvm.Cond.code Lib.objectInit object_method_1_code 1 none ∈ kt_Ts := kt_in.ok (kt_bool kt_hAC).2
theorem kt_LV : kc_LV kt_T kt_U kt_Ts kt_NWs := by
  intro ci ix kd y h
  have hc : kt_cLK ci ix (kd, y) = true := by
    have h0 : kt_lk ci ix = some (kd, y) := h
    unfold kt_lk at h0
    split at h0
    · rename_i l2 hl
      exact kt_all2.ok (kt_all2.ok (P := fun c l2 => kt_all2 (kt_cLK c) l2) kt_hLK hl) h0
    · cases h0
  unfold kt_cLK at hc
  dsimp only at hc
  refine ⟨fun e => ?_, fun e => ?_, fun e => ?_, fun e => ?_, fun e3 e4 e5 e6 => ?_⟩
  · subst e
    rw [if_pos rfl] at hc
    exact ⟨kt_in.ok hc, kt_in.ok (kt_bool (kt_bool (kt_bool (kt_bool (kt_bool kt_hAC).1).1).1).1).2, kt_oi⟩
  · subst e
    rw [if_neg (by decide), if_pos rfl] at hc
    exact ⟨kt_in.ok hc, kt_in.ok (kt_bool (kt_bool (kt_bool (kt_bool kt_hAC).1).1).1).2, kt_in.ok (kt_bool (kt_bool (kt_bool kt_hAC).1).1).2, kt_in.ok (kt_bool (kt_bool kt_hAC).1).2⟩
  · subst e
    rw [if_neg (by decide), if_neg (by decide), if_pos rfl] at hc
    exact ⟨kt_in.ok hc, kt_in.ok (kt_bool (kt_bool (kt_bool (kt_bool kt_hMM).1).1).1).1, kt_in.ok (kt_bool (kt_bool (kt_bool kt_hMM).1).1).2, kt_in.ok (kt_bool (kt_bool kt_hMM).1).2⟩
  · subst e
    rw [if_neg (by decide), if_neg (by decide), if_neg (by decide), if_pos rfl] at hc
    exact ⟨kt_in.ok hc, kt_in.ok (kt_bool (kt_bool (kt_bool (kt_bool kt_hMM).1).1).1).2, kt_in.ok (kt_bool (kt_bool (kt_bool kt_hMM).1).1).2, kt_in.ok (kt_bool kt_hMM).2⟩
  · rw [if_neg e3, if_neg e4, if_neg e5, if_neg e6] at hc
    simp only [Bool.and_eq_true] at hc
    obtain ⟨⟨⟨c1, c2⟩, c3⟩, c4⟩ := hc
    refine ⟨kt_mv (Nat.le_of_ble_eq_true c1) (Nat.le_of_ble_eq_true c2), fun hk => ?_, fun hk => ?_, fun hk => ?_, fun hk => ?_, fun hk => ?_⟩
    · rw [if_pos (by omega)] at c3
      exact kt_in.ok c3
    · rw [if_neg (by omega)] at c3
      obtain ⟨q, h1, h2⟩ := List.any_eq_true.mp c3
      obtain ⟨g1, g2, g3⟩ := of_decide_eq_true h2
      obtain ⟨q1, q2, q3, q4⟩ := q
      dsimp only at g1 g2 g3
      subst g1; subst g2; subst g3
      exact ⟨q4, h1⟩
    · rw [if_pos hk] at c4
      simp only [Bool.and_eq_true] at c4
      exact ⟨kt_in.ok c4.1.1, kt_in.ok c4.1.2, of_decide_eq_true c4.2⟩
    · rw [if_neg (by omega), if_pos hk] at c4
      simp only [Bool.and_eq_true] at c4
      exact ⟨kt_in.ok c4.1, of_decide_eq_true c4.2⟩
    · rw [if_neg (by omega), if_neg (by omega), if_pos hk] at c4
      simp only [Bool.and_eq_true] at c4
      exact ⟨kt_in.ok c4.1.1.1, of_decide_eq_true c4.1.1.2, of_decide_eq_true c4.1.2, of_decide_eq_true c4.2⟩
