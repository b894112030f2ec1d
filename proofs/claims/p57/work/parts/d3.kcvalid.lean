theorem kt_dall : tw_all2 kt_cD kt_cds = true := by
  simp only [tw_all2, kt_cds, List.all_cons, List.all_nil, kt_d0, kt_d1, kt_d2, kt_d3, kt_d4, kt_d5, kt_d6, kt_d7, kt_d8, kt_d9, kt_d10, kt_d11, kt_d12, kt_d13, Bool.and_self, Bool.and_true]
theorem kt_V : kc_TV kt_T kt_U tw_cl tw_Ts kt_AOs := by
  refine ⟨fun y pc i n h => ?_, fun ci q hq => ?_, fun ci ix c k h => ?_, fun ci ix c h => ?_, fun ci => ⟨fun ix v h => ?_, fun ix v h => ?_⟩, fun ci q hq => ?_, fun ty hty => ?_, fun ci ix ty h => ?_, fun ci ix h => ?_⟩
  · have h1 : (match kc_f2 y kt_cds with
      | some l => kc_f2 pc l
      | none => none) = some (i, n) := h
    cases hq : kc_f2 y kt_cds with
    | none => rw [hq] at h1; cases h1
    | some l2 =>
      rw [hq] at h1
      exact of_decide_eq_true (tw_all2.ok (tw_all2.ok kt_dall hq) h1)
  · have hci : ci < 13 := by rw [← tw_cl_len]; exact (List.getElem?_eq_some_iff.mp hq).1
    have h := tw_rgl.ok kt_hCL hci
    unfold kt_cCL at h
    rw [hq] at h
    dsimp only at h
    simp only [Bool.and_eq_true] at h
    obtain ⟨⟨⟨⟨⟨⟨⟨h1, h2⟩, h3⟩, h4⟩, h5⟩, h6⟩, h7⟩, h8⟩ := h
    have h3' : ∀ k, k < q.2.2 → _ := fun k hk => tw_rgl.ok h3 hk
    simp only [Bool.and_eq_true] at h3'
    refine ⟨fun w hw => by
      obtain ⟨k, hk, rfl⟩ := List.mem_map.mp hw
      exact tw_in.ok (tw_rgl.ok h1 (List.mem_range.mp hk)), of_decide_eq_true h2, fun k hk => of_decide_eq_true (h3' k hk).1.1, fun a ha b hb hab => ?_, fun k hk => of_decide_eq_true (h3' k hk).1.2, fun k hk => of_decide_eq_true (h3' k hk).2, fun z hz => List.all_eq_true.mp h5 z hz⟩
    have h9 := tw_rgl.ok (tw_rgl.ok h4 ha) hb
    rw [Bool.or_eq_true] at h9
    rcases h9 with h9 | h9
    · exact absurd (Nat.eq_of_beq_eq_true h9) hab
    · exact of_decide_eq_true h9
  · have h1 : kt_cFL ci ix (c, k) = true := by
      have h0 : kt_fl ci ix = some (c, k) := h
      unfold kt_fl at h0
      split at h0
      · rename_i l2 hl
        exact tw_all2.ok (tw_all2.ok (P := fun c l2 => tw_all2 (kt_cFL c) l2) kt_hFL hl) h0
      · cases h0
    unfold kt_cFL at h1
    dsimp only at h1
    split at h1
    · rename_i z hz
      rw [Bool.and_eq_true] at h1
      exact ⟨z, hz, of_decide_eq_true h1.1, tw_in.ok h1.2⟩
    · cases h1
  · have h1 : kt_cNL ci ix c = true := by
      have h0 : kt_nw ci ix = some c := h
      unfold kt_nw at h0
      split at h0
      · rename_i l2 hl
        exact tw_all2.ok (tw_all2.ok (P := fun c l2 => tw_all2 (kt_cNL c) l2) kt_hNL hl) h0
      · cases h0
    unfold kt_cNL at h1
    split at h1
    · rename_i z hz
      rw [Bool.and_eq_true, Bool.and_eq_true] at h1
      exact ⟨z, hz, tw_in.ok h1.1.1, tw_in.ok h1.1.2, tw_in.ok h1.2⟩
    · cases h1
  · have h1 : kt_cKL ci ix (1, v) = true := by
      have h0 : kt_kw ci ix = some (1, v) := h
      unfold kt_kw at h0
      split at h0
      · rename_i l2 hl
        exact tw_all2.ok (tw_all2.ok (P := fun c l2 => tw_all2 (kt_cKL c) l2) kt_hKL hl) h0
      · cases h0
    unfold kt_cKL at h1
    rw [Bool.or_eq_true] at h1
    rcases h1 with h1 | h1
    · rw [Bool.and_eq_true, Bool.and_eq_true] at h1
      exact ⟨_, of_decide_eq_true h1.1.2, tw_in.ok h1.2⟩
    · rw [Bool.and_eq_true, Bool.and_eq_true] at h1
      exact absurd (Nat.eq_of_beq_eq_true h1.1.1) (show ¬ (1 : Nat) = 2 by decide)
  · have h1 : kt_cKL ci ix (2, v) = true := by
      have h0 : kt_kw ci ix = some (2, v) := h
      unfold kt_kw at h0
      split at h0
      · rename_i l2 hl
        exact tw_all2.ok (tw_all2.ok (P := fun c l2 => tw_all2 (kt_cKL c) l2) kt_hKL hl) h0
      · cases h0
    unfold kt_cKL at h1
    rw [Bool.or_eq_true] at h1
    rcases h1 with h1 | h1
    · rw [Bool.and_eq_true, Bool.and_eq_true] at h1
      exact absurd (Nat.eq_of_beq_eq_true h1.1.1) (show ¬ (2 : Nat) = 1 by decide)
    · rw [Bool.and_eq_true, Bool.and_eq_true] at h1
      exact ⟨_, of_decide_eq_true h1.1.2, tw_in.ok h1.2⟩
  · have hci : ci < 13 := by rw [← tw_cl_len]; exact (List.getElem?_eq_some_iff.mp hq).1
    have h := tw_rgl.ok kt_hCL hci
    unfold kt_cCL at h
    rw [hq] at h
    dsimp only at h
    simp only [Bool.and_eq_true] at h
    exact ⟨of_decide_eq_true h.1.1.2, of_decide_eq_true h.1.2⟩
  · have h1 := (tw_bool (tw_bool (tw_bool (tw_bool (tw_bool kt_hAC).1).1).1).1).1
    simp only [Bool.and_eq_true] at h1
    rcases hty with rfl | rfl | rfl | rfl | rfl
    · exact tw_in.ok h1.1.1.1.1
    · exact tw_in.ok h1.1.1.1.2
    · exact tw_in.ok h1.1.1.2
    · exact tw_in.ok h1.1.2
    · exact tw_in.ok h1.2
  · have h1 : kt_cAL ci ix ty = true := by
      have h0 : kt_aw ci ix = some ty := h
      unfold kt_aw at h0
      split at h0
      · rename_i l2 hl
        exact tw_all2.ok (tw_all2.ok (P := fun c l2 => tw_all2 (kt_cAL c) l2) kt_hAL hl) h0
      · cases h0
    unfold kt_cAL at h1
    split at h1
    · rename_i C
      rw [Bool.and_eq_true] at h1
      exact ⟨C, by simpa using h1.1, rfl, tw_in.ok h1.2⟩
    · cases h1
  · have h0 : (kt_mx ci ix).getD false = true := h
    cases hq : kt_mx ci ix with
    | none => rw [hq] at h0; cases h0
    | some b =>
      unfold kt_mx at hq
      split at hq
      · rename_i l2 hl
        exact tw_in.ok (tw_all2.ok (P := kt_cML ci) (tw_all2.ok (P := fun c l2 => tw_all2 (kt_cML c) l2) kt_hML hl) hq)
      · cases hq
theorem kt_cwall {y : Nat} (h1 : 1 ≤ y) (h2 : y ≤ 13) : Jvm.Cond.code (kt_nm y) (kt_cc y) (kt_mi y).1 (kt_rt y) ∈ tw_Ts := by
  exact kt_cwc0 y (by simp only [List.mem_cons, List.not_mem_nil, or_false]; omega)
theorem kt_mv {y : Nat} (h1 : 1 ≤ y) (h2 : y ≤ 13) : kc_MV kt_T kt_U tw_Ts y := by
  have h := tw_rgl.ok kt_hMV (k := y - 1) (by omega)
  rw [show y - 1 + 1 = y by omega] at h
  unfold kt_cMV at h
  simp only [Bool.and_eq_true] at h
  obtain ⟨⟨⟨⟨⟨g1, g2⟩, g3⟩, g4⟩, g5⟩, g6⟩ := h
  have hrk : ∀ r : Nat, kc_Trk kt_T y = r → kt_cRK r (kt_rt y) = true := fun r hr => by rw [← hr]; exact g6
  refine ⟨kt_cwall h1 h2, tw_in.ok g1, g2, of_decide_eq_true g3, of_decide_eq_true g4, fun hi => ?_, fun hr => ?_, fun hr => ?_, fun hr => ?_, fun hr => ?_, fun hr => ?_⟩
  · have hi2 : (kt_mi y).2.2.2.2.2.2.2 = true := hi
    rw [hi2] at g5
    have g7 : (kt_nm y).name = "<init>" := by simpa using g5
    exact g7
  all_goals
    have hh := hrk _ hr
    show _
    change kt_cRK _ (kt_rt y) = true at hh
    generalize hz : kt_rt y = rr at hh
  · have hz2 : kt_U.2.2.2 y = rr := hz
    rw [hz2]
    unfold kt_cRK at hh
    split at hh <;> first | rfl | (exfalso; simp_all; done) | cases hh
  · have hz2 : kt_U.2.2.2 y = rr := hz
    rw [hz2]
    unfold kt_cRK at hh
    split at hh <;> first | rfl | (exfalso; simp_all; done) | cases hh
  · have hz2 : kt_U.2.2.2 y = rr := hz
    rw [hz2]
    unfold kt_cRK at hh
    split at hh <;> first | rfl | (exfalso; simp_all; done) | cases hh
  · have hz2 : kt_U.2.2.2 y = rr := hz
    rw [hz2]
    unfold kt_cRK at hh
    split at hh <;> first | exact ⟨_, rfl, Or.inl ⟨_, rfl⟩⟩ | exact ⟨_, rfl, Or.inr ⟨_, rfl⟩⟩ | (exfalso; simp_all; done) | cases hh
  · have hz2 : kt_U.2.2.2 y = rr := hz
    rw [hz2]
    unfold kt_cRK at hh
    split at hh <;> first | rfl | (exfalso; simp_all; done) | cases hh
theorem kt_oi : Jvm.Cond.code Lib.objectInit object_method_1_code 1 none ∈ tw_Ts := tw_in.ok (tw_bool kt_hAC).2
theorem kt_LV : kc_LV kt_T kt_U tw_Ts kt_NWs := by
  intro ci ix kd y h
  have hc : kt_cLK ci ix (kd, y) = true := by
    have h0 : kt_lk ci ix = some (kd, y) := h
    unfold kt_lk at h0
    split at h0
    · rename_i l2 hl
      exact tw_all2.ok (tw_all2.ok (P := fun c l2 => tw_all2 (kt_cLK c) l2) kt_hLK hl) h0
    · cases h0
  unfold kt_cLK at hc
  dsimp only at hc
  refine ⟨fun e => ?_, fun e => ?_, fun e => ?_, fun e => ?_, fun e3 e4 e5 e6 => ?_⟩
  · subst e
    rw [if_pos rfl] at hc
    exact ⟨tw_in.ok hc, tw_in.ok (tw_bool (tw_bool (tw_bool (tw_bool (tw_bool kt_hAC).1).1).1).1).2, kt_oi⟩
  · subst e
    rw [if_neg (by decide), if_pos rfl] at hc
    exact ⟨tw_in.ok hc, tw_in.ok (tw_bool (tw_bool (tw_bool (tw_bool kt_hAC).1).1).1).2, tw_in.ok (tw_bool (tw_bool (tw_bool kt_hAC).1).1).2, tw_in.ok (tw_bool (tw_bool kt_hAC).1).2⟩
  · subst e
    rw [if_neg (by decide), if_neg (by decide), if_pos rfl] at hc
    exact ⟨tw_in.ok hc, tw_in.ok (tw_bool (tw_bool (tw_bool (tw_bool kt_hMM).1).1).1).1, tw_in.ok (tw_bool (tw_bool (tw_bool kt_hMM).1).1).2, tw_in.ok (tw_bool (tw_bool kt_hMM).1).2⟩
  · subst e
    rw [if_neg (by decide), if_neg (by decide), if_neg (by decide), if_pos rfl] at hc
    exact ⟨tw_in.ok hc, tw_in.ok (tw_bool (tw_bool (tw_bool (tw_bool kt_hMM).1).1).1).2, tw_in.ok (tw_bool (tw_bool (tw_bool kt_hMM).1).1).2, tw_in.ok (tw_bool kt_hMM).2⟩
  · rw [if_neg e3, if_neg e4, if_neg e5, if_neg e6] at hc
    simp only [Bool.and_eq_true] at hc
    obtain ⟨⟨⟨c1, c2⟩, c3⟩, c4⟩ := hc
    refine ⟨kt_mv (Nat.le_of_ble_eq_true c1) (Nat.le_of_ble_eq_true c2), fun hk => ?_, fun hk => ?_, fun hk => ?_, fun hk => ?_, fun hk => ?_⟩
    · rw [if_pos (by omega)] at c3
      exact tw_in.ok c3
    · rw [if_neg (by omega)] at c3
      obtain ⟨q, h1, h2⟩ := List.any_eq_true.mp c3
      obtain ⟨g1, g2, g3⟩ := of_decide_eq_true h2
      obtain ⟨q1, q2, q3, q4⟩ := q
      dsimp only at g1 g2 g3
      subst g1; subst g2; subst g3
      exact ⟨q4, h1⟩
    · rw [if_pos hk] at c4
      simp only [Bool.and_eq_true] at c4
      exact ⟨tw_in.ok c4.1.1, tw_in.ok c4.1.2, of_decide_eq_true c4.2⟩
    · rw [if_neg (by omega), if_pos hk] at c4
      simp only [Bool.and_eq_true] at c4
      exact ⟨tw_in.ok c4.1, of_decide_eq_true c4.2⟩
    · rw [if_neg (by omega), if_neg (by omega), if_pos hk] at c4
      simp only [Bool.and_eq_true] at c4
      exact ⟨tw_in.ok c4.1.1.1, of_decide_eq_true c4.1.1.2, of_decide_eq_true c4.1.2, of_decide_eq_true c4.2⟩
