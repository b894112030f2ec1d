theorem tw_at.mem {h : Nat × Nat} {w : Jvm.Cond} (hh : tw_at h = some w) : w ∈ lw_tbl := by
  unfold tw_at at hh
  obtain ⟨l, h1, h2⟩ := Option.bind_eq_some_iff.mp hh
  rw [← tw_tb_eq]
  exact List.mem_flatten.mpr ⟨l, List.mem_of_getElem? h1, List.mem_of_getElem? h2⟩
set_option maxRecDepth 100000 in
theorem kt_hFL : tw_all4 kt_cFL kt_fls = true := by decide +kernel
set_option maxRecDepth 100000 in
theorem kt_hNL : tw_all4 kt_cNL kt_nws = true := by decide +kernel
set_option maxRecDepth 100000 in
theorem kt_hKL : tw_all4 kt_cKL kt_kws = true := by decide +kernel
set_option maxRecDepth 100000 in
theorem kt_hAL : tw_all4 kt_cAL kt_aws = true := by decide +kernel
set_option maxRecDepth 100000 in
theorem kt_hML : tw_all4 kt_cML kt_mxs = true := by decide +kernel
set_option maxRecDepth 100000 in
theorem kt_hLK : tw_all4 kt_cLK kt_lks = true := by decide +kernel
set_option maxRecDepth 100000 in
theorem kt_hCL : tw_rgl 13 kt_cCL = true := by decide +kernel
set_option maxRecDepth 100000 in
theorem kt_hAC : ((tw_in (2, 62) (.arrayClass .int) && tw_in (1, 112) (.arrayClass .byte) && tw_in (2, 201) (.arrayClass .short) && tw_in (7, 116) (.arrayClass .boolean) && tw_in (2, 226) (.arrayClass .long)) && tw_in (1, 28) (.instanceMethod Lib.objectInit) && tw_in (6, 62) (.native arraycopyName) && tw_in (6, 61) (.static arraycopyName) && tw_in (1, 21) (.initialized "java/lang/System") && tw_in (1, 29) (.code Lib.objectInit object_method_1_code 1 none)) = true := by decide +kernel
set_option maxRecDepth 100000 in
theorem kt_hMM : (tw_in (3, 57) (.static Lib.Math.min.name) && tw_in (4, 13) (.static Lib.Math.max.name) && tw_in (1, 14) (.initialized "java/lang/Math") && tw_in (3, 58) (.code Lib.Math.min.name Lib.Math.min.code 2 (some .int)) && tw_in (4, 14) (.code Lib.Math.max.name Lib.Math.max.code 2 (some .int))) = true := by decide +kernel
set_option maxRecDepth 100000 in
theorem kt_hMV : tw_rgl 13 (fun y => kt_cMV (y + 1)) = true := by decide +kernel
set_option maxRecDepth 100000 in
theorem kt_ao0 : tw_at (1, 39) = some (.arrayOver (.object "WheelTown$Event")) := by decide +kernel
set_option maxRecDepth 100000 in
theorem kt_ao1 : tw_at (1, 37) = some (.arrayOver (.object "WheelTown$Meter")) := by decide +kernel
set_option maxRecDepth 100000 in
theorem kt_ao2 : tw_at (2, 64) = some (.arrayOver (.object "WheelTown$Readings")) := by decide +kernel
set_option maxRecDepth 100000 in
theorem kt_ao3 : tw_at (2, 203) = some (.arrayOver (.object "WheelTown$Slot")) := by decide +kernel
set_option maxRecDepth 100000 in
theorem kt_ao4 : tw_at (1, 41) = some (.arrayOver (.object "WheelTown$Tariff")) := by decide +kernel
set_option maxRecDepth 100000 in
theorem kt_ao5 : tw_at (2, 63) = some (.arrayOver (.object "WheelTown$Town")) := by decide +kernel
set_option maxRecDepth 100000 in
theorem kt_aoa : tw_at (2, 72) = some (.arrayOver (.array .int)) := by decide +kernel
set_option maxRecDepth 100000 in
theorem kt_nw0 : tw_at (1, 232) = some (.methodLinkNest "WheelTown" 26 ⟨"WheelTown$Parser", "<init>", "()V"⟩ "WheelTown") := by decide +kernel
set_option maxRecDepth 100000 in
theorem kt_nw1 : tw_at (2, 34) = some (.methodLinkNest "WheelTown" 39 ⟨"WheelTown$Readings", "<init>", "()V"⟩ "WheelTown") := by decide +kernel
set_option maxRecDepth 100000 in
theorem kt_nw2 : tw_at (2, 67) = some (.methodLinkNest "WheelTown" 54 ⟨"WheelTown$Stretches", "<init>", "()V"⟩ "WheelTown") := by decide +kernel
set_option maxRecDepth 100000 in
theorem kt_nw3 : tw_at (2, 105) = some (.methodLinkNest "WheelTown" 61 ⟨"WheelTown$Tally", "<init>", "()V"⟩ "WheelTown") := by decide +kernel
set_option maxRecDepth 100000 in
theorem kt_nw4 : tw_at (2, 118) = some (.methodLinkNest "WheelTown" 68 ⟨"WheelTown$Supposed", "<init>", "()V"⟩ "WheelTown") := by decide +kernel
set_option maxRecDepth 100000 in
theorem kt_nw5 : tw_at (2, 169) = some (.methodLinkNest "WheelTown" 75 ⟨"WheelTown$Walks", "<init>", "()V"⟩ "WheelTown") := by decide +kernel
set_option maxRecDepth 100000 in
theorem kt_nw6 : tw_at (2, 205) = some (.methodLinkNest "WheelTown" 93 ⟨"WheelTown$Slot", "<init>", "()V"⟩ "WheelTown") := by decide +kernel
set_option maxRecDepth 100000 in
theorem kt_nw7 : tw_at (2, 124) = some (.methodLinkNest "WheelTown$Supposed" 32 ⟨"WheelTown$Tally", "<init>", "()V"⟩ "WheelTown") := by decide +kernel
set_option maxRecDepth 100000 in
theorem kt_nw8 : tw_at (1, 43) = some (.methodLinkNest "WheelTown$Town" 51 ⟨"WheelTown$Meter", "<init>", "()V"⟩ "WheelTown") := by decide +kernel
set_option maxRecDepth 100000 in
theorem kt_nw9 : tw_at (1, 114) = some (.methodLinkNest "WheelTown$Town" 52 ⟨"WheelTown$Event", "<init>", "()V"⟩ "WheelTown") := by decide +kernel
set_option maxRecDepth 100000 in
theorem kt_nw10 : tw_at (1, 145) = some (.methodLinkNest "WheelTown$Town" 53 ⟨"WheelTown$Tariff", "<init>", "()V"⟩ "WheelTown") := by decide +kernel
theorem kt_dy {args : Array Value} {s : State} (hts : ∀ w ∈ lw_tbl, w.before args s = true) : kc_Dy kt_AOs kt_NWs s := by
  refine ⟨fun C hC => ?_, hts _ (tw_at.mem kt_aoa), fun q hq => ?_⟩
  · simp only [kt_AOs, List.mem_cons, List.not_mem_nil, or_false] at hC
    rcases hC with rfl | rfl | rfl | rfl | rfl | rfl
    · exact va_AO.of (hts _ (tw_at.mem kt_ao0))
    · exact va_AO.of (hts _ (tw_at.mem kt_ao1))
    · exact va_AO.of (hts _ (tw_at.mem kt_ao2))
    · exact va_AO.of (hts _ (tw_at.mem kt_ao3))
    · exact va_AO.of (hts _ (tw_at.mem kt_ao4))
    · exact va_AO.of (hts _ (tw_at.mem kt_ao5))
  · simp only [kt_NWs, List.mem_cons, List.not_mem_nil, or_false] at hq
    rcases hq with rfl | rfl | rfl | rfl | rfl | rfl | rfl | rfl | rfl | rfl | rfl
    · exact va_Nw.of rfl (hts _ (tw_at.mem kt_nw0))
    · exact va_Nw.of rfl (hts _ (tw_at.mem kt_nw1))
    · exact va_Nw.of rfl (hts _ (tw_at.mem kt_nw2))
    · exact va_Nw.of rfl (hts _ (tw_at.mem kt_nw3))
    · exact va_Nw.of rfl (hts _ (tw_at.mem kt_nw4))
    · exact va_Nw.of rfl (hts _ (tw_at.mem kt_nw5))
    · exact va_Nw.of rfl (hts _ (tw_at.mem kt_nw6))
    · exact va_Nw.of rfl (hts _ (tw_at.mem kt_nw7))
    · exact va_Nw.of rfl (hts _ (tw_at.mem kt_nw8))
    · exact va_Nw.of rfl (hts _ (tw_at.mem kt_nw9))
    · exact va_Nw.of rfl (hts _ (tw_at.mem kt_nw10))
set_option maxRecDepth 100000 in
theorem kt_cw1 : Jvm.Cond.code (kt_nm 1) (kt_cc 1) (kt_mi 1).1 (kt_rt 1) ∈ tw_Ts := tw_in2 (h := (1, 116)) rfl rfl
set_option maxRecDepth 100000 in
theorem kt_cw2 : Jvm.Cond.code (kt_nm 2) (kt_cc 2) (kt_mi 2).1 (kt_rt 2) ∈ tw_Ts := tw_in2 (h := (2, 171)) rfl rfl
set_option maxRecDepth 100000 in
theorem kt_cw3 : Jvm.Cond.code (kt_nm 3) (kt_cc 3) (kt_mi 3).1 (kt_rt 3) ∈ tw_Ts := tw_in2 (h := (1, 26)) rfl rfl
set_option maxRecDepth 100000 in
theorem kt_cw4 : Jvm.Cond.code (kt_nm 4) (kt_cc 4) (kt_mi 4).1 (kt_rt 4) ∈ tw_Ts := tw_in2 (h := (6, 142)) rfl rfl
set_option maxRecDepth 100000 in
theorem kt_cw5 : Jvm.Cond.code (kt_nm 5) (kt_cc 5) (kt_mi 5).1 (kt_rt 5) ∈ tw_Ts := tw_in2 (h := (1, 45)) rfl rfl
set_option maxRecDepth 100000 in
theorem kt_cw6 : Jvm.Cond.code (kt_nm 6) (kt_cc 6) (kt_mi 6).1 (kt_rt 6) ∈ tw_Ts := tw_in2 (h := (1, 234)) rfl rfl
set_option maxRecDepth 100000 in
theorem kt_cw7 : Jvm.Cond.code (kt_nm 7) (kt_cc 7) (kt_mi 7).1 (kt_rt 7) ∈ tw_Ts := tw_in2 (h := (2, 36)) rfl rfl
set_option maxRecDepth 100000 in
theorem kt_cw8 : Jvm.Cond.code (kt_nm 8) (kt_cc 8) (kt_mi 8).1 (kt_rt 8) ∈ tw_Ts := tw_in2 (h := (2, 207)) rfl rfl
set_option maxRecDepth 100000 in
theorem kt_cw9 : Jvm.Cond.code (kt_nm 9) (kt_cc 9) (kt_mi 9).1 (kt_rt 9) ∈ tw_Ts := tw_in2 (h := (2, 69)) rfl rfl
set_option maxRecDepth 100000 in
theorem kt_cw10 : Jvm.Cond.code (kt_nm 10) (kt_cc 10) (kt_mi 10).1 (kt_rt 10) ∈ tw_Ts := tw_in2 (h := (2, 120)) rfl rfl
set_option maxRecDepth 100000 in
theorem kt_cw11 : Jvm.Cond.code (kt_nm 11) (kt_cc 11) (kt_mi 11).1 (kt_rt 11) ∈ tw_Ts := tw_in2 (h := (2, 107)) rfl rfl
set_option maxRecDepth 100000 in
theorem kt_cw12 : Jvm.Cond.code (kt_nm 12) (kt_cc 12) (kt_mi 12).1 (kt_rt 12) ∈ tw_Ts := tw_in2 (h := (1, 147)) rfl rfl
set_option maxRecDepth 100000 in
theorem kt_cw13 : Jvm.Cond.code (kt_nm 13) (kt_cc 13) (kt_mi 13).1 (kt_rt 13) ∈ tw_Ts := tw_in2 (h := (1, 34)) rfl rfl
theorem kt_cwc0 : ∀ y ∈ ([1, 2, 3, 4, 5, 6, 7, 8, 9, 10, 11, 12, 13] : List Nat), Jvm.Cond.code (kt_nm y) (kt_cc y) (kt_mi y).1 (kt_rt y) ∈ tw_Ts := List.forall_mem_cons.mpr ⟨kt_cw1, List.forall_mem_cons.mpr ⟨kt_cw2, List.forall_mem_cons.mpr ⟨kt_cw3, List.forall_mem_cons.mpr ⟨kt_cw4, List.forall_mem_cons.mpr ⟨kt_cw5, List.forall_mem_cons.mpr ⟨kt_cw6, List.forall_mem_cons.mpr ⟨kt_cw7, List.forall_mem_cons.mpr ⟨kt_cw8, List.forall_mem_cons.mpr ⟨kt_cw9, List.forall_mem_cons.mpr ⟨kt_cw10, List.forall_mem_cons.mpr ⟨kt_cw11, List.forall_mem_cons.mpr ⟨kt_cw12, List.forall_mem_cons.mpr ⟨kt_cw13, fun _ h => absurd h List.not_mem_nil⟩⟩⟩⟩⟩⟩⟩⟩⟩⟩⟩⟩⟩
set_option maxRecDepth 100000 in
theorem kt_d0 : kt_cD 0 kt_0 = true := by decide +kernel
set_option maxRecDepth 100000 in
theorem kt_d1 : kt_cD 1 kt_1 = true := by decide +kernel
set_option maxRecDepth 100000 in
theorem kt_d2 : kt_cD 2 kt_2 = true := by decide +kernel
set_option maxRecDepth 100000 in
theorem kt_d3 : kt_cD 3 kt_3 = true := by decide +kernel
set_option maxRecDepth 100000 in
theorem kt_d4_b0 : (kt_4_b0.all (fun q => decide (decode (kt_cc 4) q.1 = .ok q.2))) = true := by decide +kernel
set_option maxRecDepth 100000 in
theorem kt_d4_b1 : (kt_4_b1.all (fun q => decide (decode (kt_cc 4) q.1 = .ok q.2))) = true := by decide +kernel
set_option maxRecDepth 100000 in
theorem kt_d4_b2 : (kt_4_b2.all (fun q => decide (decode (kt_cc 4) q.1 = .ok q.2))) = true := by decide +kernel
set_option maxRecDepth 100000 in
theorem kt_d4_b3 : (kt_4_b3.all (fun q => decide (decode (kt_cc 4) q.1 = .ok q.2))) = true := by decide +kernel
set_option maxRecDepth 100000 in
theorem kt_d4_b4 : (kt_4_b4.all (fun q => decide (decode (kt_cc 4) q.1 = .ok q.2))) = true := by decide +kernel
set_option maxRecDepth 100000 in
theorem kt_d4_b5 : (kt_4_b5.all (fun q => decide (decode (kt_cc 4) q.1 = .ok q.2))) = true := by decide +kernel
set_option maxRecDepth 100000 in
theorem kt_d4_b6 : (kt_4_b6.all (fun q => decide (decode (kt_cc 4) q.1 = .ok q.2))) = true := by decide +kernel
set_option maxRecDepth 100000 in
theorem kt_d4_b7 : (kt_4_b7.all (fun q => decide (decode (kt_cc 4) q.1 = .ok q.2))) = true := by decide +kernel
set_option maxRecDepth 100000 in
theorem kt_d4_b8 : (kt_4_b8.all (fun q => decide (decode (kt_cc 4) q.1 = .ok q.2))) = true := by decide +kernel
set_option maxRecDepth 100000 in
theorem kt_d4_b9 : (kt_4_b9.all (fun q => decide (decode (kt_cc 4) q.1 = .ok q.2))) = true := by decide +kernel
set_option maxRecDepth 100000 in
theorem kt_d4_b10 : (kt_4_b10.all (fun q => decide (decode (kt_cc 4) q.1 = .ok q.2))) = true := by decide +kernel
set_option maxRecDepth 100000 in
theorem kt_d4_b11 : (kt_4_b11.all (fun q => decide (decode (kt_cc 4) q.1 = .ok q.2))) = true := by decide +kernel
set_option maxRecDepth 100000 in
theorem kt_d4_b12 : (kt_4_b12.all (fun q => decide (decode (kt_cc 4) q.1 = .ok q.2))) = true := by decide +kernel
set_option maxRecDepth 100000 in
theorem kt_d4_b13 : (kt_4_b13.all (fun q => decide (decode (kt_cc 4) q.1 = .ok q.2))) = true := by decide +kernel
set_option maxRecDepth 100000 in
theorem kt_d4_b14 : (kt_4_b14.all (fun q => decide (decode (kt_cc 4) q.1 = .ok q.2))) = true := by decide +kernel
set_option maxRecDepth 100000 in
theorem kt_d4_b15 : (kt_4_b15.all (fun q => decide (decode (kt_cc 4) q.1 = .ok q.2))) = true := by decide +kernel
theorem kt_d4 : kt_cD 4 kt_4 = true := by
  unfold kt_cD tw_all2 kt_4
  rw [List.all_cons, kt_d4_b0, List.all_cons, kt_d4_b1, List.all_cons, kt_d4_b2, List.all_cons, kt_d4_b3, List.all_cons, kt_d4_b4, List.all_cons, kt_d4_b5, List.all_cons, kt_d4_b6, List.all_cons, kt_d4_b7, List.all_cons, kt_d4_b8, List.all_cons, kt_d4_b9, List.all_cons, kt_d4_b10, List.all_cons, kt_d4_b11, List.all_cons, kt_d4_b12, List.all_cons, kt_d4_b13, List.all_cons, kt_d4_b14, List.all_cons, kt_d4_b15]
  rfl
set_option maxRecDepth 100000 in
theorem kt_d5 : kt_cD 5 kt_5 = true := by decide +kernel
set_option maxRecDepth 100000 in
theorem kt_d6 : kt_cD 6 kt_6 = true := by decide +kernel
set_option maxRecDepth 100000 in
theorem kt_d7 : kt_cD 7 kt_7 = true := by decide +kernel
set_option maxRecDepth 100000 in
theorem kt_d8 : kt_cD 8 kt_8 = true := by decide +kernel
set_option maxRecDepth 100000 in
theorem kt_d9 : kt_cD 9 kt_9 = true := by decide +kernel
set_option maxRecDepth 100000 in
theorem kt_d10 : kt_cD 10 kt_10 = true := by decide +kernel
set_option maxRecDepth 100000 in
theorem kt_d11 : kt_cD 11 kt_11 = true := by decide +kernel
set_option maxRecDepth 100000 in
theorem kt_d12 : kt_cD 12 kt_12 = true := by decide +kernel
set_option maxRecDepth 100000 in
theorem kt_d13 : kt_cD 13 kt_13 = true := by decide +kernel
