theorem kt_at.mem {h : Nat × Nat} {w : Jvm.Cond} (hh : kt_at h = some w) : w ∈ lw_tbl := by
  unfold kt_at at hh
  obtain ⟨l, h1, h2⟩ := Option.bind_eq_some_iff.mp hh
  rw [← kt_tb_eq]
  exact List.mem_flatten.mpr ⟨l, List.mem_of_getElem? h1, List.mem_of_getElem? h2⟩
set_option maxRecDepth 100000 in
theorem kt_ao0 : kt_at (1, 39) = some (.arrayOver (.object "WheelTown$Event")) := by decide +kernel
set_option maxRecDepth 100000 in
theorem kt_ao1 : kt_at (1, 37) = some (.arrayOver (.object "WheelTown$Meter")) := by decide +kernel
set_option maxRecDepth 100000 in
theorem kt_ao2 : kt_at (2, 64) = some (.arrayOver (.object "WheelTown$Readings")) := by decide +kernel
set_option maxRecDepth 100000 in
theorem kt_ao3 : kt_at (2, 203) = some (.arrayOver (.object "WheelTown$Slot")) := by decide +kernel
set_option maxRecDepth 100000 in
theorem kt_ao4 : kt_at (1, 41) = some (.arrayOver (.object "WheelTown$Tariff")) := by decide +kernel
set_option maxRecDepth 100000 in
theorem kt_ao5 : kt_at (2, 63) = some (.arrayOver (.object "WheelTown$Town")) := by decide +kernel
set_option maxRecDepth 100000 in
theorem kt_aoa : kt_at (2, 72) = some (.arrayOver (.array .int)) := by decide +kernel
set_option maxRecDepth 100000 in
theorem kt_nw0 : kt_at (1, 232) = some (.methodLinkNest "WheelTown" 26 ⟨"WheelTown$Parser", "<init>", "()V"⟩ "WheelTown") := by decide +kernel
set_option maxRecDepth 100000 in
theorem kt_nw1 : kt_at (2, 34) = some (.methodLinkNest "WheelTown" 39 ⟨"WheelTown$Readings", "<init>", "()V"⟩ "WheelTown") := by decide +kernel
set_option maxRecDepth 100000 in
theorem kt_nw2 : kt_at (2, 67) = some (.methodLinkNest "WheelTown" 54 ⟨"WheelTown$Stretches", "<init>", "()V"⟩ "WheelTown") := by decide +kernel
set_option maxRecDepth 100000 in
theorem kt_nw3 : kt_at (2, 105) = some (.methodLinkNest "WheelTown" 61 ⟨"WheelTown$Tally", "<init>", "()V"⟩ "WheelTown") := by decide +kernel
set_option maxRecDepth 100000 in
theorem kt_nw4 : kt_at (2, 118) = some (.methodLinkNest "WheelTown" 68 ⟨"WheelTown$Supposed", "<init>", "()V"⟩ "WheelTown") := by decide +kernel
set_option maxRecDepth 100000 in
theorem kt_nw5 : kt_at (2, 169) = some (.methodLinkNest "WheelTown" 75 ⟨"WheelTown$Walks", "<init>", "()V"⟩ "WheelTown") := by decide +kernel
set_option maxRecDepth 100000 in
theorem kt_nw6 : kt_at (2, 205) = some (.methodLinkNest "WheelTown" 93 ⟨"WheelTown$Slot", "<init>", "()V"⟩ "WheelTown") := by decide +kernel
set_option maxRecDepth 100000 in
theorem kt_nw7 : kt_at (2, 124) = some (.methodLinkNest "WheelTown$Supposed" 32 ⟨"WheelTown$Tally", "<init>", "()V"⟩ "WheelTown") := by decide +kernel
set_option maxRecDepth 100000 in
theorem kt_nw8 : kt_at (1, 43) = some (.methodLinkNest "WheelTown$Town" 51 ⟨"WheelTown$Meter", "<init>", "()V"⟩ "WheelTown") := by decide +kernel
set_option maxRecDepth 100000 in
theorem kt_nw9 : kt_at (1, 114) = some (.methodLinkNest "WheelTown$Town" 52 ⟨"WheelTown$Event", "<init>", "()V"⟩ "WheelTown") := by decide +kernel
set_option maxRecDepth 100000 in
theorem kt_nw10 : kt_at (1, 145) = some (.methodLinkNest "WheelTown$Town" 53 ⟨"WheelTown$Tariff", "<init>", "()V"⟩ "WheelTown") := by decide +kernel
theorem kt_dy {args : Array Value} {s : State} (hts : ∀ w ∈ lw_tbl, w.before args s = true) : kc_Dy kt_AOs kt_NWs s := by
  refine ⟨fun C hC => ?_, hts _ (kt_at.mem kt_aoa), fun q hq => ?_⟩
  · simp only [kt_AOs, List.mem_cons, List.not_mem_nil, or_false] at hC
    rcases hC with rfl | rfl | rfl | rfl | rfl | rfl
    · exact va_AO.of (hts _ (kt_at.mem kt_ao0))
    · exact va_AO.of (hts _ (kt_at.mem kt_ao1))
    · exact va_AO.of (hts _ (kt_at.mem kt_ao2))
    · exact va_AO.of (hts _ (kt_at.mem kt_ao3))
    · exact va_AO.of (hts _ (kt_at.mem kt_ao4))
    · exact va_AO.of (hts _ (kt_at.mem kt_ao5))
  · simp only [kt_NWs, List.mem_cons, List.not_mem_nil, or_false] at hq
    rcases hq with rfl | rfl | rfl | rfl | rfl | rfl | rfl | rfl | rfl | rfl | rfl
    · exact va_Nw.of rfl (hts _ (kt_at.mem kt_nw0))
    · exact va_Nw.of rfl (hts _ (kt_at.mem kt_nw1))
    · exact va_Nw.of rfl (hts _ (kt_at.mem kt_nw2))
    · exact va_Nw.of rfl (hts _ (kt_at.mem kt_nw3))
    · exact va_Nw.of rfl (hts _ (kt_at.mem kt_nw4))
    · exact va_Nw.of rfl (hts _ (kt_at.mem kt_nw5))
    · exact va_Nw.of rfl (hts _ (kt_at.mem kt_nw6))
    · exact va_Nw.of rfl (hts _ (kt_at.mem kt_nw7))
    · exact va_Nw.of rfl (hts _ (kt_at.mem kt_nw8))
    · exact va_Nw.of rfl (hts _ (kt_at.mem kt_nw9))
    · exact va_Nw.of rfl (hts _ (kt_at.mem kt_nw10))
