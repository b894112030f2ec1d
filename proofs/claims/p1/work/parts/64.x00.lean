theorem kt_in2 {h : Nat × Nat} {w : Jvm.Cond} (h1 : kt_at h = some w) (h2 : goodWord w = true) : w ∈ kt_Ts := by
  unfold kt_at at h1
  obtain ⟨l, g1, g2⟩ := Option.bind_eq_some_iff.mp h1
  refine List.mem_filter.mpr ⟨?_, h2⟩
  rw [← kt_tb_eq]
  exact List.mem_flatten.mpr ⟨l, List.mem_of_getElem? g1, List.mem_of_getElem? g2⟩

set_option maxRecDepth 100000 in
theorem kt_cw1 : Jvm.Cond.code (kt_nm 1) (kt_cc 1) (kt_mi 1).1 (kt_rt 1) ∈ kt_Ts := kt_in2 (h := (3, 235)) rfl rfl
set_option maxRecDepth 100000 in
theorem kt_cw2 : Jvm.Cond.code (kt_nm 2) (kt_cc 2) (kt_mi 2).1 (kt_rt 2) ∈ kt_Ts := kt_in2 (h := (6, 125)) rfl rfl
set_option maxRecDepth 100000 in
theorem kt_cw3 : Jvm.Cond.code (kt_nm 3) (kt_cc 3) (kt_mi 3).1 (kt_rt 3) ∈ kt_Ts := kt_in2 (h := (6, 94)) rfl rfl
set_option maxRecDepth 100000 in
theorem kt_cw4 : Jvm.Cond.code (kt_nm 4) (kt_cc 4) (kt_mi 4).1 (kt_rt 4) ∈ kt_Ts := kt_in2 (h := (1, 116)) rfl rfl
set_option maxRecDepth 100000 in
theorem kt_cw5 : Jvm.Cond.code (kt_nm 5) (kt_cc 5) (kt_mi 5).1 (kt_rt 5) ∈ kt_Ts := kt_in2 (h := (5, 196)) rfl rfl
set_option maxRecDepth 100000 in
theorem kt_cw6 : Jvm.Cond.code (kt_nm 6) (kt_cc 6) (kt_mi 6).1 (kt_rt 6) ∈ kt_Ts := kt_in2 (h := (5, 150)) rfl rfl
set_option maxRecDepth 100000 in
theorem kt_cw7 : Jvm.Cond.code (kt_nm 7) (kt_cc 7) (kt_mi 7).1 (kt_rt 7) ∈ kt_Ts := kt_in2 (h := (4, 41)) rfl rfl
set_option maxRecDepth 100000 in
theorem kt_cw8 : Jvm.Cond.code (kt_nm 8) (kt_cc 8) (kt_mi 8).1 (kt_rt 8) ∈ kt_Ts := kt_in2 (h := (2, 171)) rfl rfl
set_option maxRecDepth 100000 in
theorem kt_cw9 : Jvm.Cond.code (kt_nm 9) (kt_cc 9) (kt_mi 9).1 (kt_rt 9) ∈ kt_Ts := kt_in2 (h := (5, 141)) rfl rfl
set_option maxRecDepth 100000 in
theorem kt_cw10 : Jvm.Cond.code (kt_nm 10) (kt_cc 10) (kt_mi 10).1 (kt_rt 10) ∈ kt_Ts := kt_in2 (h := (5, 145)) rfl rfl
set_option maxRecDepth 100000 in
theorem kt_cw11 : Jvm.Cond.code (kt_nm 11) (kt_cc 11) (kt_mi 11).1 (kt_rt 11) ∈ kt_Ts := kt_in2 (h := (4, 237)) rfl rfl
set_option maxRecDepth 100000 in
theorem kt_cw12 : Jvm.Cond.code (kt_nm 12) (kt_cc 12) (kt_mi 12).1 (kt_rt 12) ∈ kt_Ts := kt_in2 (h := (5, 177)) rfl rfl
set_option maxRecDepth 100000 in
theorem kt_cw13 : Jvm.Cond.code (kt_nm 13) (kt_cc 13) (kt_mi 13).1 (kt_rt 13) ∈ kt_Ts := kt_in2 (h := (6, 107)) rfl rfl
set_option maxRecDepth 100000 in
theorem kt_cw14 : Jvm.Cond.code (kt_nm 14) (kt_cc 14) (kt_mi 14).1 (kt_rt 14) ∈ kt_Ts := kt_in2 (h := (4, 171)) rfl rfl
set_option maxRecDepth 100000 in
theorem kt_cw15 : Jvm.Cond.code (kt_nm 15) (kt_cc 15) (kt_mi 15).1 (kt_rt 15) ∈ kt_Ts := kt_in2 (h := (5, 154)) rfl rfl
set_option maxRecDepth 100000 in
theorem kt_cw16 : Jvm.Cond.code (kt_nm 16) (kt_cc 16) (kt_mi 16).1 (kt_rt 16) ∈ kt_Ts := kt_in2 (h := (5, 164)) rfl rfl
set_option maxRecDepth 100000 in
theorem kt_cw17 : Jvm.Cond.code (kt_nm 17) (kt_cc 17) (kt_mi 17).1 (kt_rt 17) ∈ kt_Ts := kt_in2 (h := (5, 230)) rfl rfl
set_option maxRecDepth 100000 in
theorem kt_cw18 : Jvm.Cond.code (kt_nm 18) (kt_cc 18) (kt_mi 18).1 (kt_rt 18) ∈ kt_Ts := kt_in2 (h := (5, 234)) rfl rfl
set_option maxRecDepth 100000 in
theorem kt_cw19 : Jvm.Cond.code (kt_nm 19) (kt_cc 19) (kt_mi 19).1 (kt_rt 19) ∈ kt_Ts := kt_in2 (h := (5, 186)) rfl rfl
set_option maxRecDepth 100000 in
theorem kt_cw20 : Jvm.Cond.code (kt_nm 20) (kt_cc 20) (kt_mi 20).1 (kt_rt 20) ∈ kt_Ts := kt_in2 (h := (6, 74)) rfl rfl
set_option maxRecDepth 100000 in
theorem kt_cw21 : Jvm.Cond.code (kt_nm 21) (kt_cc 21) (kt_mi 21).1 (kt_rt 21) ∈ kt_Ts := kt_in2 (h := (4, 151)) rfl rfl
set_option maxRecDepth 100000 in
theorem kt_cw22 : Jvm.Cond.code (kt_nm 22) (kt_cc 22) (kt_mi 22).1 (kt_rt 22) ∈ kt_Ts := kt_in2 (h := (6, 2)) rfl rfl
set_option maxRecDepth 100000 in
theorem kt_cw23 : Jvm.Cond.code (kt_nm 23) (kt_cc 23) (kt_mi 23).1 (kt_rt 23) ∈ kt_Ts := kt_in2 (h := (3, 47)) rfl rfl
set_option maxRecDepth 100000 in
theorem kt_cw24 : Jvm.Cond.code (kt_nm 24) (kt_cc 24) (kt_mi 24).1 (kt_rt 24) ∈ kt_Ts := kt_in2 (h := (6, 29)) rfl rfl
set_option maxRecDepth 100000 in
theorem kt_cw25 : Jvm.Cond.code (kt_nm 25) (kt_cc 25) (kt_mi 25).1 (kt_rt 25) ∈ kt_Ts := kt_in2 (h := (4, 45)) rfl rfl
set_option maxRecDepth 100000 in
theorem kt_cw26 : Jvm.Cond.code (kt_nm 26) (kt_cc 26) (kt_mi 26).1 (kt_rt 26) ∈ kt_Ts := kt_in2 (h := (3, 39)) rfl rfl
set_option maxRecDepth 100000 in
theorem kt_cw27 : Jvm.Cond.code (kt_nm 27) (kt_cc 27) (kt_mi 27).1 (kt_rt 27) ∈ kt_Ts := kt_in2 (h := (4, 221)) rfl rfl
set_option maxRecDepth 100000 in
theorem kt_cw28 : Jvm.Cond.code (kt_nm 28) (kt_cc 28) (kt_mi 28).1 (kt_rt 28) ∈ kt_Ts := kt_in2 (h := (4, 209)) rfl rfl
set_option maxRecDepth 100000 in
theorem kt_cw29 : Jvm.Cond.code (kt_nm 29) (kt_cc 29) (kt_mi 29).1 (kt_rt 29) ∈ kt_Ts := kt_in2 (h := (4, 49)) rfl rfl
set_option maxRecDepth 100000 in
theorem kt_cw30 : Jvm.Cond.code (kt_nm 30) (kt_cc 30) (kt_mi 30).1 (kt_rt 30) ∈ kt_Ts := kt_in2 (h := (4, 123)) rfl rfl
theorem kt_cwc0 : ∀ y ∈ ([1, 2, 3, 4, 5, 6, 7, 8, 9, 10, 11, 12, 13, 14, 15, 16, 17, 18, 19, 20, 21, 22, 23, 24, 25, 26, 27, 28, 29, 30] : List Nat), Jvm.Cond.code (kt_nm y) (kt_cc y) (kt_mi y).1 (kt_rt y) ∈ kt_Ts := List.forall_mem_cons.mpr ⟨kt_cw1, List.forall_mem_cons.mpr ⟨kt_cw2, List.forall_mem_cons.mpr ⟨kt_cw3, List.forall_mem_cons.mpr ⟨kt_cw4, List.forall_mem_cons.mpr ⟨kt_cw5, List.forall_mem_cons.mpr ⟨kt_cw6, List.forall_mem_cons.mpr ⟨kt_cw7, List.forall_mem_cons.mpr ⟨kt_cw8, List.forall_mem_cons.mpr ⟨kt_cw9, List.forall_mem_cons.mpr ⟨kt_cw10, List.forall_mem_cons.mpr ⟨kt_cw11, List.forall_mem_cons.mpr ⟨kt_cw12, List.forall_mem_cons.mpr ⟨kt_cw13, List.forall_mem_cons.mpr ⟨kt_cw14, List.forall_mem_cons.mpr ⟨kt_cw15, List.forall_mem_cons.mpr ⟨kt_cw16, List.forall_mem_cons.mpr ⟨kt_cw17, List.forall_mem_cons.mpr ⟨kt_cw18, List.forall_mem_cons.mpr ⟨kt_cw19, List.forall_mem_cons.mpr ⟨kt_cw20, List.forall_mem_cons.mpr ⟨kt_cw21, List.forall_mem_cons.mpr ⟨kt_cw22, List.forall_mem_cons.mpr ⟨kt_cw23, List.forall_mem_cons.mpr ⟨kt_cw24, List.forall_mem_cons.mpr ⟨kt_cw25, List.forall_mem_cons.mpr ⟨kt_cw26, List.forall_mem_cons.mpr ⟨kt_cw27, List.forall_mem_cons.mpr ⟨kt_cw28, List.forall_mem_cons.mpr ⟨kt_cw29, List.forall_mem_cons.mpr ⟨kt_cw30, fun _ h => absurd h List.not_mem_nil⟩⟩⟩⟩⟩⟩⟩⟩⟩⟩⟩⟩⟩⟩⟩⟩⟩⟩⟩⟩⟩⟩⟩⟩⟩⟩⟩⟩⟩⟩
