theorem tw_in2 {h : Nat × Nat} {w : Jvm.Cond} (h1 : tw_at h = some w) (h2 : goodWord w = true) : w ∈ tw_Ts := by
  unfold tw_at at h1
  obtain ⟨l, g1, g2⟩ := Option.bind_eq_some_iff.mp h1
  refine List.mem_filter.mpr ⟨?_, h2⟩
  rw [← tw_tb_eq]
  exact List.mem_flatten.mpr ⟨l, List.mem_of_getElem? g1, List.mem_of_getElem? g2⟩

set_option maxRecDepth 100000 in
theorem tw_cw1 : Jvm.Cond.code (tw_nm 1) (tw_cc 1) (tt_mi 1).1 (tw_rt 1) ∈ tw_Ts := tw_in2 (h := (3, 102)) rfl rfl
set_option maxRecDepth 100000 in
theorem tw_cw2 : Jvm.Cond.code (tw_nm 2) (tw_cc 2) (tt_mi 2).1 (tw_rt 2) ∈ tw_Ts := tw_in2 (h := (3, 96)) rfl rfl
set_option maxRecDepth 100000 in
theorem tw_cw3 : Jvm.Cond.code (tw_nm 3) (tw_cc 3) (tt_mi 3).1 (tw_rt 3) ∈ tw_Ts := tw_in2 (h := (3, 106)) rfl rfl
set_option maxRecDepth 100000 in
theorem tw_cw4 : Jvm.Cond.code (tw_nm 4) (tw_cc 4) (tt_mi 4).1 (tw_rt 4) ∈ tw_Ts := tw_in2 (h := (3, 92)) rfl rfl
set_option maxRecDepth 100000 in
theorem tw_cw5 : Jvm.Cond.code (tw_nm 5) (tw_cc 5) (tt_mi 5).1 (tw_rt 5) ∈ tw_Ts := tw_in2 (h := (3, 109)) rfl rfl
set_option maxRecDepth 100000 in
theorem tw_cw6 : Jvm.Cond.code (tw_nm 6) (tw_cc 6) (tt_mi 6).1 (tw_rt 6) ∈ tw_Ts := tw_in2 (h := (4, 229)) rfl rfl
set_option maxRecDepth 100000 in
theorem tw_cw7 : Jvm.Cond.code (tw_nm 7) (tw_cc 7) (tt_mi 7).1 (tw_rt 7) ∈ tw_Ts := tw_in2 (h := (3, 235)) rfl rfl
set_option maxRecDepth 100000 in
theorem tw_cw8 : Jvm.Cond.code (tw_nm 8) (tw_cc 8) (tt_mi 8).1 (tw_rt 8) ∈ tw_Ts := tw_in2 (h := (4, 17)) rfl rfl
set_option maxRecDepth 100000 in
theorem tw_cw9 : Jvm.Cond.code (tw_nm 9) (tw_cc 9) (tt_mi 9).1 (tw_rt 9) ∈ tw_Ts := tw_in2 (h := (6, 125)) rfl rfl
set_option maxRecDepth 100000 in
theorem tw_cw10 : Jvm.Cond.code (tw_nm 10) (tw_cc 10) (tt_mi 10).1 (tw_rt 10) ∈ tw_Ts := tw_in2 (h := (5, 98)) rfl rfl
set_option maxRecDepth 100000 in
theorem tw_cw11 : Jvm.Cond.code (tw_nm 11) (tw_cc 11) (tt_mi 11).1 (tw_rt 11) ∈ tw_Ts := tw_in2 (h := (4, 107)) rfl rfl
set_option maxRecDepth 100000 in
theorem tw_cw12 : Jvm.Cond.code (tw_nm 12) (tw_cc 12) (tt_mi 12).1 (tw_rt 12) ∈ tw_Ts := tw_in2 (h := (4, 14)) rfl rfl
set_option maxRecDepth 100000 in
theorem tw_cw13 : Jvm.Cond.code (tw_nm 13) (tw_cc 13) (tt_mi 13).1 (tw_rt 13) ∈ tw_Ts := tw_in2 (h := (3, 58)) rfl rfl
set_option maxRecDepth 100000 in
theorem tw_cw14 : Jvm.Cond.code (tw_nm 14) (tw_cc 14) (tt_mi 14).1 (tw_rt 14) ∈ tw_Ts := tw_in2 (h := (6, 94)) rfl rfl
set_option maxRecDepth 100000 in
theorem tw_cw15 : Jvm.Cond.code (tw_nm 15) (tw_cc 15) (tt_mi 15).1 (tw_rt 15) ∈ tw_Ts := tw_in2 (h := (5, 196)) rfl rfl
set_option maxRecDepth 100000 in
theorem tw_cw16 : Jvm.Cond.code (tw_nm 16) (tw_cc 16) (tt_mi 16).1 (tw_rt 16) ∈ tw_Ts := tw_in2 (h := (5, 137)) rfl rfl
set_option maxRecDepth 100000 in
theorem tw_cw17 : Jvm.Cond.code (tw_nm 17) (tw_cc 17) (tt_mi 17).1 (tw_rt 17) ∈ tw_Ts := tw_in2 (h := (5, 150)) rfl rfl
set_option maxRecDepth 100000 in
theorem tw_cw18 : Jvm.Cond.code (tw_nm 18) (tw_cc 18) (tt_mi 18).1 (tw_rt 18) ∈ tw_Ts := tw_in2 (h := (5, 107)) rfl rfl
set_option maxRecDepth 100000 in
theorem tw_cw19 : Jvm.Cond.code (tw_nm 19) (tw_cc 19) (tt_mi 19).1 (tw_rt 19) ∈ tw_Ts := tw_in2 (h := (5, 129)) rfl rfl
set_option maxRecDepth 100000 in
theorem tw_cw20 : Jvm.Cond.code (tw_nm 20) (tw_cc 20) (tt_mi 20).1 (tw_rt 20) ∈ tw_Ts := tw_in2 (h := (4, 41)) rfl rfl
set_option maxRecDepth 100000 in
theorem tw_cw21 : Jvm.Cond.code (tw_nm 21) (tw_cc 21) (tt_mi 21).1 (tw_rt 21) ∈ tw_Ts := tw_in2 (h := (5, 87)) rfl rfl
set_option maxRecDepth 100000 in
theorem tw_cw22 : Jvm.Cond.code (tw_nm 22) (tw_cc 22) (tt_mi 22).1 (tw_rt 22) ∈ tw_Ts := tw_in2 (h := (5, 91)) rfl rfl
set_option maxRecDepth 100000 in
theorem tw_cw23 : Jvm.Cond.code (tw_nm 23) (tw_cc 23) (tt_mi 23).1 (tw_rt 23) ∈ tw_Ts := tw_in2 (h := (5, 103)) rfl rfl
set_option maxRecDepth 100000 in
theorem tw_cw24 : Jvm.Cond.code (tw_nm 24) (tw_cc 24) (tt_mi 24).1 (tw_rt 24) ∈ tw_Ts := tw_in2 (h := (5, 125)) rfl rfl
set_option maxRecDepth 100000 in
theorem tw_cw25 : Jvm.Cond.code (tw_nm 25) (tw_cc 25) (tt_mi 25).1 (tw_rt 25) ∈ tw_Ts := tw_in2 (h := (5, 117)) rfl rfl
set_option maxRecDepth 100000 in
theorem tw_cw26 : Jvm.Cond.code (tw_nm 26) (tw_cc 26) (tt_mi 26).1 (tw_rt 26) ∈ tw_Ts := tw_in2 (h := (5, 141)) rfl rfl
set_option maxRecDepth 100000 in
theorem tw_cw27 : Jvm.Cond.code (tw_nm 27) (tw_cc 27) (tt_mi 27).1 (tw_rt 27) ∈ tw_Ts := tw_in2 (h := (5, 145)) rfl rfl
set_option maxRecDepth 100000 in
theorem tw_cw28 : Jvm.Cond.code (tw_nm 28) (tw_cc 28) (tt_mi 28).1 (tw_rt 28) ∈ tw_Ts := tw_in2 (h := (5, 112)) rfl rfl
set_option maxRecDepth 100000 in
theorem tw_cw29 : Jvm.Cond.code (tw_nm 29) (tw_cc 29) (tt_mi 29).1 (tw_rt 29) ∈ tw_Ts := tw_in2 (h := (4, 237)) rfl rfl
set_option maxRecDepth 100000 in
theorem tw_cw30 : Jvm.Cond.code (tw_nm 30) (tw_cc 30) (tt_mi 30).1 (tw_rt 30) ∈ tw_Ts := tw_in2 (h := (5, 177)) rfl rfl
set_option maxRecDepth 100000 in
theorem tw_cw31 : Jvm.Cond.code (tw_nm 31) (tw_cc 31) (tt_mi 31).1 (tw_rt 31) ∈ tw_Ts := tw_in2 (h := (6, 107)) rfl rfl
set_option maxRecDepth 100000 in
theorem tw_cw32 : Jvm.Cond.code (tw_nm 32) (tw_cc 32) (tt_mi 32).1 (tw_rt 32) ∈ tw_Ts := tw_in2 (h := (4, 171)) rfl rfl
set_option maxRecDepth 100000 in
theorem tw_cw33 : Jvm.Cond.code (tw_nm 33) (tw_cc 33) (tt_mi 33).1 (tw_rt 33) ∈ tw_Ts := tw_in2 (h := (5, 154)) rfl rfl
set_option maxRecDepth 100000 in
theorem tw_cw34 : Jvm.Cond.code (tw_nm 34) (tw_cc 34) (tt_mi 34).1 (tw_rt 34) ∈ tw_Ts := tw_in2 (h := (5, 164)) rfl rfl
set_option maxRecDepth 100000 in
theorem tw_cw35 : Jvm.Cond.code (tw_nm 35) (tw_cc 35) (tt_mi 35).1 (tw_rt 35) ∈ tw_Ts := tw_in2 (h := (5, 230)) rfl rfl
set_option maxRecDepth 100000 in
theorem tw_cw36 : Jvm.Cond.code (tw_nm 36) (tw_cc 36) (tt_mi 36).1 (tw_rt 36) ∈ tw_Ts := tw_in2 (h := (5, 238)) rfl rfl
set_option maxRecDepth 100000 in
theorem tw_cw37 : Jvm.Cond.code (tw_nm 37) (tw_cc 37) (tt_mi 37).1 (tw_rt 37) ∈ tw_Ts := tw_in2 (h := (5, 234)) rfl rfl
set_option maxRecDepth 100000 in
theorem tw_cw38 : Jvm.Cond.code (tw_nm 38) (tw_cc 38) (tt_mi 38).1 (tw_rt 38) ∈ tw_Ts := tw_in2 (h := (5, 186)) rfl rfl
set_option maxRecDepth 100000 in
theorem tw_cw39 : Jvm.Cond.code (tw_nm 39) (tw_cc 39) (tt_mi 39).1 (tw_rt 39) ∈ tw_Ts := tw_in2 (h := (6, 74)) rfl rfl
set_option maxRecDepth 100000 in
theorem tw_cw40 : Jvm.Cond.code (tw_nm 40) (tw_cc 40) (tt_mi 40).1 (tw_rt 40) ∈ tw_Ts := tw_in2 (h := (4, 151)) rfl rfl
set_option maxRecDepth 100000 in
theorem tw_cw41 : Jvm.Cond.code (tw_nm 41) (tw_cc 41) (tt_mi 41).1 (tw_rt 41) ∈ tw_Ts := tw_in2 (h := (4, 190)) rfl rfl
set_option maxRecDepth 100000 in
theorem tw_cw42 : Jvm.Cond.code (tw_nm 42) (tw_cc 42) (tt_mi 42).1 (tw_rt 42) ∈ tw_Ts := tw_in2 (h := (4, 163)) rfl rfl
set_option maxRecDepth 100000 in
theorem tw_cw43 : Jvm.Cond.code (tw_nm 43) (tw_cc 43) (tt_mi 43).1 (tw_rt 43) ∈ tw_Ts := tw_in2 (h := (6, 2)) rfl rfl
set_option maxRecDepth 100000 in
theorem tw_cw44 : Jvm.Cond.code (tw_nm 44) (tw_cc 44) (tt_mi 44).1 (tw_rt 44) ∈ tw_Ts := tw_in2 (h := (3, 47)) rfl rfl
set_option maxRecDepth 100000 in
theorem tw_cw45 : Jvm.Cond.code (tw_nm 45) (tw_cc 45) (tt_mi 45).1 (tw_rt 45) ∈ tw_Ts := tw_in2 (h := (6, 33)) rfl rfl
set_option maxRecDepth 100000 in
theorem tw_cw46 : Jvm.Cond.code (tw_nm 46) (tw_cc 46) (tt_mi 46).1 (tw_rt 46) ∈ tw_Ts := tw_in2 (h := (6, 29)) rfl rfl
set_option maxRecDepth 100000 in
theorem tw_cw47 : Jvm.Cond.code (tw_nm 47) (tw_cc 47) (tt_mi 47).1 (tw_rt 47) ∈ tw_Ts := tw_in2 (h := (4, 45)) rfl rfl
set_option maxRecDepth 100000 in
theorem tw_cw48 : Jvm.Cond.code (tw_nm 48) (tw_cc 48) (tt_mi 48).1 (tw_rt 48) ∈ tw_Ts := tw_in2 (h := (3, 39)) rfl rfl
set_option maxRecDepth 100000 in
theorem tw_cw49 : Jvm.Cond.code (tw_nm 49) (tw_cc 49) (tt_mi 49).1 (tw_rt 49) ∈ tw_Ts := tw_in2 (h := (4, 221)) rfl rfl
set_option maxRecDepth 100000 in
theorem tw_cw50 : Jvm.Cond.code (tw_nm 50) (tw_cc 50) (tt_mi 50).1 (tw_rt 50) ∈ tw_Ts := tw_in2 (h := (5, 1)) rfl rfl
set_option maxRecDepth 100000 in
theorem tw_cw51 : Jvm.Cond.code (tw_nm 51) (tw_cc 51) (tt_mi 51).1 (tw_rt 51) ∈ tw_Ts := tw_in2 (h := (4, 209)) rfl rfl
set_option maxRecDepth 100000 in
theorem tw_cw52 : Jvm.Cond.code (tw_nm 52) (tw_cc 52) (tt_mi 52).1 (tw_rt 52) ∈ tw_Ts := tw_in2 (h := (4, 213)) rfl rfl
set_option maxRecDepth 100000 in
theorem tw_cw53 : Jvm.Cond.code (tw_nm 53) (tw_cc 53) (tt_mi 53).1 (tw_rt 53) ∈ tw_Ts := tw_in2 (h := (4, 49)) rfl rfl
set_option maxRecDepth 100000 in
theorem tw_cw54 : Jvm.Cond.code (tw_nm 54) (tw_cc 54) (tt_mi 54).1 (tw_rt 54) ∈ tw_Ts := tw_in2 (h := (4, 123)) rfl rfl
set_option maxRecDepth 100000 in
theorem tw_cw55 : Jvm.Cond.code (tw_nm 55) (tw_cc 55) (tt_mi 55).1 (tw_rt 55) ∈ tw_Ts := tw_in2 (h := (6, 16)) rfl rfl
set_option maxRecDepth 100000 in
theorem tw_cw56 : Jvm.Cond.code (tw_nm 56) (tw_cc 56) (tt_mi 56).1 (tw_rt 56) ∈ tw_Ts := tw_in2 (h := (4, 195)) rfl rfl
set_option maxRecDepth 100000 in
theorem tw_cw57 : Jvm.Cond.code (tw_nm 57) (tw_cc 57) (tt_mi 57).1 (tw_rt 57) ∈ tw_Ts := tw_in2 (h := (6, 70)) rfl rfl
set_option maxRecDepth 100000 in
theorem tw_cw58 : Jvm.Cond.code (tw_nm 58) (tw_cc 58) (tt_mi 58).1 (tw_rt 58) ∈ tw_Ts := tw_in2 (h := (5, 67)) rfl rfl
set_option maxRecDepth 100000 in
theorem tw_cw59 : Jvm.Cond.code (tw_nm 59) (tw_cc 59) (tt_mi 59).1 (tw_rt 59) ∈ tw_Ts := tw_in2 (h := (4, 56)) rfl rfl
set_option maxRecDepth 100000 in
theorem tw_cw60 : Jvm.Cond.code (tw_nm 60) (tw_cc 60) (tt_mi 60).1 (tw_rt 60) ∈ tw_Ts := tw_in2 (h := (4, 53)) rfl rfl
theorem tw_cwc0 : ∀ y ∈ ([1, 2, 3, 4, 5, 6, 7, 8, 9, 10, 11, 12, 13, 14, 15, 16, 17, 18, 19, 20, 21, 22, 23, 24, 25, 26, 27, 28, 29, 30, 31, 32, 33, 34, 35, 36, 37, 38, 39, 40, 41, 42, 43, 44, 45, 46, 47, 48, 49, 50, 51, 52, 53, 54, 55, 56, 57, 58, 59, 60] : List Nat), Jvm.Cond.code (tw_nm y) (tw_cc y) (tt_mi y).1 (tw_rt y) ∈ tw_Ts := List.forall_mem_cons.mpr ⟨tw_cw1, List.forall_mem_cons.mpr ⟨tw_cw2, List.forall_mem_cons.mpr ⟨tw_cw3, List.forall_mem_cons.mpr ⟨tw_cw4, List.forall_mem_cons.mpr ⟨tw_cw5, List.forall_mem_cons.mpr ⟨tw_cw6, List.forall_mem_cons.mpr ⟨tw_cw7, List.forall_mem_cons.mpr ⟨tw_cw8, List.forall_mem_cons.mpr ⟨tw_cw9, List.forall_mem_cons.mpr ⟨tw_cw10, List.forall_mem_cons.mpr ⟨tw_cw11, List.forall_mem_cons.mpr ⟨tw_cw12, List.forall_mem_cons.mpr ⟨tw_cw13, List.forall_mem_cons.mpr ⟨tw_cw14, List.forall_mem_cons.mpr ⟨tw_cw15, List.forall_mem_cons.mpr ⟨tw_cw16, List.forall_mem_cons.mpr ⟨tw_cw17, List.forall_mem_cons.mpr ⟨tw_cw18, List.forall_mem_cons.mpr ⟨tw_cw19, List.forall_mem_cons.mpr ⟨tw_cw20, List.forall_mem_cons.mpr ⟨tw_cw21, List.forall_mem_cons.mpr ⟨tw_cw22, List.forall_mem_cons.mpr ⟨tw_cw23, List.forall_mem_cons.mpr ⟨tw_cw24, List.forall_mem_cons.mpr ⟨tw_cw25, List.forall_mem_cons.mpr ⟨tw_cw26, List.forall_mem_cons.mpr ⟨tw_cw27, List.forall_mem_cons.mpr ⟨tw_cw28, List.forall_mem_cons.mpr ⟨tw_cw29, List.forall_mem_cons.mpr ⟨tw_cw30, List.forall_mem_cons.mpr ⟨tw_cw31, List.forall_mem_cons.mpr ⟨tw_cw32, List.forall_mem_cons.mpr ⟨tw_cw33, List.forall_mem_cons.mpr ⟨tw_cw34, List.forall_mem_cons.mpr ⟨tw_cw35, List.forall_mem_cons.mpr ⟨tw_cw36, List.forall_mem_cons.mpr ⟨tw_cw37, List.forall_mem_cons.mpr ⟨tw_cw38, List.forall_mem_cons.mpr ⟨tw_cw39, List.forall_mem_cons.mpr ⟨tw_cw40, List.forall_mem_cons.mpr ⟨tw_cw41, List.forall_mem_cons.mpr ⟨tw_cw42, List.forall_mem_cons.mpr ⟨tw_cw43, List.forall_mem_cons.mpr ⟨tw_cw44, List.forall_mem_cons.mpr ⟨tw_cw45, List.forall_mem_cons.mpr ⟨tw_cw46, List.forall_mem_cons.mpr ⟨tw_cw47, List.forall_mem_cons.mpr ⟨tw_cw48, List.forall_mem_cons.mpr ⟨tw_cw49, List.forall_mem_cons.mpr ⟨tw_cw50, List.forall_mem_cons.mpr ⟨tw_cw51, List.forall_mem_cons.mpr ⟨tw_cw52, List.forall_mem_cons.mpr ⟨tw_cw53, List.forall_mem_cons.mpr ⟨tw_cw54, List.forall_mem_cons.mpr ⟨tw_cw55, List.forall_mem_cons.mpr ⟨tw_cw56, List.forall_mem_cons.mpr ⟨tw_cw57, List.forall_mem_cons.mpr ⟨tw_cw58, List.forall_mem_cons.mpr ⟨tw_cw59, List.forall_mem_cons.mpr ⟨tw_cw60, fun _ h => absurd h List.not_mem_nil⟩⟩⟩⟩⟩⟩⟩⟩⟩⟩⟩⟩⟩⟩⟩⟩⟩⟩⟩⟩⟩⟩⟩⟩⟩⟩⟩⟩⟩⟩⟩⟩⟩⟩⟩⟩⟩⟩⟩⟩⟩⟩⟩⟩⟩⟩⟩⟩⟩⟩⟩⟩⟩⟩⟩⟩⟩⟩⟩⟩
