set_option maxRecDepth 100000 in
theorem tw_cw301 : Jvm.Cond.code (tw_nm 301) (tw_cc 301) (tt_mi 301).1 (tw_rt 301) ∈ tw_Ts := tw_in2 (h := (3, 62)) rfl rfl
set_option maxRecDepth 100000 in
theorem tw_cw302 : Jvm.Cond.code (tw_nm 302) (tw_cc 302) (tt_mi 302).1 (tw_rt 302) ∈ tw_Ts := tw_in2 (h := (6, 86)) rfl rfl
set_option maxRecDepth 100000 in
theorem tw_cw303 : Jvm.Cond.code (tw_nm 303) (tw_cc 303) (tt_mi 303).1 (tw_rt 303) ∈ tw_Ts := tw_in2 (h := (4, 33)) rfl rfl
set_option maxRecDepth 100000 in
theorem tw_cw304 : Jvm.Cond.code (tw_nm 304) (tw_cc 304) (tt_mi 304).1 (tw_rt 304) ∈ tw_Ts := tw_in2 (h := (5, 29)) rfl rfl
set_option maxRecDepth 100000 in
theorem tw_cw305 : Jvm.Cond.code (tw_nm 305) (tw_cc 305) (tt_mi 305).1 (tw_rt 305) ∈ tw_Ts := tw_in2 (h := (5, 212)) rfl rfl
set_option maxRecDepth 100000 in
theorem tw_cw306 : Jvm.Cond.code (tw_nm 306) (tw_cc 306) (tt_mi 306).1 (tw_rt 306) ∈ tw_Ts := tw_in2 (h := (4, 29)) rfl rfl
set_option maxRecDepth 100000 in
theorem tw_cw307 : Jvm.Cond.code (tw_nm 307) (tw_cc 307) (tt_mi 307).1 (tw_rt 307) ∈ tw_Ts := tw_in2 (h := (4, 37)) rfl rfl
set_option maxRecDepth 100000 in
theorem tw_cw308 : Jvm.Cond.code (tw_nm 308) (tw_cc 308) (tt_mi 308).1 (tw_rt 308) ∈ tw_Ts := tw_in2 (h := (5, 95)) rfl rfl
set_option maxRecDepth 100000 in
theorem tw_cw309 : Jvm.Cond.code (tw_nm 309) (tw_cc 309) (tt_mi 309).1 (tw_rt 309) ∈ tw_Ts := tw_in2 (h := (4, 25)) rfl rfl
set_option maxRecDepth 100000 in
theorem tw_cw310 : Jvm.Cond.code (tw_nm 310) (tw_cc 310) (tt_mi 310).1 (tw_rt 310) ∈ tw_Ts := tw_in2 (h := (9, 136)) rfl rfl
set_option maxRecDepth 100000 in
theorem tw_cw311 : Jvm.Cond.code (tw_nm 311) (tw_cc 311) (tt_mi 311).1 (tw_rt 311) ∈ tw_Ts := tw_in2 (h := (9, 42)) rfl rfl
set_option maxRecDepth 100000 in
theorem tw_cw312 : Jvm.Cond.code (tw_nm 312) (tw_cc 312) (tt_mi 312).1 (tw_rt 312) ∈ tw_Ts := tw_in2 (h := (9, 50)) rfl rfl
set_option maxRecDepth 100000 in
theorem tw_cw313 : Jvm.Cond.code (tw_nm 313) (tw_cc 313) (tt_mi 313).1 (tw_rt 313) ∈ tw_Ts := tw_in2 (h := (9, 46)) rfl rfl
theorem tw_cwc5 : ∀ y ∈ ([301, 302, 303, 304, 305, 306, 307, 308, 309, 310, 311, 312, 313] : List Nat), Jvm.Cond.code (tw_nm y) (tw_cc y) (tt_mi y).1 (tw_rt y) ∈ tw_Ts := List.forall_mem_cons.mpr ⟨tw_cw301, List.forall_mem_cons.mpr ⟨tw_cw302, List.forall_mem_cons.mpr ⟨tw_cw303, List.forall_mem_cons.mpr ⟨tw_cw304, List.forall_mem_cons.mpr ⟨tw_cw305, List.forall_mem_cons.mpr ⟨tw_cw306, List.forall_mem_cons.mpr ⟨tw_cw307, List.forall_mem_cons.mpr ⟨tw_cw308, List.forall_mem_cons.mpr ⟨tw_cw309, List.forall_mem_cons.mpr ⟨tw_cw310, List.forall_mem_cons.mpr ⟨tw_cw311, List.forall_mem_cons.mpr ⟨tw_cw312, List.forall_mem_cons.mpr ⟨tw_cw313, fun _ h => absurd h List.not_mem_nil⟩⟩⟩⟩⟩⟩⟩⟩⟩⟩⟩⟩⟩
