set_option maxRecDepth 100000 in
theorem tw_cw121 : Jvm.Cond.code (tw_nm 121) (tw_cc 121) (tt_mi 121).1 (tw_rt 121) ∈ tw_Ts := tw_in2 (h := (8, 214)) rfl rfl
set_option maxRecDepth 100000 in
theorem tw_cw122 : Jvm.Cond.code (tw_nm 122) (tw_cc 122) (tt_mi 122).1 (tw_rt 122) ∈ tw_Ts := tw_in2 (h := (9, 132)) rfl rfl
set_option maxRecDepth 100000 in
theorem tw_cw123 : Jvm.Cond.code (tw_nm 123) (tw_cc 123) (tt_mi 123).1 (tw_rt 123) ∈ tw_Ts := tw_in2 (h := (9, 145)) rfl rfl
set_option maxRecDepth 100000 in
theorem tw_cw124 : Jvm.Cond.code (tw_nm 124) (tw_cc 124) (tt_mi 124).1 (tw_rt 124) ∈ tw_Ts := tw_in2 (h := (8, 166)) rfl rfl
set_option maxRecDepth 100000 in
theorem tw_cw125 : Jvm.Cond.code (tw_nm 125) (tw_cc 125) (tt_mi 125).1 (tw_rt 125) ∈ tw_Ts := tw_in2 (h := (7, 210)) rfl rfl
set_option maxRecDepth 100000 in
theorem tw_cw126 : Jvm.Cond.code (tw_nm 126) (tw_cc 126) (tt_mi 126).1 (tw_rt 126) ∈ tw_Ts := tw_in2 (h := (9, 203)) rfl rfl
set_option maxRecDepth 100000 in
theorem tw_cw127 : Jvm.Cond.code (tw_nm 127) (tw_cc 127) (tt_mi 127).1 (tw_rt 127) ∈ tw_Ts := tw_in2 (h := (8, 163)) rfl rfl
set_option maxRecDepth 100000 in
theorem tw_cw128 : Jvm.Cond.code (tw_nm 128) (tw_cc 128) (tt_mi 128).1 (tw_rt 128) ∈ tw_Ts := tw_in2 (h := (7, 162)) rfl rfl
set_option maxRecDepth 100000 in
theorem tw_cw129 : Jvm.Cond.code (tw_nm 129) (tw_cc 129) (tt_mi 129).1 (tw_rt 129) ∈ tw_Ts := tw_in2 (h := (8, 101)) rfl rfl
set_option maxRecDepth 100000 in
theorem tw_cw130 : Jvm.Cond.code (tw_nm 130) (tw_cc 130) (tt_mi 130).1 (tw_rt 130) ∈ tw_Ts := tw_in2 (h := (8, 159)) rfl rfl
set_option maxRecDepth 100000 in
theorem tw_cw131 : Jvm.Cond.code (tw_nm 131) (tw_cc 131) (tt_mi 131).1 (tw_rt 131) ∈ tw_Ts := tw_in2 (h := (9, 59)) rfl rfl
set_option maxRecDepth 100000 in
theorem tw_cw132 : Jvm.Cond.code (tw_nm 132) (tw_cc 132) (tt_mi 132).1 (tw_rt 132) ∈ tw_Ts := tw_in2 (h := (9, 63)) rfl rfl
set_option maxRecDepth 100000 in
theorem tw_cw133 : Jvm.Cond.code (tw_nm 133) (tw_cc 133) (tt_mi 133).1 (tw_rt 133) ∈ tw_Ts := tw_in2 (h := (9, 68)) rfl rfl
set_option maxRecDepth 100000 in
theorem tw_cw134 : Jvm.Cond.code (tw_nm 134) (tw_cc 134) (tt_mi 134).1 (tw_rt 134) ∈ tw_Ts := tw_in2 (h := (9, 72)) rfl rfl
set_option maxRecDepth 100000 in
theorem tw_cw135 : Jvm.Cond.code (tw_nm 135) (tw_cc 135) (tt_mi 135).1 (tw_rt 135) ∈ tw_Ts := tw_in2 (h := (9, 105)) rfl rfl
set_option maxRecDepth 100000 in
theorem tw_cw136 : Jvm.Cond.code (tw_nm 136) (tw_cc 136) (tt_mi 136).1 (tw_rt 136) ∈ tw_Ts := tw_in2 (h := (9, 109)) rfl rfl
set_option maxRecDepth 100000 in
theorem tw_cw137 : Jvm.Cond.code (tw_nm 137) (tw_cc 137) (tt_mi 137).1 (tw_rt 137) ∈ tw_Ts := tw_in2 (h := (9, 113)) rfl rfl
set_option maxRecDepth 100000 in
theorem tw_cw138 : Jvm.Cond.code (tw_nm 138) (tw_cc 138) (tt_mi 138).1 (tw_rt 138) ∈ tw_Ts := tw_in2 (h := (8, 202)) rfl rfl
set_option maxRecDepth 100000 in
theorem tw_cw139 : Jvm.Cond.code (tw_nm 139) (tw_cc 139) (tt_mi 139).1 (tw_rt 139) ∈ tw_Ts := tw_in2 (h := (9, 92)) rfl rfl
set_option maxRecDepth 100000 in
theorem tw_cw140 : Jvm.Cond.code (tw_nm 140) (tw_cc 140) (tt_mi 140).1 (tw_rt 140) ∈ tw_Ts := tw_in2 (h := (9, 199)) rfl rfl
set_option maxRecDepth 100000 in
theorem tw_cw141 : Jvm.Cond.code (tw_nm 141) (tw_cc 141) (tt_mi 141).1 (tw_rt 141) ∈ tw_Ts := tw_in2 (h := (8, 43)) rfl rfl
set_option maxRecDepth 100000 in
theorem tw_cw142 : Jvm.Cond.code (tw_nm 142) (tw_cc 142) (tt_mi 142).1 (tw_rt 142) ∈ tw_Ts := tw_in2 (h := (9, 191)) rfl rfl
set_option maxRecDepth 100000 in
theorem tw_cw143 : Jvm.Cond.code (tw_nm 143) (tw_cc 143) (tt_mi 143).1 (tw_rt 143) ∈ tw_Ts := tw_in2 (h := (8, 151)) rfl rfl
set_option maxRecDepth 100000 in
theorem tw_cw144 : Jvm.Cond.code (tw_nm 144) (tw_cc 144) (tt_mi 144).1 (tw_rt 144) ∈ tw_Ts := tw_in2 (h := (8, 174)) rfl rfl
set_option maxRecDepth 100000 in
theorem tw_cw145 : Jvm.Cond.code (tw_nm 145) (tw_cc 145) (tt_mi 145).1 (tw_rt 145) ∈ tw_Ts := tw_in2 (h := (8, 21)) rfl rfl
set_option maxRecDepth 100000 in
theorem tw_cw146 : Jvm.Cond.code (tw_nm 146) (tw_cc 146) (tt_mi 146).1 (tw_rt 146) ∈ tw_Ts := tw_in2 (h := (7, 134)) rfl rfl
set_option maxRecDepth 100000 in
theorem tw_cw147 : Jvm.Cond.code (tw_nm 147) (tw_cc 147) (tt_mi 147).1 (tw_rt 147) ∈ tw_Ts := tw_in2 (h := (9, 182)) rfl rfl
set_option maxRecDepth 100000 in
theorem tw_cw148 : Jvm.Cond.code (tw_nm 148) (tw_cc 148) (tt_mi 148).1 (tw_rt 148) ∈ tw_Ts := tw_in2 (h := (8, 15)) rfl rfl
set_option maxRecDepth 100000 in
theorem tw_cw149 : Jvm.Cond.code (tw_nm 149) (tw_cc 149) (tt_mi 149).1 (tw_rt 149) ∈ tw_Ts := tw_in2 (h := (7, 150)) rfl rfl
set_option maxRecDepth 100000 in
theorem tw_cw150 : Jvm.Cond.code (tw_nm 150) (tw_cc 150) (tt_mi 150).1 (tw_rt 150) ∈ tw_Ts := tw_in2 (h := (8, 35)) rfl rfl
set_option maxRecDepth 100000 in
theorem tw_cw151 : Jvm.Cond.code (tw_nm 151) (tw_cc 151) (tt_mi 151).1 (tw_rt 151) ∈ tw_Ts := tw_in2 (h := (9, 117)) rfl rfl
set_option maxRecDepth 100000 in
theorem tw_cw152 : Jvm.Cond.code (tw_nm 152) (tw_cc 152) (tt_mi 152).1 (tw_rt 152) ∈ tw_Ts := tw_in2 (h := (7, 197)) rfl rfl
set_option maxRecDepth 100000 in
theorem tw_cw153 : Jvm.Cond.code (tw_nm 153) (tw_cc 153) (tt_mi 153).1 (tw_rt 153) ∈ tw_Ts := tw_in2 (h := (7, 154)) rfl rfl
set_option maxRecDepth 100000 in
theorem tw_cw154 : Jvm.Cond.code (tw_nm 154) (tw_cc 154) (tt_mi 154).1 (tw_rt 154) ∈ tw_Ts := tw_in2 (h := (7, 142)) rfl rfl
set_option maxRecDepth 100000 in
theorem tw_cw155 : Jvm.Cond.code (tw_nm 155) (tw_cc 155) (tt_mi 155).1 (tw_rt 155) ∈ tw_Ts := tw_in2 (h := (8, 198)) rfl rfl
set_option maxRecDepth 100000 in
theorem tw_cw156 : Jvm.Cond.code (tw_nm 156) (tw_cc 156) (tt_mi 156).1 (tw_rt 156) ∈ tw_Ts := tw_in2 (h := (8, 190)) rfl rfl
set_option maxRecDepth 100000 in
theorem tw_cw157 : Jvm.Cond.code (tw_nm 157) (tw_cc 157) (tt_mi 157).1 (tw_rt 157) ∈ tw_Ts := tw_in2 (h := (8, 194)) rfl rfl
set_option maxRecDepth 100000 in
theorem tw_cw158 : Jvm.Cond.code (tw_nm 158) (tw_cc 158) (tt_mi 158).1 (tw_rt 158) ∈ tw_Ts := tw_in2 (h := (9, 6)) rfl rfl
set_option maxRecDepth 100000 in
theorem tw_cw159 : Jvm.Cond.code (tw_nm 159) (tw_cc 159) (tt_mi 159).1 (tw_rt 159) ∈ tw_Ts := tw_in2 (h := (8, 47)) rfl rfl
set_option maxRecDepth 100000 in
theorem tw_cw160 : Jvm.Cond.code (tw_nm 160) (tw_cc 160) (tt_mi 160).1 (tw_rt 160) ∈ tw_Ts := tw_in2 (h := (8, 59)) rfl rfl
set_option maxRecDepth 100000 in
theorem tw_cw161 : Jvm.Cond.code (tw_nm 161) (tw_cc 161) (tt_mi 161).1 (tw_rt 161) ∈ tw_Ts := tw_in2 (h := (8, 9)) rfl rfl
set_option maxRecDepth 100000 in
theorem tw_cw162 : Jvm.Cond.code (tw_nm 162) (tw_cc 162) (tt_mi 162).1 (tw_rt 162) ∈ tw_Ts := tw_in2 (h := (7, 146)) rfl rfl
set_option maxRecDepth 100000 in
theorem tw_cw163 : Jvm.Cond.code (tw_nm 163) (tw_cc 163) (tt_mi 163).1 (tw_rt 163) ∈ tw_Ts := tw_in2 (h := (9, 154)) rfl rfl
set_option maxRecDepth 100000 in
theorem tw_cw164 : Jvm.Cond.code (tw_nm 164) (tw_cc 164) (tt_mi 164).1 (tw_rt 164) ∈ tw_Ts := tw_in2 (h := (8, 97)) rfl rfl
set_option maxRecDepth 100000 in
theorem tw_cw165 : Jvm.Cond.code (tw_nm 165) (tw_cc 165) (tt_mi 165).1 (tw_rt 165) ∈ tw_Ts := tw_in2 (h := (8, 178)) rfl rfl
set_option maxRecDepth 100000 in
theorem tw_cw166 : Jvm.Cond.code (tw_nm 166) (tw_cc 166) (tt_mi 166).1 (tw_rt 166) ∈ tw_Ts := tw_in2 (h := (9, 166)) rfl rfl
set_option maxRecDepth 100000 in
theorem tw_cw167 : Jvm.Cond.code (tw_nm 167) (tw_cc 167) (tt_mi 167).1 (tw_rt 167) ∈ tw_Ts := tw_in2 (h := (8, 3)) rfl rfl
set_option maxRecDepth 100000 in
theorem tw_cw168 : Jvm.Cond.code (tw_nm 168) (tw_cc 168) (tt_mi 168).1 (tw_rt 168) ∈ tw_Ts := tw_in2 (h := (7, 127)) rfl rfl
set_option maxRecDepth 100000 in
theorem tw_cw169 : Jvm.Cond.code (tw_nm 169) (tw_cc 169) (tt_mi 169).1 (tw_rt 169) ∈ tw_Ts := tw_in2 (h := (7, 188)) rfl rfl
set_option maxRecDepth 100000 in
theorem tw_cw170 : Jvm.Cond.code (tw_nm 170) (tw_cc 170) (tt_mi 170).1 (tw_rt 170) ∈ tw_Ts := tw_in2 (h := (9, 14)) rfl rfl
set_option maxRecDepth 100000 in
theorem tw_cw171 : Jvm.Cond.code (tw_nm 171) (tw_cc 171) (tt_mi 171).1 (tw_rt 171) ∈ tw_Ts := tw_in2 (h := (7, 170)) rfl rfl
set_option maxRecDepth 100000 in
theorem tw_cw172 : Jvm.Cond.code (tw_nm 172) (tw_cc 172) (tt_mi 172).1 (tw_rt 172) ∈ tw_Ts := tw_in2 (h := (8, 54)) rfl rfl
set_option maxRecDepth 100000 in
theorem tw_cw173 : Jvm.Cond.code (tw_nm 173) (tw_cc 173) (tt_mi 173).1 (tw_rt 173) ∈ tw_Ts := tw_in2 (h := (8, 67)) rfl rfl
set_option maxRecDepth 100000 in
theorem tw_cw174 : Jvm.Cond.code (tw_nm 174) (tw_cc 174) (tt_mi 174).1 (tw_rt 174) ∈ tw_Ts := tw_in2 (h := (7, 179)) rfl rfl
set_option maxRecDepth 100000 in
theorem tw_cw175 : Jvm.Cond.code (tw_nm 175) (tw_cc 175) (tt_mi 175).1 (tw_rt 175) ∈ tw_Ts := tw_in2 (h := (8, 51)) rfl rfl
set_option maxRecDepth 100000 in
theorem tw_cw176 : Jvm.Cond.code (tw_nm 176) (tw_cc 176) (tt_mi 176).1 (tw_rt 176) ∈ tw_Ts := tw_in2 (h := (8, 39)) rfl rfl
set_option maxRecDepth 100000 in
theorem tw_cw177 : Jvm.Cond.code (tw_nm 177) (tw_cc 177) (tt_mi 177).1 (tw_rt 177) ∈ tw_Ts := tw_in2 (h := (8, 155)) rfl rfl
set_option maxRecDepth 100000 in
theorem tw_cw178 : Jvm.Cond.code (tw_nm 178) (tw_cc 178) (tt_mi 178).1 (tw_rt 178) ∈ tw_Ts := tw_in2 (h := (9, 30)) rfl rfl
set_option maxRecDepth 100000 in
theorem tw_cw179 : Jvm.Cond.code (tw_nm 179) (tw_cc 179) (tt_mi 179).1 (tw_rt 179) ∈ tw_Ts := tw_in2 (h := (7, 123)) rfl rfl
set_option maxRecDepth 100000 in
theorem tw_cw180 : Jvm.Cond.code (tw_nm 180) (tw_cc 180) (tt_mi 180).1 (tw_rt 180) ∈ tw_Ts := tw_in2 (h := (8, 70)) rfl rfl
theorem tw_cwc2 : ∀ y ∈ ([121, 122, 123, 124, 125, 126, 127, 128, 129, 130, 131, 132, 133, 134, 135, 136, 137, 138, 139, 140, 141, 142, 143, 144, 145, 146, 147, 148, 149, 150, 151, 152, 153, 154, 155, 156, 157, 158, 159, 160, 161, 162, 163, 164, 165, 166, 167, 168, 169, 170, 171, 172, 173, 174, 175, 176, 177, 178, 179, 180] : List Nat), Jvm.Cond.code (tw_nm y) (tw_cc y) (tt_mi y).1 (tw_rt y) ∈ tw_Ts := List.forall_mem_cons.mpr ⟨tw_cw121, List.forall_mem_cons.mpr ⟨tw_cw122, List.forall_mem_cons.mpr ⟨tw_cw123, List.forall_mem_cons.mpr ⟨tw_cw124, List.forall_mem_cons.mpr ⟨tw_cw125, List.forall_mem_cons.mpr ⟨tw_cw126, List.forall_mem_cons.mpr ⟨tw_cw127, List.forall_mem_cons.mpr ⟨tw_cw128, List.forall_mem_cons.mpr ⟨tw_cw129, List.forall_mem_cons.mpr ⟨tw_cw130, List.forall_mem_cons.mpr ⟨tw_cw131, List.forall_mem_cons.mpr ⟨tw_cw132, List.forall_mem_cons.mpr ⟨tw_cw133, List.forall_mem_cons.mpr ⟨tw_cw134, List.forall_mem_cons.mpr ⟨tw_cw135, List.forall_mem_cons.mpr ⟨tw_cw136, List.forall_mem_cons.mpr ⟨tw_cw137, List.forall_mem_cons.mpr ⟨tw_cw138, List.forall_mem_cons.mpr ⟨tw_cw139, List.forall_mem_cons.mpr ⟨tw_cw140, List.forall_mem_cons.mpr ⟨tw_cw141, List.forall_mem_cons.mpr ⟨tw_cw142, List.forall_mem_cons.mpr ⟨tw_cw143, List.forall_mem_cons.mpr ⟨tw_cw144, List.forall_mem_cons.mpr ⟨tw_cw145, List.forall_mem_cons.mpr ⟨tw_cw146, List.forall_mem_cons.mpr ⟨tw_cw147, List.forall_mem_cons.mpr ⟨tw_cw148, List.forall_mem_cons.mpr ⟨tw_cw149, List.forall_mem_cons.mpr ⟨tw_cw150, List.forall_mem_cons.mpr ⟨tw_cw151, List.forall_mem_cons.mpr ⟨tw_cw152, List.forall_mem_cons.mpr ⟨tw_cw153, List.forall_mem_cons.mpr ⟨tw_cw154, List.forall_mem_cons.mpr ⟨tw_cw155, List.forall_mem_cons.mpr ⟨tw_cw156, List.forall_mem_cons.mpr ⟨tw_cw157, List.forall_mem_cons.mpr ⟨tw_cw158, List.forall_mem_cons.mpr ⟨tw_cw159, List.forall_mem_cons.mpr ⟨tw_cw160, List.forall_mem_cons.mpr ⟨tw_cw161, List.forall_mem_cons.mpr ⟨tw_cw162, List.forall_mem_cons.mpr ⟨tw_cw163, List.forall_mem_cons.mpr ⟨tw_cw164, List.forall_mem_cons.mpr ⟨tw_cw165, List.forall_mem_cons.mpr ⟨tw_cw166, List.forall_mem_cons.mpr ⟨tw_cw167, List.forall_mem_cons.mpr ⟨tw_cw168, List.forall_mem_cons.mpr ⟨tw_cw169, List.forall_mem_cons.mpr ⟨tw_cw170, List.forall_mem_cons.mpr ⟨tw_cw171, List.forall_mem_cons.mpr ⟨tw_cw172, List.forall_mem_cons.mpr ⟨tw_cw173, List.forall_mem_cons.mpr ⟨tw_cw174, List.forall_mem_cons.mpr ⟨tw_cw175, List.forall_mem_cons.mpr ⟨tw_cw176, List.forall_mem_cons.mpr ⟨tw_cw177, List.forall_mem_cons.mpr ⟨tw_cw178, List.forall_mem_cons.mpr ⟨tw_cw179, List.forall_mem_cons.mpr ⟨tw_cw180, fun _ h => absurd h List.not_mem_nil⟩⟩⟩⟩⟩⟩⟩⟩⟩⟩⟩⟩⟩⟩⟩⟩⟩⟩⟩⟩⟩⟩⟩⟩⟩⟩⟩⟩⟩⟩⟩⟩⟩⟩⟩⟩⟩⟩⟩⟩⟩⟩⟩⟩⟩⟩⟩⟩⟩⟩⟩⟩⟩⟩⟩⟩⟩⟩⟩⟩
