set_option maxRecDepth 100000 in
theorem tw_cw181 : Jvm.Cond.code (tw_nm 181) (tw_cc 181) (tt_mi 181).1 (tw_rt 181) ∈ tw_Ts := tw_in2 (h := (8, 122)) rfl rfl
set_option maxRecDepth 100000 in
theorem tw_cw182 : Jvm.Cond.code (tw_nm 182) (tw_cc 182) (tt_mi 182).1 (tw_rt 182) ∈ tw_Ts := tw_in2 (h := (9, 195)) rfl rfl
set_option maxRecDepth 100000 in
theorem tw_cw183 : Jvm.Cond.code (tw_nm 183) (tw_cc 183) (tt_mi 183).1 (tw_rt 183) ∈ tw_Ts := tw_in2 (h := (7, 229)) rfl rfl
set_option maxRecDepth 100000 in
theorem tw_cw184 : Jvm.Cond.code (tw_nm 184) (tw_cc 184) (tt_mi 184).1 (tw_rt 184) ∈ tw_Ts := tw_in2 (h := (8, 234)) rfl rfl
set_option maxRecDepth 100000 in
theorem tw_cw185 : Jvm.Cond.code (tw_nm 185) (tw_cc 185) (tt_mi 185).1 (tw_rt 185) ∈ tw_Ts := tw_in2 (h := (7, 239)) rfl rfl
set_option maxRecDepth 100000 in
theorem tw_cw186 : Jvm.Cond.code (tw_nm 186) (tw_cc 186) (tt_mi 186).1 (tw_rt 186) ∈ tw_Ts := tw_in2 (h := (8, 76)) rfl rfl
set_option maxRecDepth 100000 in
theorem tw_cw187 : Jvm.Cond.code (tw_nm 187) (tw_cc 187) (tt_mi 187).1 (tw_rt 187) ∈ tw_Ts := tw_in2 (h := (8, 170)) rfl rfl
set_option maxRecDepth 100000 in
theorem tw_cw188 : Jvm.Cond.code (tw_nm 188) (tw_cc 188) (tt_mi 188).1 (tw_rt 188) ∈ tw_Ts := tw_in2 (h := (9, 186)) rfl rfl
set_option maxRecDepth 100000 in
theorem tw_cw189 : Jvm.Cond.code (tw_nm 189) (tw_cc 189) (tt_mi 189).1 (tw_rt 189) ∈ tw_Ts := tw_in2 (h := (7, 183)) rfl rfl
set_option maxRecDepth 100000 in
theorem tw_cw190 : Jvm.Cond.code (tw_nm 190) (tw_cc 190) (tt_mi 190).1 (tw_rt 190) ∈ tw_Ts := tw_in2 (h := (8, 182)) rfl rfl
set_option maxRecDepth 100000 in
theorem tw_cw191 : Jvm.Cond.code (tw_nm 191) (tw_cc 191) (tt_mi 191).1 (tw_rt 191) ∈ tw_Ts := tw_in2 (h := (9, 174)) rfl rfl
set_option maxRecDepth 100000 in
theorem tw_cw192 : Jvm.Cond.code (tw_nm 192) (tw_cc 192) (tt_mi 192).1 (tw_rt 192) ∈ tw_Ts := tw_in2 (h := (9, 178)) rfl rfl
set_option maxRecDepth 100000 in
theorem tw_cw193 : Jvm.Cond.code (tw_nm 193) (tw_cc 193) (tt_mi 193).1 (tw_rt 193) ∈ tw_Ts := tw_in2 (h := (7, 201)) rfl rfl
set_option maxRecDepth 100000 in
theorem tw_cw194 : Jvm.Cond.code (tw_nm 194) (tw_cc 194) (tt_mi 194).1 (tw_rt 194) ∈ tw_Ts := tw_in2 (h := (9, 38)) rfl rfl
set_option maxRecDepth 100000 in
theorem tw_cw195 : Jvm.Cond.code (tw_nm 195) (tw_cc 195) (tt_mi 195).1 (tw_rt 195) ∈ tw_Ts := tw_in2 (h := (9, 162)) rfl rfl
set_option maxRecDepth 100000 in
theorem tw_cw196 : Jvm.Cond.code (tw_nm 196) (tw_cc 196) (tt_mi 196).1 (tw_rt 196) ∈ tw_Ts := tw_in2 (h := (8, 118)) rfl rfl
set_option maxRecDepth 100000 in
theorem tw_cw197 : Jvm.Cond.code (tw_nm 197) (tw_cc 197) (tt_mi 197).1 (tw_rt 197) ∈ tw_Ts := tw_in2 (h := (7, 166)) rfl rfl
set_option maxRecDepth 100000 in
theorem tw_cw198 : Jvm.Cond.code (tw_nm 198) (tw_cc 198) (tt_mi 198).1 (tw_rt 198) ∈ tw_Ts := tw_in2 (h := (8, 230)) rfl rfl
set_option maxRecDepth 100000 in
theorem tw_cw199 : Jvm.Cond.code (tw_nm 199) (tw_cc 199) (tt_mi 199).1 (tw_rt 199) ∈ tw_Ts := tw_in2 (h := (9, 97)) rfl rfl
set_option maxRecDepth 100000 in
theorem tw_cw200 : Jvm.Cond.code (tw_nm 200) (tw_cc 200) (tt_mi 200).1 (tw_rt 200) ∈ tw_Ts := tw_in2 (h := (9, 101)) rfl rfl
set_option maxRecDepth 100000 in
theorem tw_cw201 : Jvm.Cond.code (tw_nm 201) (tw_cc 201) (tt_mi 201).1 (tw_rt 201) ∈ tw_Ts := tw_in2 (h := (9, 18)) rfl rfl
set_option maxRecDepth 100000 in
theorem tw_cw202 : Jvm.Cond.code (tw_nm 202) (tw_cc 202) (tt_mi 202).1 (tw_rt 202) ∈ tw_Ts := tw_in2 (h := (7, 218)) rfl rfl
set_option maxRecDepth 100000 in
theorem tw_cw203 : Jvm.Cond.code (tw_nm 203) (tw_cc 203) (tt_mi 203).1 (tw_rt 203) ∈ tw_Ts := tw_in2 (h := (7, 206)) rfl rfl
set_option maxRecDepth 100000 in
theorem tw_cw204 : Jvm.Cond.code (tw_nm 204) (tw_cc 204) (tt_mi 204).1 (tw_rt 204) ∈ tw_Ts := tw_in2 (h := (9, 121)) rfl rfl
set_option maxRecDepth 100000 in
theorem tw_cw205 : Jvm.Cond.code (tw_nm 205) (tw_cc 205) (tt_mi 205).1 (tw_rt 205) ∈ tw_Ts := tw_in2 (h := (9, 125)) rfl rfl
set_option maxRecDepth 100000 in
theorem tw_cw206 : Jvm.Cond.code (tw_nm 206) (tw_cc 206) (tt_mi 206).1 (tw_rt 206) ∈ tw_Ts := tw_in2 (h := (9, 80)) rfl rfl
set_option maxRecDepth 100000 in
theorem tw_cw207 : Jvm.Cond.code (tw_nm 207) (tw_cc 207) (tt_mi 207).1 (tw_rt 207) ∈ tw_Ts := tw_in2 (h := (8, 186)) rfl rfl
set_option maxRecDepth 100000 in
theorem tw_cw208 : Jvm.Cond.code (tw_nm 208) (tw_cc 208) (tt_mi 208).1 (tw_rt 208) ∈ tw_Ts := tw_in2 (h := (8, 63)) rfl rfl
set_option maxRecDepth 100000 in
theorem tw_cw209 : Jvm.Cond.code (tw_nm 209) (tw_cc 209) (tt_mi 209).1 (tw_rt 209) ∈ tw_Ts := tw_in2 (h := (7, 138)) rfl rfl
set_option maxRecDepth 100000 in
theorem tw_cw210 : Jvm.Cond.code (tw_nm 210) (tw_cc 210) (tt_mi 210).1 (tw_rt 210) ∈ tw_Ts := tw_in2 (h := (9, 2)) rfl rfl
set_option maxRecDepth 100000 in
theorem tw_cw211 : Jvm.Cond.code (tw_nm 211) (tw_cc 211) (tt_mi 211).1 (tw_rt 211) ∈ tw_Ts := tw_in2 (h := (8, 135)) rfl rfl
set_option maxRecDepth 100000 in
theorem tw_cw212 : Jvm.Cond.code (tw_nm 212) (tw_cc 212) (tt_mi 212).1 (tw_rt 212) ∈ tw_Ts := tw_in2 (h := (8, 126)) rfl rfl
set_option maxRecDepth 100000 in
theorem tw_cw213 : Jvm.Cond.code (tw_nm 213) (tw_cc 213) (tt_mi 213).1 (tw_rt 213) ∈ tw_Ts := tw_in2 (h := (9, 76)) rfl rfl
set_option maxRecDepth 100000 in
theorem tw_cw214 : Jvm.Cond.code (tw_nm 214) (tw_cc 214) (tt_mi 214).1 (tw_rt 214) ∈ tw_Ts := tw_in2 (h := (8, 147)) rfl rfl
set_option maxRecDepth 100000 in
theorem tw_cw215 : Jvm.Cond.code (tw_nm 215) (tw_cc 215) (tt_mi 215).1 (tw_rt 215) ∈ tw_Ts := tw_in2 (h := (8, 113)) rfl rfl
set_option maxRecDepth 100000 in
theorem tw_cw216 : Jvm.Cond.code (tw_nm 216) (tw_cc 216) (tt_mi 216).1 (tw_rt 216) ∈ tw_Ts := tw_in2 (h := (9, 170)) rfl rfl
set_option maxRecDepth 100000 in
theorem tw_cw217 : Jvm.Cond.code (tw_nm 217) (tw_cc 217) (tt_mi 217).1 (tw_rt 217) ∈ tw_Ts := tw_in2 (h := (9, 54)) rfl rfl
set_option maxRecDepth 100000 in
theorem tw_cw218 : Jvm.Cond.code (tw_nm 218) (tw_cc 218) (tt_mi 218).1 (tw_rt 218) ∈ tw_Ts := tw_in2 (h := (7, 120)) rfl rfl
set_option maxRecDepth 100000 in
theorem tw_cw219 : Jvm.Cond.code (tw_nm 219) (tw_cc 219) (tt_mi 219).1 (tw_rt 219) ∈ tw_Ts := tw_in2 (h := (8, 206)) rfl rfl
set_option maxRecDepth 100000 in
theorem tw_cw220 : Jvm.Cond.code (tw_nm 220) (tw_cc 220) (tt_mi 220).1 (tw_rt 220) ∈ tw_Ts := tw_in2 (h := (9, 149)) rfl rfl
set_option maxRecDepth 100000 in
theorem tw_cw221 : Jvm.Cond.code (tw_nm 221) (tw_cc 221) (tt_mi 221).1 (tw_rt 221) ∈ tw_Ts := tw_in2 (h := (8, 209)) rfl rfl
set_option maxRecDepth 100000 in
theorem tw_cw222 : Jvm.Cond.code (tw_nm 222) (tw_cc 222) (tt_mi 222).1 (tw_rt 222) ∈ tw_Ts := tw_in2 (h := (9, 22)) rfl rfl
set_option maxRecDepth 100000 in
theorem tw_cw223 : Jvm.Cond.code (tw_nm 223) (tw_cc 223) (tt_mi 223).1 (tw_rt 223) ∈ tw_Ts := tw_in2 (h := (9, 10)) rfl rfl
set_option maxRecDepth 100000 in
theorem tw_cw224 : Jvm.Cond.code (tw_nm 224) (tw_cc 224) (tt_mi 224).1 (tw_rt 224) ∈ tw_Ts := tw_in2 (h := (8, 238)) rfl rfl
set_option maxRecDepth 100000 in
theorem tw_cw225 : Jvm.Cond.code (tw_nm 225) (tw_cc 225) (tt_mi 225).1 (tw_rt 225) ∈ tw_Ts := tw_in2 (h := (7, 214)) rfl rfl
set_option maxRecDepth 100000 in
theorem tw_cw226 : Jvm.Cond.code (tw_nm 226) (tw_cc 226) (tt_mi 226).1 (tw_rt 226) ∈ tw_Ts := tw_in2 (h := (8, 27)) rfl rfl
set_option maxRecDepth 100000 in
theorem tw_cw227 : Jvm.Cond.code (tw_nm 227) (tw_cc 227) (tt_mi 227).1 (tw_rt 227) ∈ tw_Ts := tw_in2 (h := (8, 131)) rfl rfl
set_option maxRecDepth 100000 in
theorem tw_cw228 : Jvm.Cond.code (tw_nm 228) (tw_cc 228) (tt_mi 228).1 (tw_rt 228) ∈ tw_Ts := tw_in2 (h := (8, 143)) rfl rfl
set_option maxRecDepth 100000 in
theorem tw_cw229 : Jvm.Cond.code (tw_nm 229) (tw_cc 229) (tt_mi 229).1 (tw_rt 229) ∈ tw_Ts := tw_in2 (h := (7, 158)) rfl rfl
set_option maxRecDepth 100000 in
theorem tw_cw230 : Jvm.Cond.code (tw_nm 230) (tw_cc 230) (tt_mi 230).1 (tw_rt 230) ∈ tw_Ts := tw_in2 (h := (8, 80)) rfl rfl
set_option maxRecDepth 100000 in
theorem tw_cw231 : Jvm.Cond.code (tw_nm 231) (tw_cc 231) (tt_mi 231).1 (tw_rt 231) ∈ tw_Ts := tw_in2 (h := (8, 85)) rfl rfl
set_option maxRecDepth 100000 in
theorem tw_cw232 : Jvm.Cond.code (tw_nm 232) (tw_cc 232) (tt_mi 232).1 (tw_rt 232) ∈ tw_Ts := tw_in2 (h := (8, 105)) rfl rfl
set_option maxRecDepth 100000 in
theorem tw_cw233 : Jvm.Cond.code (tw_nm 233) (tw_cc 233) (tt_mi 233).1 (tw_rt 233) ∈ tw_Ts := tw_in2 (h := (8, 139)) rfl rfl
set_option maxRecDepth 100000 in
theorem tw_cw234 : Jvm.Cond.code (tw_nm 234) (tw_cc 234) (tt_mi 234).1 (tw_rt 234) ∈ tw_Ts := tw_in2 (h := (8, 222)) rfl rfl
set_option maxRecDepth 100000 in
theorem tw_cw235 : Jvm.Cond.code (tw_nm 235) (tw_cc 235) (tt_mi 235).1 (tw_rt 235) ∈ tw_Ts := tw_in2 (h := (8, 226)) rfl rfl
set_option maxRecDepth 100000 in
theorem tw_cw236 : Jvm.Cond.code (tw_nm 236) (tw_cc 236) (tt_mi 236).1 (tw_rt 236) ∈ tw_Ts := tw_in2 (h := (9, 158)) rfl rfl
set_option maxRecDepth 100000 in
theorem tw_cw237 : Jvm.Cond.code (tw_nm 237) (tw_cc 237) (tt_mi 237).1 (tw_rt 237) ∈ tw_Ts := tw_in2 (h := (9, 26)) rfl rfl
set_option maxRecDepth 100000 in
theorem tw_cw238 : Jvm.Cond.code (tw_nm 238) (tw_cc 238) (tt_mi 238).1 (tw_rt 238) ∈ tw_Ts := tw_in2 (h := (9, 34)) rfl rfl
set_option maxRecDepth 100000 in
theorem tw_cw239 : Jvm.Cond.code (tw_nm 239) (tw_cc 239) (tt_mi 239).1 (tw_rt 239) ∈ tw_Ts := tw_in2 (h := (8, 218)) rfl rfl
set_option maxRecDepth 100000 in
theorem tw_cw240 : Jvm.Cond.code (tw_nm 240) (tw_cc 240) (tt_mi 240).1 (tw_rt 240) ∈ tw_Ts := tw_in2 (h := (8, 89)) rfl rfl
theorem tw_cwc3 : ∀ y ∈ ([181, 182, 183, 184, 185, 186, 187, 188, 189, 190, 191, 192, 193, 194, 195, 196, 197, 198, 199, 200, 201, 202, 203, 204, 205, 206, 207, 208, 209, 210, 211, 212, 213, 214, 215, 216, 217, 218, 219, 220, 221, 222, 223, 224, 225, 226, 227, 228, 229, 230, 231, 232, 233, 234, 235, 236, 237, 238, 239, 240] : List Nat), Jvm.Cond.code (tw_nm y) (tw_cc y) (tt_mi y).1 (tw_rt y) ∈ tw_Ts := List.forall_mem_cons.mpr ⟨tw_cw181, List.forall_mem_cons.mpr ⟨tw_cw182, List.forall_mem_cons.mpr ⟨tw_cw183, List.forall_mem_cons.mpr ⟨tw_cw184, List.forall_mem_cons.mpr ⟨tw_cw185, List.forall_mem_cons.mpr ⟨tw_cw186, List.forall_mem_cons.mpr ⟨tw_cw187, List.forall_mem_cons.mpr ⟨tw_cw188, List.forall_mem_cons.mpr ⟨tw_cw189, List.forall_mem_cons.mpr ⟨tw_cw190, List.forall_mem_cons.mpr ⟨tw_cw191, List.forall_mem_cons.mpr ⟨tw_cw192, List.forall_mem_cons.mpr ⟨tw_cw193, List.forall_mem_cons.mpr ⟨tw_cw194, List.forall_mem_cons.mpr ⟨tw_cw195, List.forall_mem_cons.mpr ⟨tw_cw196, List.forall_mem_cons.mpr ⟨tw_cw197, List.forall_mem_cons.mpr ⟨tw_cw198, List.forall_mem_cons.mpr ⟨tw_cw199, List.forall_mem_cons.mpr ⟨tw_cw200, List.forall_mem_cons.mpr ⟨tw_cw201, List.forall_mem_cons.mpr ⟨tw_cw202, List.forall_mem_cons.mpr ⟨tw_cw203, List.forall_mem_cons.mpr ⟨tw_cw204, List.forall_mem_cons.mpr ⟨tw_cw205, List.forall_mem_cons.mpr ⟨tw_cw206, List.forall_mem_cons.mpr ⟨tw_cw207, List.forall_mem_cons.mpr ⟨tw_cw208, List.forall_mem_cons.mpr ⟨tw_cw209, List.forall_mem_cons.mpr ⟨tw_cw210, List.forall_mem_cons.mpr ⟨tw_cw211, List.forall_mem_cons.mpr ⟨tw_cw212, List.forall_mem_cons.mpr ⟨tw_cw213, List.forall_mem_cons.mpr ⟨tw_cw214, List.forall_mem_cons.mpr ⟨tw_cw215, List.forall_mem_cons.mpr ⟨tw_cw216, List.forall_mem_cons.mpr ⟨tw_cw217, List.forall_mem_cons.mpr ⟨tw_cw218, List.forall_mem_cons.mpr ⟨tw_cw219, List.forall_mem_cons.mpr ⟨tw_cw220, List.forall_mem_cons.mpr ⟨tw_cw221, List.forall_mem_cons.mpr ⟨tw_cw222, List.forall_mem_cons.mpr ⟨tw_cw223, List.forall_mem_cons.mpr ⟨tw_cw224, List.forall_mem_cons.mpr ⟨tw_cw225, List.forall_mem_cons.mpr ⟨tw_cw226, List.forall_mem_cons.mpr ⟨tw_cw227, List.forall_mem_cons.mpr ⟨tw_cw228, List.forall_mem_cons.mpr ⟨tw_cw229, List.forall_mem_cons.mpr ⟨tw_cw230, List.forall_mem_cons.mpr ⟨tw_cw231, List.forall_mem_cons.mpr ⟨tw_cw232, List.forall_mem_cons.mpr ⟨tw_cw233, List.forall_mem_cons.mpr ⟨tw_cw234, List.forall_mem_cons.mpr ⟨tw_cw235, List.forall_mem_cons.mpr ⟨tw_cw236, List.forall_mem_cons.mpr ⟨tw_cw237, List.forall_mem_cons.mpr ⟨tw_cw238, List.forall_mem_cons.mpr ⟨tw_cw239, List.forall_mem_cons.mpr ⟨tw_cw240, fun _ h => absurd h List.not_mem_nil⟩⟩⟩⟩⟩⟩⟩⟩⟩⟩⟩⟩⟩⟩⟩⟩⟩⟩⟩⟩⟩⟩⟩⟩⟩⟩⟩⟩⟩⟩⟩⟩⟩⟩⟩⟩⟩⟩⟩⟩⟩⟩⟩⟩⟩⟩⟩⟩⟩⟩⟩⟩⟩⟩⟩⟩⟩⟩⟩⟩
