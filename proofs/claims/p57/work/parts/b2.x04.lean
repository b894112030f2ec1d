set_option maxRecDepth 100000 in
theorem tw_cw241 : Jvm.Cond.code (tw_nm 241) (tw_cc 241) (tt_mi 241).1 (tw_rt 241) ∈ tw_Ts := tw_in2 (h := (8, 109)) rfl rfl
set_option maxRecDepth 100000 in
theorem tw_cw242 : Jvm.Cond.code (tw_nm 242) (tw_cc 242) (tt_mi 242).1 (tw_rt 242) ∈ tw_Ts := tw_in2 (h := (8, 93)) rfl rfl
set_option maxRecDepth 100000 in
theorem tw_cw243 : Jvm.Cond.code (tw_nm 243) (tw_cc 243) (tt_mi 243).1 (tw_rt 243) ∈ tw_Ts := tw_in2 (h := (9, 84)) rfl rfl
set_option maxRecDepth 100000 in
theorem tw_cw244 : Jvm.Cond.code (tw_nm 244) (tw_cc 244) (tt_mi 244).1 (tw_rt 244) ∈ tw_Ts := tw_in2 (h := (9, 88)) rfl rfl
set_option maxRecDepth 100000 in
theorem tw_cw245 : Jvm.Cond.code (tw_nm 245) (tw_cc 245) (tt_mi 245).1 (tw_rt 245) ∈ tw_Ts := tw_in2 (h := (9, 129)) rfl rfl
set_option maxRecDepth 100000 in
theorem tw_cw246 : Jvm.Cond.code (tw_nm 246) (tw_cc 246) (tt_mi 246).1 (tw_rt 246) ∈ tw_Ts := tw_in2 (h := (7, 131)) rfl rfl
set_option maxRecDepth 100000 in
theorem tw_cw247 : Jvm.Cond.code (tw_nm 247) (tw_cc 247) (tt_mi 247).1 (tw_rt 247) ∈ tw_Ts := tw_in2 (h := (6, 90)) rfl rfl
set_option maxRecDepth 100000 in
theorem tw_cw248 : Jvm.Cond.code (tw_nm 248) (tw_cc 248) (tt_mi 248).1 (tw_rt 248) ∈ tw_Ts := tw_in2 (h := (4, 167)) rfl rfl
set_option maxRecDepth 100000 in
theorem tw_cw249 : Jvm.Cond.code (tw_nm 249) (tw_cc 249) (tt_mi 249).1 (tw_rt 249) ∈ tw_Ts := tw_in2 (h := (3, 163)) rfl rfl
set_option maxRecDepth 100000 in
theorem tw_cw250 : Jvm.Cond.code (tw_nm 250) (tw_cc 250) (tt_mi 250).1 (tw_rt 250) ∈ tw_Ts := tw_in2 (h := (4, 104)) rfl rfl
set_option maxRecDepth 100000 in
theorem tw_cw251 : Jvm.Cond.code (tw_nm 251) (tw_cc 251) (tt_mi 251).1 (tw_rt 251) ∈ tw_Ts := tw_in2 (h := (3, 66)) rfl rfl
set_option maxRecDepth 100000 in
theorem tw_cw252 : Jvm.Cond.code (tw_nm 252) (tw_cc 252) (tt_mi 252).1 (tw_rt 252) ∈ tw_Ts := tw_in2 (h := (3, 183)) rfl rfl
set_option maxRecDepth 100000 in
theorem tw_cw253 : Jvm.Cond.code (tw_nm 253) (tw_cc 253) (tt_mi 253).1 (tw_rt 253) ∈ tw_Ts := tw_in2 (h := (3, 213)) rfl rfl
set_option maxRecDepth 100000 in
theorem tw_cw254 : Jvm.Cond.code (tw_nm 254) (tw_cc 254) (tt_mi 254).1 (tw_rt 254) ∈ tw_Ts := tw_in2 (h := (3, 206)) rfl rfl
set_option maxRecDepth 100000 in
theorem tw_cw255 : Jvm.Cond.code (tw_nm 255) (tw_cc 255) (tt_mi 255).1 (tw_rt 255) ∈ tw_Ts := tw_in2 (h := (3, 144)) rfl rfl
set_option maxRecDepth 100000 in
theorem tw_cw256 : Jvm.Cond.code (tw_nm 256) (tw_cc 256) (tt_mi 256).1 (tw_rt 256) ∈ tw_Ts := tw_in2 (h := (3, 158)) rfl rfl
set_option maxRecDepth 100000 in
theorem tw_cw257 : Jvm.Cond.code (tw_nm 257) (tw_cc 257) (tt_mi 257).1 (tw_rt 257) ∈ tw_Ts := tw_in2 (h := (3, 199)) rfl rfl
set_option maxRecDepth 100000 in
theorem tw_cw258 : Jvm.Cond.code (tw_nm 258) (tw_cc 258) (tt_mi 258).1 (tw_rt 258) ∈ tw_Ts := tw_in2 (h := (3, 70)) rfl rfl
set_option maxRecDepth 100000 in
theorem tw_cw259 : Jvm.Cond.code (tw_nm 259) (tw_cc 259) (tt_mi 259).1 (tw_rt 259) ∈ tw_Ts := tw_in2 (h := (3, 78)) rfl rfl
set_option maxRecDepth 100000 in
theorem tw_cw260 : Jvm.Cond.code (tw_nm 260) (tw_cc 260) (tt_mi 260).1 (tw_rt 260) ∈ tw_Ts := tw_in2 (h := (3, 74)) rfl rfl
set_option maxRecDepth 100000 in
theorem tw_cw261 : Jvm.Cond.code (tw_nm 261) (tw_cc 261) (tt_mi 261).1 (tw_rt 261) ∈ tw_Ts := tw_in2 (h := (3, 88)) rfl rfl
set_option maxRecDepth 100000 in
theorem tw_cw262 : Jvm.Cond.code (tw_nm 262) (tw_cc 262) (tt_mi 262).1 (tw_rt 262) ∈ tw_Ts := tw_in2 (h := (3, 188)) rfl rfl
set_option maxRecDepth 100000 in
theorem tw_cw263 : Jvm.Cond.code (tw_nm 263) (tw_cc 263) (tt_mi 263).1 (tw_rt 263) ∈ tw_Ts := tw_in2 (h := (3, 173)) rfl rfl
set_option maxRecDepth 100000 in
theorem tw_cw264 : Jvm.Cond.code (tw_nm 264) (tw_cc 264) (tt_mi 264).1 (tw_rt 264) ∈ tw_Ts := tw_in2 (h := (3, 140)) rfl rfl
set_option maxRecDepth 100000 in
theorem tw_cw265 : Jvm.Cond.code (tw_nm 265) (tw_cc 265) (tt_mi 265).1 (tw_rt 265) ∈ tw_Ts := tw_in2 (h := (3, 153)) rfl rfl
set_option maxRecDepth 100000 in
theorem tw_cw266 : Jvm.Cond.code (tw_nm 266) (tw_cc 266) (tt_mi 266).1 (tw_rt 266) ∈ tw_Ts := tw_in2 (h := (3, 149)) rfl rfl
set_option maxRecDepth 100000 in
theorem tw_cw267 : Jvm.Cond.code (tw_nm 267) (tw_cc 267) (tt_mi 267).1 (tw_rt 267) ∈ tw_Ts := tw_in2 (h := (3, 55)) rfl rfl
set_option maxRecDepth 100000 in
theorem tw_cw268 : Jvm.Cond.code (tw_nm 268) (tw_cc 268) (tt_mi 268).1 (tw_rt 268) ∈ tw_Ts := tw_in2 (h := (3, 192)) rfl rfl
set_option maxRecDepth 100000 in
theorem tw_cw269 : Jvm.Cond.code (tw_nm 269) (tw_cc 269) (tt_mi 269).1 (tw_rt 269) ∈ tw_Ts := tw_in2 (h := (3, 84)) rfl rfl
set_option maxRecDepth 100000 in
theorem tw_cw270 : Jvm.Cond.code (tw_nm 270) (tw_cc 270) (tt_mi 270).1 (tw_rt 270) ∈ tw_Ts := tw_in2 (h := (3, 220)) rfl rfl
set_option maxRecDepth 100000 in
theorem tw_cw271 : Jvm.Cond.code (tw_nm 271) (tw_cc 271) (tt_mi 271).1 (tw_rt 271) ∈ tw_Ts := tw_in2 (h := (4, 127)) rfl rfl
set_option maxRecDepth 100000 in
theorem tw_cw272 : Jvm.Cond.code (tw_nm 272) (tw_cc 272) (tt_mi 272).1 (tw_rt 272) ∈ tw_Ts := tw_in2 (h := (6, 102)) rfl rfl
set_option maxRecDepth 100000 in
theorem tw_cw273 : Jvm.Cond.code (tw_nm 273) (tw_cc 273) (tt_mi 273).1 (tw_rt 273) ∈ tw_Ts := tw_in2 (h := (4, 155)) rfl rfl
set_option maxRecDepth 100000 in
theorem tw_cw274 : Jvm.Cond.code (tw_nm 274) (tw_cc 274) (tt_mi 274).1 (tw_rt 274) ∈ tw_Ts := tw_in2 (h := (4, 182)) rfl rfl
set_option maxRecDepth 100000 in
theorem tw_cw275 : Jvm.Cond.code (tw_nm 275) (tw_cc 275) (tt_mi 275).1 (tw_rt 275) ∈ tw_Ts := tw_in2 (h := (4, 159)) rfl rfl
set_option maxRecDepth 100000 in
theorem tw_cw276 : Jvm.Cond.code (tw_nm 276) (tw_cc 276) (tt_mi 276).1 (tw_rt 276) ∈ tw_Ts := tw_in2 (h := (4, 119)) rfl rfl
set_option maxRecDepth 100000 in
theorem tw_cw277 : Jvm.Cond.code (tw_nm 277) (tw_cc 277) (tt_mi 277).1 (tw_rt 277) ∈ tw_Ts := tw_in2 (h := (4, 186)) rfl rfl
set_option maxRecDepth 100000 in
theorem tw_cw278 : Jvm.Cond.code (tw_nm 278) (tw_cc 278) (tt_mi 278).1 (tw_rt 278) ∈ tw_Ts := tw_in2 (h := (5, 168)) rfl rfl
set_option maxRecDepth 100000 in
theorem tw_cw279 : Jvm.Cond.code (tw_nm 279) (tw_cc 279) (tt_mi 279).1 (tw_rt 279) ∈ tw_Ts := tw_in2 (h := (6, 133)) rfl rfl
set_option maxRecDepth 100000 in
theorem tw_cw280 : Jvm.Cond.code (tw_nm 280) (tw_cc 280) (tt_mi 280).1 (tw_rt 280) ∈ tw_Ts := tw_in2 (h := (6, 122)) rfl rfl
set_option maxRecDepth 100000 in
theorem tw_cw281 : Jvm.Cond.code (tw_nm 281) (tw_cc 281) (tt_mi 281).1 (tw_rt 281) ∈ tw_Ts := tw_in2 (h := (4, 3)) rfl rfl
set_option maxRecDepth 100000 in
theorem tw_cw282 : Jvm.Cond.code (tw_nm 282) (tw_cc 282) (tt_mi 282).1 (tw_rt 282) ∈ tw_Ts := tw_in2 (h := (3, 239)) rfl rfl
set_option maxRecDepth 100000 in
theorem tw_cw283 : Jvm.Cond.code (tw_nm 283) (tw_cc 283) (tt_mi 283).1 (tw_rt 283) ∈ tw_Ts := tw_in2 (h := (4, 7)) rfl rfl
set_option maxRecDepth 100000 in
theorem tw_cw284 : Jvm.Cond.code (tw_nm 284) (tw_cc 284) (tt_mi 284).1 (tw_rt 284) ∈ tw_Ts := tw_in2 (h := (4, 21)) rfl rfl
set_option maxRecDepth 100000 in
theorem tw_cw285 : Jvm.Cond.code (tw_nm 285) (tw_cc 285) (tt_mi 285).1 (tw_rt 285) ∈ tw_Ts := tw_in2 (h := (3, 232)) rfl rfl
set_option maxRecDepth 100000 in
theorem tw_cw286 : Jvm.Cond.code (tw_nm 286) (tw_cc 286) (tt_mi 286).1 (tw_rt 286) ∈ tw_Ts := tw_in2 (h := (4, 11)) rfl rfl
set_option maxRecDepth 100000 in
theorem tw_cw287 : Jvm.Cond.code (tw_nm 287) (tw_cc 287) (tt_mi 287).1 (tw_rt 287) ∈ tw_Ts := tw_in2 (h := (4, 204)) rfl rfl
set_option maxRecDepth 100000 in
theorem tw_cw288 : Jvm.Cond.code (tw_nm 288) (tw_cc 288) (tt_mi 288).1 (tw_rt 288) ∈ tw_Ts := tw_in2 (h := (5, 33)) rfl rfl
set_option maxRecDepth 100000 in
theorem tw_cw289 : Jvm.Cond.code (tw_nm 289) (tw_cc 289) (tt_mi 289).1 (tw_rt 289) ∈ tw_Ts := tw_in2 (h := (5, 45)) rfl rfl
set_option maxRecDepth 100000 in
theorem tw_cw290 : Jvm.Cond.code (tw_nm 290) (tw_cc 290) (tt_mi 290).1 (tw_rt 290) ∈ tw_Ts := tw_in2 (h := (5, 23)) rfl rfl
set_option maxRecDepth 100000 in
theorem tw_cw291 : Jvm.Cond.code (tw_nm 291) (tw_cc 291) (tt_mi 291).1 (tw_rt 291) ∈ tw_Ts := tw_in2 (h := (5, 17)) rfl rfl
set_option maxRecDepth 100000 in
theorem tw_cw292 : Jvm.Cond.code (tw_nm 292) (tw_cc 292) (tt_mi 292).1 (tw_rt 292) ∈ tw_Ts := tw_in2 (h := (5, 55)) rfl rfl
set_option maxRecDepth 100000 in
theorem tw_cw293 : Jvm.Cond.code (tw_nm 293) (tw_cc 293) (tt_mi 293).1 (tw_rt 293) ∈ tw_Ts := tw_in2 (h := (5, 13)) rfl rfl
set_option maxRecDepth 100000 in
theorem tw_cw294 : Jvm.Cond.code (tw_nm 294) (tw_cc 294) (tt_mi 294).1 (tw_rt 294) ∈ tw_Ts := tw_in2 (h := (5, 37)) rfl rfl
set_option maxRecDepth 100000 in
theorem tw_cw295 : Jvm.Cond.code (tw_nm 295) (tw_cc 295) (tt_mi 295).1 (tw_rt 295) ∈ tw_Ts := tw_in2 (h := (4, 90)) rfl rfl
set_option maxRecDepth 100000 in
theorem tw_cw296 : Jvm.Cond.code (tw_nm 296) (tw_cc 296) (tt_mi 296).1 (tw_rt 296) ∈ tw_Ts := tw_in2 (h := (4, 78)) rfl rfl
set_option maxRecDepth 100000 in
theorem tw_cw297 : Jvm.Cond.code (tw_nm 297) (tw_cc 297) (tt_mi 297).1 (tw_rt 297) ∈ tw_Ts := tw_in2 (h := (4, 100)) rfl rfl
set_option maxRecDepth 100000 in
theorem tw_cw298 : Jvm.Cond.code (tw_nm 298) (tw_cc 298) (tt_mi 298).1 (tw_rt 298) ∈ tw_Ts := tw_in2 (h := (5, 158)) rfl rfl
set_option maxRecDepth 100000 in
theorem tw_cw299 : Jvm.Cond.code (tw_nm 299) (tw_cc 299) (tt_mi 299).1 (tw_rt 299) ∈ tw_Ts := tw_in2 (h := (6, 98)) rfl rfl
set_option maxRecDepth 100000 in
theorem tw_cw300 : Jvm.Cond.code (tw_nm 300) (tw_cc 300) (tt_mi 300).1 (tw_rt 300) ∈ tw_Ts := tw_in2 (h := (5, 41)) rfl rfl
theorem tw_cwc4 : ∀ y ∈ ([241, 242, 243, 244, 245, 246, 247, 248, 249, 250, 251, 252, 253, 254, 255, 256, 257, 258, 259, 260, 261, 262, 263, 264, 265, 266, 267, 268, 269, 270, 271, 272, 273, 274, 275, 276, 277, 278, 279, 280, 281, 282, 283, 284, 285, 286, 287, 288, 289, 290, 291, 292, 293, 294, 295, 296, 297, 298, 299, 300] : List Nat), Jvm.Cond.code (tw_nm y) (tw_cc y) (tt_mi y).1 (tw_rt y) ∈ tw_Ts := List.forall_mem_cons.mpr ⟨tw_cw241, List.forall_mem_cons.mpr ⟨tw_cw242, List.forall_mem_cons.mpr ⟨tw_cw243, List.forall_mem_cons.mpr ⟨tw_cw244, List.forall_mem_cons.mpr ⟨tw_cw245, List.forall_mem_cons.mpr ⟨tw_cw246, List.forall_mem_cons.mpr ⟨tw_cw247, List.forall_mem_cons.mpr ⟨tw_cw248, List.forall_mem_cons.mpr ⟨tw_cw249, List.forall_mem_cons.mpr ⟨tw_cw250, List.forall_mem_cons.mpr ⟨tw_cw251, List.forall_mem_cons.mpr ⟨tw_cw252, List.forall_mem_cons.mpr ⟨tw_cw253, List.forall_mem_cons.mpr ⟨tw_cw254, List.forall_mem_cons.mpr ⟨tw_cw255, List.forall_mem_cons.mpr ⟨tw_cw256, List.forall_mem_cons.mpr ⟨tw_cw257, List.forall_mem_cons.mpr ⟨tw_cw258, List.forall_mem_cons.mpr ⟨tw_cw259, List.forall_mem_cons.mpr ⟨tw_cw260, List.forall_mem_cons.mpr ⟨tw_cw261, List.forall_mem_cons.mpr ⟨tw_cw262, List.forall_mem_cons.mpr ⟨tw_cw263, List.forall_mem_cons.mpr ⟨tw_cw264, List.forall_mem_cons.mpr ⟨tw_cw265, List.forall_mem_cons.mpr ⟨tw_cw266, List.forall_mem_cons.mpr ⟨tw_cw267, List.forall_mem_cons.mpr ⟨tw_cw268, List.forall_mem_cons.mpr ⟨tw_cw269, List.forall_mem_cons.mpr ⟨tw_cw270, List.forall_mem_cons.mpr ⟨tw_cw271, List.forall_mem_cons.mpr ⟨tw_cw272, List.forall_mem_cons.mpr ⟨tw_cw273, List.forall_mem_cons.mpr ⟨tw_cw274, List.forall_mem_cons.mpr ⟨tw_cw275, List.forall_mem_cons.mpr ⟨tw_cw276, List.forall_mem_cons.mpr ⟨tw_cw277, List.forall_mem_cons.mpr ⟨tw_cw278, List.forall_mem_cons.mpr ⟨tw_cw279, List.forall_mem_cons.mpr ⟨tw_cw280, List.forall_mem_cons.mpr ⟨tw_cw281, List.forall_mem_cons.mpr ⟨tw_cw282, List.forall_mem_cons.mpr ⟨tw_cw283, List.forall_mem_cons.mpr ⟨tw_cw284, List.forall_mem_cons.mpr ⟨tw_cw285, List.forall_mem_cons.mpr ⟨tw_cw286, List.forall_mem_cons.mpr ⟨tw_cw287, List.forall_mem_cons.mpr ⟨tw_cw288, List.forall_mem_cons.mpr ⟨tw_cw289, List.forall_mem_cons.mpr ⟨tw_cw290, List.forall_mem_cons.mpr ⟨tw_cw291, List.forall_mem_cons.mpr ⟨tw_cw292, List.forall_mem_cons.mpr ⟨tw_cw293, List.forall_mem_cons.mpr ⟨tw_cw294, List.forall_mem_cons.mpr ⟨tw_cw295, List.forall_mem_cons.mpr ⟨tw_cw296, List.forall_mem_cons.mpr ⟨tw_cw297, List.forall_mem_cons.mpr ⟨tw_cw298, List.forall_mem_cons.mpr ⟨tw_cw299, List.forall_mem_cons.mpr ⟨tw_cw300, fun _ h => absurd h List.not_mem_nil⟩⟩⟩⟩⟩⟩⟩⟩⟩⟩⟩⟩⟩⟩⟩⟩⟩⟩⟩⟩⟩⟩⟩⟩⟩⟩⟩⟩⟩⟩⟩⟩⟩⟩⟩⟩⟩⟩⟩⟩⟩⟩⟩⟩⟩⟩⟩⟩⟩⟩⟩⟩⟩⟩⟩⟩⟩⟩⟩⟩
