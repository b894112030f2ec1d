set_option maxRecDepth 100000 in
theorem tw_d254 : tw_cD 254 tt_254 = true := by decide +kernel
set_option maxRecDepth 100000 in
theorem tw_d255 : tw_cD 255 tt_255 = true := by decide +kernel
set_option maxRecDepth 100000 in
theorem tw_d256 : tw_cD 256 tt_256 = true := by decide +kernel
set_option maxRecDepth 100000 in
theorem tw_d257 : tw_cD 257 tt_257 = true := by decide +kernel
set_option maxRecDepth 100000 in
theorem tw_d258 : tw_cD 258 tt_258 = true := by decide +kernel
set_option maxRecDepth 100000 in
theorem tw_d259 : tw_cD 259 tt_259 = true := by decide +kernel
set_option maxRecDepth 100000 in
theorem tw_d260 : tw_cD 260 tt_260 = true := by decide +kernel
set_option maxRecDepth 100000 in
theorem tw_d261 : tw_cD 261 tt_261 = true := by decide +kernel
set_option maxRecDepth 100000 in
theorem tw_d262 : tw_cD 262 tt_262 = true := by decide +kernel
set_option maxRecDepth 100000 in
theorem tw_d263 : tw_cD 263 tt_263 = true := by decide +kernel
set_option maxRecDepth 100000 in
theorem tw_d264 : tw_cD 264 tt_264 = true := by decide +kernel
set_option maxRecDepth 100000 in
theorem tw_d265 : tw_cD 265 tt_265 = true := by decide +kernel
set_option maxRecDepth 100000 in
theorem tw_d266 : tw_cD 266 tt_266 = true := by decide +kernel
set_option maxRecDepth 100000 in
theorem tw_d267 : tw_cD 267 tt_267 = true := by decide +kernel
set_option maxRecDepth 100000 in
theorem tw_d268 : tw_cD 268 tt_268 = true := by decide +kernel
set_option maxRecDepth 100000 in
theorem tw_d269 : tw_cD 269 tt_269 = true := by decide +kernel
set_option maxRecDepth 100000 in
theorem tw_d270 : tw_cD 270 tt_270 = true := by decide +kernel
set_option maxRecDepth 100000 in
theorem tw_d271 : tw_cD 271 tt_271 = true := by decide +kernel
set_option maxRecDepth 100000 in
theorem tw_d272 : tw_cD 272 tt_272 = true := by decide +kernel
set_option maxRecDepth 100000 in
theorem tw_d273 : tw_cD 273 tt_273 = true := by decide +kernel
set_option maxRecDepth 100000 in
theorem tw_d274 : tw_cD 274 tt_274 = true := by decide +kernel
set_option maxRecDepth 100000 in
theorem tw_d275 : tw_cD 275 tt_275 = true := by decide +kernel
set_option maxRecDepth 100000 in
theorem tw_d276 : tw_cD 276 tt_276 = true := by decide +kernel
set_option maxRecDepth 100000 in
theorem tw_d277 : tw_cD 277 tt_277 = true := by decide +kernel
set_option maxRecDepth 100000 in
theorem tw_d278 : tw_cD 278 tt_278 = true := by decide +kernel
set_option maxRecDepth 100000 in
theorem tw_d279 : tw_cD 279 tt_279 = true := by decide +kernel
set_option maxRecDepth 100000 in
theorem tw_d280 : tw_cD 280 tt_280 = true := by decide +kernel
set_option maxRecDepth 100000 in
theorem tw_d281 : tw_cD 281 tt_281 = true := by decide +kernel
set_option maxRecDepth 100000 in
theorem tw_d282 : tw_cD 282 tt_282 = true := by decide +kernel
set_option maxRecDepth 100000 in
theorem tw_d283 : tw_cD 283 tt_283 = true := by decide +kernel
set_option maxRecDepth 100000 in
theorem tw_d284 : tw_cD 284 tt_284 = true := by decide +kernel
set_option maxRecDepth 100000 in
theorem tw_d285 : tw_cD 285 tt_285 = true := by decide +kernel
set_option maxRecDepth 100000 in
theorem tw_d286 : tw_cD 286 tt_286 = true := by decide +kernel
