set_option maxRecDepth 100000 in
theorem tw_d287 : tw_cD 287 tt_287 = true := by decide +kernel
set_option maxRecDepth 100000 in
theorem tw_d288 : tw_cD 288 tt_288 = true := by decide +kernel
set_option maxRecDepth 100000 in
theorem tw_d289 : tw_cD 289 tt_289 = true := by decide +kernel
set_option maxRecDepth 100000 in
theorem tw_d290 : tw_cD 290 tt_290 = true := by decide +kernel
set_option maxRecDepth 100000 in
theorem tw_d291 : tw_cD 291 tt_291 = true := by decide +kernel
set_option maxRecDepth 100000 in
theorem tw_d292 : tw_cD 292 tt_292 = true := by decide +kernel
set_option maxRecDepth 100000 in
theorem tw_d293 : tw_cD 293 tt_293 = true := by decide +kernel
set_option maxRecDepth 100000 in
theorem tw_d294 : tw_cD 294 tt_294 = true := by decide +kernel
set_option maxRecDepth 100000 in
theorem tw_d295 : tw_cD 295 tt_295 = true := by decide +kernel
set_option maxRecDepth 100000 in
theorem tw_d296 : tw_cD 296 tt_296 = true := by decide +kernel
set_option maxRecDepth 100000 in
theorem tw_d297 : tw_cD 297 tt_297 = true := by decide +kernel
set_option maxRecDepth 100000 in
theorem tw_d298 : tw_cD 298 tt_298 = true := by decide +kernel
set_option maxRecDepth 100000 in
theorem tw_d299 : tw_cD 299 tt_299 = true := by decide +kernel
set_option maxRecDepth 100000 in
theorem tw_d300 : tw_cD 300 tt_300 = true := by decide +kernel
set_option maxRecDepth 100000 in
theorem tw_d301 : tw_cD 301 tt_301 = true := by decide +kernel
set_option maxRecDepth 100000 in
theorem tw_d302 : tw_cD 302 tt_302 = true := by decide +kernel
set_option maxRecDepth 100000 in
theorem tw_d303 : tw_cD 303 tt_303 = true := by decide +kernel
set_option maxRecDepth 100000 in
theorem tw_d304 : tw_cD 304 tt_304 = true := by decide +kernel
set_option maxRecDepth 100000 in
theorem tw_d305 : tw_cD 305 tt_305 = true := by decide +kernel
set_option maxRecDepth 100000 in
theorem tw_d306 : tw_cD 306 tt_306 = true := by decide +kernel
set_option maxRecDepth 100000 in
theorem tw_d307 : tw_cD 307 tt_307 = true := by decide +kernel
set_option maxRecDepth 100000 in
theorem tw_d308 : tw_cD 308 tt_308 = true := by decide +kernel
set_option maxRecDepth 100000 in
theorem tw_d309 : tw_cD 309 tt_309 = true := by decide +kernel
set_option maxRecDepth 100000 in
theorem tw_d310 : tw_cD 310 tt_310 = true := by decide +kernel
set_option maxRecDepth 100000 in
theorem tw_d311 : tw_cD 311 tt_311 = true := by decide +kernel
set_option maxRecDepth 100000 in
theorem tw_d312 : tw_cD 312 tt_312 = true := by decide +kernel
