set_option maxRecDepth 100000 in
theorem tw_d226 : tw_cD 226 tt_226 = true := by decide +kernel
set_option maxRecDepth 100000 in
theorem tw_d227 : tw_cD 227 tt_227 = true := by decide +kernel
set_option maxRecDepth 100000 in
theorem tw_d228 : tw_cD 228 tt_228 = true := by decide +kernel
set_option maxRecDepth 100000 in
theorem tw_d229 : tw_cD 229 tt_229 = true := by decide +kernel
set_option maxRecDepth 100000 in
theorem tw_d230 : tw_cD 230 tt_230 = true := by decide +kernel
set_option maxRecDepth 100000 in
theorem tw_d231 : tw_cD 231 tt_231 = true := by decide +kernel
set_option maxRecDepth 100000 in
theorem tw_d232 : tw_cD 232 tt_232 = true := by decide +kernel
set_option maxRecDepth 100000 in
theorem tw_d233 : tw_cD 233 tt_233 = true := by decide +kernel
set_option maxRecDepth 100000 in
theorem tw_d234 : tw_cD 234 tt_234 = true := by decide +kernel
set_option maxRecDepth 100000 in
theorem tw_d235 : tw_cD 235 tt_235 = true := by decide +kernel
set_option maxRecDepth 100000 in
theorem tw_d236 : tw_cD 236 tt_236 = true := by decide +kernel
set_option maxRecDepth 100000 in
theorem tw_d237 : tw_cD 237 tt_237 = true := by decide +kernel
set_option maxRecDepth 100000 in
theorem tw_d238 : tw_cD 238 tt_238 = true := by decide +kernel
set_option maxRecDepth 100000 in
theorem tw_d239 : tw_cD 239 tt_239 = true := by decide +kernel
set_option maxRecDepth 100000 in
theorem tw_d240 : tw_cD 240 tt_240 = true := by decide +kernel
set_option maxRecDepth 100000 in
theorem tw_d241 : tw_cD 241 tt_241 = true := by decide +kernel
set_option maxRecDepth 100000 in
theorem tw_d242 : tw_cD 242 tt_242 = true := by decide +kernel
set_option maxRecDepth 100000 in
theorem tw_d243 : tw_cD 243 tt_243 = true := by decide +kernel
set_option maxRecDepth 100000 in
theorem tw_d244 : tw_cD 244 tt_244 = true := by decide +kernel
set_option maxRecDepth 100000 in
theorem tw_d245 : tw_cD 245 tt_245 = true := by decide +kernel
set_option maxRecDepth 100000 in
theorem tw_d246 : tw_cD 246 tt_246 = true := by decide +kernel
set_option maxRecDepth 100000 in
theorem tw_d247 : tw_cD 247 tt_247 = true := by decide +kernel
set_option maxRecDepth 100000 in
theorem tw_d248 : tw_cD 248 tt_248 = true := by decide +kernel
set_option maxRecDepth 100000 in
theorem tw_d249 : tw_cD 249 tt_249 = true := by decide +kernel
set_option maxRecDepth 100000 in
theorem tw_d250 : tw_cD 250 tt_250 = true := by decide +kernel
set_option maxRecDepth 100000 in
theorem tw_d251 : tw_cD 251 tt_251 = true := by decide +kernel
set_option maxRecDepth 100000 in
theorem tw_d252 : tw_cD 252 tt_252 = true := by decide +kernel
set_option maxRecDepth 100000 in
theorem tw_d253 : tw_cD 253 tt_253 = true := by decide +kernel
