set_option maxRecDepth 100000 in
theorem tw_d198 : tw_cD 198 tt_198 = true := by decide +kernel
set_option maxRecDepth 100000 in
theorem tw_d199 : tw_cD 199 tt_199 = true := by decide +kernel
set_option maxRecDepth 100000 in
theorem tw_d200 : tw_cD 200 tt_200 = true := by decide +kernel
set_option maxRecDepth 100000 in
theorem tw_d201 : tw_cD 201 tt_201 = true := by decide +kernel
set_option maxRecDepth 100000 in
theorem tw_d202 : tw_cD 202 tt_202 = true := by decide +kernel
set_option maxRecDepth 100000 in
theorem tw_d203 : tw_cD 203 tt_203 = true := by decide +kernel
set_option maxRecDepth 100000 in
theorem tw_d204 : tw_cD 204 tt_204 = true := by decide +kernel
set_option maxRecDepth 100000 in
theorem tw_d205 : tw_cD 205 tt_205 = true := by decide +kernel
set_option maxRecDepth 100000 in
theorem tw_d206 : tw_cD 206 tt_206 = true := by decide +kernel
set_option maxRecDepth 100000 in
theorem tw_d207 : tw_cD 207 tt_207 = true := by decide +kernel
set_option maxRecDepth 100000 in
theorem tw_d208 : tw_cD 208 tt_208 = true := by decide +kernel
set_option maxRecDepth 100000 in
theorem tw_d209 : tw_cD 209 tt_209 = true := by decide +kernel
set_option maxRecDepth 100000 in
theorem tw_d210 : tw_cD 210 tt_210 = true := by decide +kernel
set_option maxRecDepth 100000 in
theorem tw_d211 : tw_cD 211 tt_211 = true := by decide +kernel
set_option maxRecDepth 100000 in
theorem tw_d212 : tw_cD 212 tt_212 = true := by decide +kernel
set_option maxRecDepth 100000 in
theorem tw_d213 : tw_cD 213 tt_213 = true := by decide +kernel
set_option maxRecDepth 100000 in
theorem tw_d214 : tw_cD 214 tt_214 = true := by decide +kernel
set_option maxRecDepth 100000 in
theorem tw_d215 : tw_cD 215 tt_215 = true := by decide +kernel
set_option maxRecDepth 100000 in
theorem tw_d216 : tw_cD 216 tt_216 = true := by decide +kernel
set_option maxRecDepth 100000 in
theorem tw_d217 : tw_cD 217 tt_217 = true := by decide +kernel
set_option maxRecDepth 100000 in
theorem tw_d218 : tw_cD 218 tt_218 = true := by decide +kernel
set_option maxRecDepth 100000 in
theorem tw_d219 : tw_cD 219 tt_219 = true := by decide +kernel
set_option maxRecDepth 100000 in
theorem tw_d220 : tw_cD 220 tt_220 = true := by decide +kernel
set_option maxRecDepth 100000 in
theorem tw_d221 : tw_cD 221 tt_221 = true := by decide +kernel
set_option maxRecDepth 100000 in
theorem tw_d222 : tw_cD 222 tt_222 = true := by decide +kernel
set_option maxRecDepth 100000 in
theorem tw_d223 : tw_cD 223 tt_223 = true := by decide +kernel
set_option maxRecDepth 100000 in
theorem tw_d224 : tw_cD 224 tt_224 = true := by decide +kernel
set_option maxRecDepth 100000 in
theorem tw_d225 : tw_cD 225 tt_225 = true := by decide +kernel
