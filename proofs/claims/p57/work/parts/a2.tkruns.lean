def tu_t149 : List tk_I := []
theorem tu_p149 : tk_ck tt_T tt_sc tt_nt (tu_K 149) tt_nw 8000 tu_t149 tu_k149 = true := by decide +kernel
def tu_t150 : List tk_I := []
theorem tu_p150 : tk_ck tt_T tt_sc tt_nt (tu_K 150) tt_nw 8000 tu_t150 tu_k150 = true := by decide +kernel
def tu_t151 : List tk_I := []
theorem tu_p151 : tk_ck tt_T tt_sc tt_nt (tu_K 151) tt_nw 8000 tu_t151 tu_k151 = true := by decide +kernel
def tu_t388 : List tk_I := [(329, [], [])]
theorem tu_p388 : tk_ck tt_T tt_sc tt_nt (tu_K 388) tt_nw 8000 tu_t388 tu_k388 = true := by decide +kernel
def tu_t325 : List tk_I := [(262, [], []), (190, [], [])]
theorem tu_p325 : tk_ck tt_T tt_sc tt_nt (tu_K 325) tt_nw 8000 tu_t325 tu_k325 = true := by decide +kernel
def tu_t326 : List tk_I := [(262, [], []), (190, [], [])]
theorem tu_p326 : tk_ck tt_T tt_sc tt_nt (tu_K 326) tt_nw 8000 tu_t326 tu_k326 = true := by decide +kernel
def tu_t422 : List tk_I := [(407, [], []), (269, [], [])]
theorem tu_p422 : tk_ck tt_T tt_sc tt_nt (tu_K 422) tt_nw 8000 tu_t422 tu_k422 = true := by decide +kernel
def tu_t140 : List tk_I := [(0, [], [])]
theorem tu_p140 : tk_ck tt_T tt_sc tt_nt (tu_K 140) tt_nw 8000 tu_t140 tu_k140 = true := by decide +kernel
def tu_t131 : List tk_I := []
theorem tu_p131 : tk_ck tt_T tt_sc tt_nt (tu_K 131) tt_nw 8000 tu_t131 tu_k131 = true := by decide +kernel
def tu_t188 : List tk_I := []
theorem tu_p188 : tk_ck tt_T tt_sc tt_nt (tu_K 188) tt_nw 8000 tu_t188 tu_k188 = true := by decide +kernel
def tu_t72 : List tk_I := []
theorem tu_p72 : tk_ck tt_T tt_sc tt_nt (tu_K 72) tt_nw 8000 tu_t72 tu_k72 = true := by decide +kernel
def tu_t112 : List tk_I := []
theorem tu_p112 : tk_ck tt_T tt_sc tt_nt (tu_K 112) tt_nw 8000 tu_t112 tu_k112 = true := by decide +kernel
def tu_t296 : List tk_I := [(195, [], []), (223, [], [])]
theorem tu_p296 : tk_ck tt_T tt_sc tt_nt (tu_K 296) tt_nw 8000 tu_t296 tu_k296 = true := by decide +kernel
def tu_t297 : List tk_I := [(203, [], []), (224, [], [])]
theorem tu_p297 : tk_ck tt_T tt_sc tt_nt (tu_K 297) tt_nw 8000 tu_t297 tu_k297 = true := by decide +kernel
def tu_t298 : List tk_I := [(211, [], []), (234, [], [])]
theorem tu_p298 : tk_ck tt_T tt_sc tt_nt (tu_K 298) tt_nw 8000 tu_t298 tu_k298 = true := by decide +kernel
def tu_t405 : List tk_I := [(167, [], []), (1, [([(0, 730, 0, 0, 0, 0)], [(53, 1, 0), (1, 2, 0), (1, 3, 0)], [], [], (3, 0), true)], []), (383, [], [])]
theorem tu_p405 : tk_ck tt_T tt_sc tt_nt (tu_K 405) tt_nw 8000 tu_t405 tu_k405 = true := by decide +kernel
def tu_t260 : List tk_I := [(150, [], []), (189, [], [])]
theorem tu_p260 : tk_ck tt_T tt_sc tt_nt (tu_K 260) tt_nw 8000 tu_t260 tu_k260 = true := by decide +kernel
def tu_t244 : List tk_I := [(127, [], [])]
theorem tu_p244 : tk_ck tt_T tt_sc tt_nt (tu_K 244) tt_nw 8000 tu_t244 tu_k244 = true := by decide +kernel
def tu_t267 : List tk_I := [(165, [], []), (166, [], [])]
theorem tu_p267 : tk_ck tt_T tt_sc tt_nt (tu_K 267) tt_nw 8000 tu_t267 tu_k267 = true := by decide +kernel
def tu_t236 : List tk_I := [(186, [], [])]
theorem tu_p236 : tk_ck tt_T tt_sc tt_nt (tu_K 236) tt_nw 8000 tu_t236 tu_k236 = true := by decide +kernel
def tu_t141 : List tk_I := [(0, [], [])]
theorem tu_p141 : tk_ck tt_T tt_sc tt_nt (tu_K 141) tt_nw 8000 tu_t141 tu_k141 = true := by decide +kernel
def tu_t184 : List tk_I := [(1, [([(0, 60, 0, 0, 0, 0)], [(52, 1, 0), (2, 2, 0), (0, 0, 0), (1, 3, 0), (1, 0, 60)], [], [], (3, 0), true)], [])]
theorem tu_p184 : tk_ck tt_T tt_sc tt_nt (tu_K 184) tt_nw 8000 tu_t184 tu_k184 = true := by decide +kernel
def tu_t185 : List tk_I := [(1, [([(0, 36, 0, 0, 0, 0)], [(35, 1, 0), (1, 2, 0), (1, 3, 0), (1, 0, 36)], [], [], (3, 0), true)], [])]
theorem tu_p185 : tk_ck tt_T tt_sc tt_nt (tu_K 185) tt_nw 8000 tu_t185 tu_k185 = true := by decide +kernel
def tu_t186 : List tk_I := [(1, [([(0, 730, 0, 0, 0, 0)], [(33, 1, 0), (1, 2, 0), (1, 3, 0), (1, 0, 730)], [], [], (3, 0), true)], [])]
theorem tu_p186 : tk_ck tt_T tt_sc tt_nt (tu_K 186) tt_nw 8000 tu_t186 tu_k186 = true := by decide +kernel
def tu_t130 : List tk_I := []
theorem tu_p130 : tk_ck tt_T tt_sc tt_nt (tu_K 130) tt_nw 8000 tu_t130 tu_k130 = true := by decide +kernel
def tu_t363 : List tk_I := [(328, [], []), (1, [([], [(53, 1, 0), (2, 2, 0), (0, 0, 0), (1, 3, 0), (1, 4, 0)], [(1, 3, 0)], [((53, 1, 0), (1, 0, 12), (1, 9, 0)), ((53, 1, 0), (1, 0, 7), (1, 10, 0)), ((53, 1, 0), (1, 0, 6), (1, 5, 0))], (0, 0), true)], [])]
theorem tu_p363 : tk_ck tt_T tt_sc tt_nt (tu_K 363) tt_nw 8000 tu_t363 tu_k363 = true := by decide +kernel
def tu_t366 : List tk_I := [(328, [], []), (1, [([], [(53, 1, 0), (2, 2, 0), (0, 0, 0), (1, 3, 0), (1, 4, 0)], [(1, 3, 0)], [((53, 1, 0), (1, 0, 12), (1, 9, 0)), ((53, 1, 0), (1, 0, 7), (1, 10, 0)), ((53, 1, 0), (1, 0, 6), (1, 5, 0))], (0, 0), true)], [])]
theorem tu_p366 : tk_ck tt_T tt_sc tt_nt (tu_K 366) tt_nw 8000 tu_t366 tu_k366 = true := by decide +kernel
def tu_t368 : List tk_I := [(328, [], []), (1, [([], [(53, 1, 0), (2, 2, 0), (0, 0, 0), (1, 3, 0), (1, 4, 0)], [(1, 3, 0)], [((53, 1, 0), (1, 0, 12), (1, 9, 0)), ((53, 1, 0), (1, 0, 7), (1, 10, 0)), ((53, 1, 0), (1, 0, 6), (1, 5, 0))], (0, 0), true)], [])]
theorem tu_p368 : tk_ck tt_T tt_sc tt_nt (tu_K 368) tt_nw 8000 tu_t368 tu_k368 = true := by decide +kernel
def tu_t371 : List tk_I := [(328, [], []), (1, [([], [(53, 1, 0), (2, 2, 0), (0, 0, 0), (1, 3, 0), (1, 4, 0)], [(1, 3, 0)], [((53, 1, 0), (1, 0, 12), (1, 9, 0)), ((53, 1, 0), (1, 0, 7), (1, 10, 0)), ((53, 1, 0), (1, 0, 6), (1, 5, 0))], (0, 0), true)], [])]
theorem tu_p371 : tk_ck tt_T tt_sc tt_nt (tu_K 371) tt_nw 8000 tu_t371 tu_k371 = true := by decide +kernel
def tu_t374 : List tk_I := [(328, [], []), (1, [([], [(53, 1, 0), (2, 2, 0), (0, 0, 0), (1, 3, 0), (1, 4, 0)], [(1, 3, 0)], [((53, 1, 0), (1, 0, 12), (1, 9, 0)), ((53, 1, 0), (1, 0, 7), (1, 10, 0)), ((53, 1, 0), (1, 0, 6), (1, 5, 0))], (0, 0), true)], [])]
theorem tu_p374 : tk_ck tt_T tt_sc tt_nt (tu_K 374) tt_nw 8000 tu_t374 tu_k374 = true := by decide +kernel
def tu_t375 : List tk_I := [(328, [], []), (1, [([], [(53, 1, 0), (2, 2, 0), (0, 0, 0), (1, 3, 0), (1, 4, 0)], [(1, 3, 0)], [((53, 1, 0), (1, 0, 12), (1, 9, 0)), ((53, 1, 0), (1, 0, 7), (1, 10, 0)), ((53, 1, 0), (1, 0, 6), (1, 5, 0))], (0, 0), true)], [])]
theorem tu_p375 : tk_ck tt_T tt_sc tt_nt (tu_K 375) tt_nw 8000 tu_t375 tu_k375 = true := by decide +kernel
def tu_t377 : List tk_I := [(328, [], []), (1, [([], [(53, 1, 0), (2, 2, 0), (0, 0, 0), (1, 3, 0), (1, 4, 0)], [(1, 3, 0)], [((53, 1, 0), (1, 0, 12), (1, 9, 0)), ((53, 1, 0), (1, 0, 7), (1, 10, 0)), ((53, 1, 0), (1, 0, 6), (1, 5, 0))], (0, 0), true)], [])]
theorem tu_p377 : tk_ck tt_T tt_sc tt_nt (tu_K 377) tt_nw 8000 tu_t377 tu_k377 = true := by decide +kernel
def tu_t378 : List tk_I := [(328, [], []), (1, [([], [(53, 1, 0), (2, 2, 0), (0, 0, 0), (1, 3, 0), (1, 4, 0)], [(1, 3, 0)], [((53, 1, 0), (1, 0, 12), (1, 9, 0)), ((53, 1, 0), (1, 0, 7), (1, 10, 0)), ((53, 1, 0), (1, 0, 6), (1, 5, 0))], (0, 0), true)], [])]
theorem tu_p378 : tk_ck tt_T tt_sc tt_nt (tu_K 378) tt_nw 8000 tu_t378 tu_k378 = true := by decide +kernel
def tu_t171 : List tk_I := [(1, [([((-2147483648), 2147483647, 0, 0, 0, 0), (0, 127, 0, 0, 0, 0)], [(1, 1, 0), (1, 2, 0), (1, 3, 0)], [], [], (3, 0), false)], [])]
theorem tu_p171 : tk_ck tt_T tt_sc tt_nt (tu_K 171) tt_nw 8000 tu_t171 tu_k171 = true := by decide +kernel
def tu_t394 : List tk_I := [(345, [], []), (0, [], [])]
theorem tu_p394 : tk_ck tt_T tt_sc tt_nt (tu_K 394) tt_nw 8000 tu_t394 tu_k394 = true := by decide +kernel
def tu_t189 : List tk_I := [(76, [], []), (75, [], [((24, 1, 0), (1, 0, 1)), ((24, 1, 0), (1, 0, 2))])]
theorem tu_p189 : tk_ck tt_T tt_sc tt_nt (tu_K 189) tt_nw 8000 tu_t189 tu_k189 = true := by decide +kernel
def tu_t190 : List tk_I := [(77, [], []), (75, [], [((24, 1, 0), (1, 0, 1)), ((24, 1, 0), (1, 0, 2))])]
theorem tu_p190 : tk_ck tt_T tt_sc tt_nt (tu_K 190) tt_nw 8000 tu_t190 tu_k190 = true := by decide +kernel
def tu_t191 : List tk_I := [(78, [], []), (75, [], [((24, 1, 0), (1, 0, 1)), ((24, 1, 0), (1, 0, 2))])]
theorem tu_p191 : tk_ck tt_T tt_sc tt_nt (tu_K 191) tt_nw 8000 tu_t191 tu_k191 = true := by decide +kernel
def tu_t192 : List tk_I := [(79, [], []), (75, [], [((24, 1, 0), (1, 0, 1)), ((24, 1, 0), (1, 0, 2))])]
theorem tu_p192 : tk_ck tt_T tt_sc tt_nt (tu_K 192) tt_nw 8000 tu_t192 tu_k192 = true := by decide +kernel
def tu_t193 : List tk_I := [(80, [], []), (75, [], [((24, 1, 0), (1, 0, 1)), ((24, 1, 0), (1, 0, 2))])]
theorem tu_p193 : tk_ck tt_T tt_sc tt_nt (tu_K 193) tt_nw 8000 tu_t193 tu_k193 = true := by decide +kernel
def tu_t194 : List tk_I := [(81, [], []), (75, [], [((24, 1, 0), (1, 0, 1)), ((24, 1, 0), (1, 0, 2))])]
theorem tu_p194 : tk_ck tt_T tt_sc tt_nt (tu_K 194) tt_nw 8000 tu_t194 tu_k194 = true := by decide +kernel
def tu_t195 : List tk_I := [(82, [], []), (75, [], [((24, 1, 0), (1, 0, 1)), ((24, 1, 0), (1, 0, 2))])]
theorem tu_p195 : tk_ck tt_T tt_sc tt_nt (tu_K 195) tt_nw 8000 tu_t195 tu_k195 = true := by decide +kernel
def tu_t196 : List tk_I := [(83, [], []), (75, [], [((24, 1, 0), (1, 0, 1)), ((24, 1, 0), (1, 0, 2))])]
theorem tu_p196 : tk_ck tt_T tt_sc tt_nt (tu_K 196) tt_nw 8000 tu_t196 tu_k196 = true := by decide +kernel
def tu_t197 : List tk_I := [(84, [], []), (75, [], [((24, 1, 0), (1, 0, 1)), ((24, 1, 0), (1, 0, 2))])]
theorem tu_p197 : tk_ck tt_T tt_sc tt_nt (tu_K 197) tt_nw 8000 tu_t197 tu_k197 = true := by decide +kernel
def tu_t198 : List tk_I := [(85, [], []), (75, [], [((24, 1, 0), (1, 0, 1)), ((24, 1, 0), (1, 0, 2))])]
theorem tu_p198 : tk_ck tt_T tt_sc tt_nt (tu_K 198) tt_nw 8000 tu_t198 tu_k198 = true := by decide +kernel
def tu_t199 : List tk_I := [(86, [], []), (75, [], [((24, 1, 0), (1, 0, 1)), ((24, 1, 0), (1, 0, 2))])]
theorem tu_p199 : tk_ck tt_T tt_sc tt_nt (tu_K 199) tt_nw 8000 tu_t199 tu_k199 = true := by decide +kernel
def tu_t200 : List tk_I := [(87, [], []), (75, [], [((24, 1, 0), (1, 0, 1)), ((24, 1, 0), (1, 0, 2))])]
theorem tu_p200 : tk_ck tt_T tt_sc tt_nt (tu_K 200) tt_nw 8000 tu_t200 tu_k200 = true := by decide +kernel
def tu_t201 : List tk_I := [(88, [], []), (75, [], [((24, 1, 0), (1, 0, 1)), ((24, 1, 0), (1, 0, 2))])]
theorem tu_p201 : tk_ck tt_T tt_sc tt_nt (tu_K 201) tt_nw 8000 tu_t201 tu_k201 = true := by decide +kernel
def tu_t202 : List tk_I := [(89, [], []), (75, [], [((24, 1, 0), (1, 0, 1)), ((24, 1, 0), (1, 0, 2))])]
theorem tu_p202 : tk_ck tt_T tt_sc tt_nt (tu_K 202) tt_nw 8000 tu_t202 tu_k202 = true := by decide +kernel
def tu_t203 : List tk_I := [(90, [], []), (75, [], [((24, 1, 0), (1, 0, 1)), ((24, 1, 0), (1, 0, 2))])]
theorem tu_p203 : tk_ck tt_T tt_sc tt_nt (tu_K 203) tt_nw 8000 tu_t203 tu_k203 = true := by decide +kernel
def tu_t204 : List tk_I := [(91, [], []), (75, [], [((24, 1, 0), (1, 0, 1)), ((24, 1, 0), (1, 0, 2))])]
theorem tu_p204 : tk_ck tt_T tt_sc tt_nt (tu_K 204) tt_nw 8000 tu_t204 tu_k204 = true := by decide +kernel
def tu_t205 : List tk_I := [(92, [], []), (75, [], [((24, 1, 0), (1, 0, 1)), ((24, 1, 0), (1, 0, 2))])]
theorem tu_p205 : tk_ck tt_T tt_sc tt_nt (tu_K 205) tt_nw 8000 tu_t205 tu_k205 = true := by decide +kernel
def tu_t206 : List tk_I := [(93, [], []), (75, [], [((24, 1, 0), (1, 0, 1)), ((24, 1, 0), (1, 0, 2))])]
theorem tu_p206 : tk_ck tt_T tt_sc tt_nt (tu_K 206) tt_nw 8000 tu_t206 tu_k206 = true := by decide +kernel
def tu_t207 : List tk_I := [(94, [], []), (75, [], [((24, 1, 0), (1, 0, 1)), ((24, 1, 0), (1, 0, 2))])]
theorem tu_p207 : tk_ck tt_T tt_sc tt_nt (tu_K 207) tt_nw 8000 tu_t207 tu_k207 = true := by decide +kernel
def tu_t208 : List tk_I := [(95, [], []), (75, [], [((24, 1, 0), (1, 0, 1)), ((24, 1, 0), (1, 0, 2))])]
theorem tu_p208 : tk_ck tt_T tt_sc tt_nt (tu_K 208) tt_nw 8000 tu_t208 tu_k208 = true := by decide +kernel
def tu_t209 : List tk_I := [(96, [], []), (75, [], [((24, 1, 0), (1, 0, 1)), ((24, 1, 0), (1, 0, 2))])]
theorem tu_p209 : tk_ck tt_T tt_sc tt_nt (tu_K 209) tt_nw 8000 tu_t209 tu_k209 = true := by decide +kernel
def tu_t210 : List tk_I := [(97, [], []), (75, [], [((24, 1, 0), (1, 0, 1)), ((24, 1, 0), (1, 0, 2))])]
theorem tu_p210 : tk_ck tt_T tt_sc tt_nt (tu_K 210) tt_nw 8000 tu_t210 tu_k210 = true := by decide +kernel
def tu_t211 : List tk_I := [(98, [], []), (75, [], [((24, 1, 0), (1, 0, 1)), ((24, 1, 0), (1, 0, 2))])]
theorem tu_p211 : tk_ck tt_T tt_sc tt_nt (tu_K 211) tt_nw 8000 tu_t211 tu_k211 = true := by decide +kernel
def tu_t212 : List tk_I := [(99, [], []), (75, [], [((24, 1, 0), (1, 0, 1)), ((24, 1, 0), (1, 0, 2))])]
theorem tu_p212 : tk_ck tt_T tt_sc tt_nt (tu_K 212) tt_nw 8000 tu_t212 tu_k212 = true := by decide +kernel
def tu_t213 : List tk_I := [(100, [], []), (75, [], [((24, 1, 0), (1, 0, 1)), ((24, 1, 0), (1, 0, 2))])]
theorem tu_p213 : tk_ck tt_T tt_sc tt_nt (tu_K 213) tt_nw 8000 tu_t213 tu_k213 = true := by decide +kernel
def tu_t214 : List tk_I := [(101, [], []), (75, [], [((24, 1, 0), (1, 0, 1)), ((24, 1, 0), (1, 0, 2))])]
theorem tu_p214 : tk_ck tt_T tt_sc tt_nt (tu_K 214) tt_nw 8000 tu_t214 tu_k214 = true := by decide +kernel
def tu_t215 : List tk_I := [(102, [], []), (75, [], [((24, 1, 0), (1, 0, 1)), ((24, 1, 0), (1, 0, 2))])]
theorem tu_p215 : tk_ck tt_T tt_sc tt_nt (tu_K 215) tt_nw 8000 tu_t215 tu_k215 = true := by decide +kernel
def tu_t216 : List tk_I := [(103, [], []), (75, [], [((24, 1, 0), (1, 0, 1)), ((24, 1, 0), (1, 0, 2))])]
theorem tu_p216 : tk_ck tt_T tt_sc tt_nt (tu_K 216) tt_nw 8000 tu_t216 tu_k216 = true := by decide +kernel
def tu_t217 : List tk_I := [(104, [], []), (75, [], [((24, 1, 0), (1, 0, 1)), ((24, 1, 0), (1, 0, 2))])]
theorem tu_p217 : tk_ck tt_T tt_sc tt_nt (tu_K 217) tt_nw 8000 tu_t217 tu_k217 = true := by decide +kernel
def tu_t218 : List tk_I := [(105, [], []), (75, [], [((24, 1, 0), (1, 0, 1)), ((24, 1, 0), (1, 0, 2))])]
theorem tu_p218 : tk_ck tt_T tt_sc tt_nt (tu_K 218) tt_nw 8000 tu_t218 tu_k218 = true := by decide +kernel
def tu_t219 : List tk_I := [(106, [], []), (75, [], [((24, 1, 0), (1, 0, 1)), ((24, 1, 0), (1, 0, 2))])]
theorem tu_p219 : tk_ck tt_T tt_sc tt_nt (tu_K 219) tt_nw 8000 tu_t219 tu_k219 = true := by decide +kernel
def tu_t70 : List tk_I := []
theorem tu_p70 : tk_ck tt_T tt_sc tt_nt (tu_K 70) tt_nw 8000 tu_t70 tu_k70 = true := by decide +kernel
def tu_t269 : List tk_I := [(165, [], []), (166, [], [])]
theorem tu_p269 : tk_ck tt_T tt_sc tt_nt (tu_K 269) tt_nw 8000 tu_t269 tu_k269 = true := by decide +kernel
def tu_t164 : List tk_I := []
theorem tu_p164 : tk_ck tt_T tt_sc tt_nt (tu_K 164) tt_nw 8000 tu_t164 tu_k164 = true := by decide +kernel
def tu_t415 : List tk_I := [(390, [], []), (390, [], [])]
theorem tu_p415 : tk_ck tt_T tt_sc tt_nt (tu_K 415) tt_nw 8000 tu_t415 tu_k415 = true := by decide +kernel
def tu_t177 : List tk_I := []
theorem tu_p177 : tk_ck tt_T tt_sc tt_nt (tu_K 177) tt_nw 8000 tu_t177 tu_k177 = true := by decide +kernel
def tu_t305 : List tk_I := [(110, [], []), (111, [], []), (250, [], [])]
theorem tu_p305 : tk_ck tt_T tt_sc tt_nt (tu_K 305) tt_nw 8000 tu_t305 tu_k305 = true := by decide +kernel
def tu_t330 : List tk_I := [(1, [([((-2147483648), 2147483647, 0, 0, 0, 0), (0, 730, 0, 0, 0, 0)], [(53, 1, 0), (1, 2, 0), (1, 3, 0), (1, 4, 0), (1, 5, 0), (1, 6, 0)], [], [], (6, 0), true)], []), (268, [], [])]
theorem tu_p330 : tk_ck tt_T tt_sc tt_nt (tu_K 330) tt_nw 8000 tu_t330 tu_k330 = true := by decide +kernel
def tu_t180 : List tk_I := [(0, [], [])]
theorem tu_p180 : tk_ck tt_T tt_sc tt_nt (tu_K 180) tt_nw 8000 tu_t180 tu_k180 = true := by decide +kernel
def tu_t280 : List tk_I := [(198, [], []), (224, [], []), (74, [], []), (224, [], [])]
theorem tu_p280 : tk_ck tt_T tt_sc tt_nt (tu_K 280) tt_nw 8000 tu_t280 tu_k280 = true := by decide +kernel
def tu_t281 : List tk_I := [(199, [], []), (225, [], []), (74, [], []), (225, [], [])]
theorem tu_p281 : tk_ck tt_T tt_sc tt_nt (tu_K 281) tt_nw 8000 tu_t281 tu_k281 = true := by decide +kernel
def tu_t282 : List tk_I := [(200, [], []), (226, [], []), (74, [], []), (226, [], [])]
theorem tu_p282 : tk_ck tt_T tt_sc tt_nt (tu_K 282) tt_nw 8000 tu_t282 tu_k282 = true := by decide +kernel
def tu_t283 : List tk_I := [(201, [], []), (227, [], []), (74, [], []), (227, [], [])]
theorem tu_p283 : tk_ck tt_T tt_sc tt_nt (tu_K 283) tt_nw 8000 tu_t283 tu_k283 = true := by decide +kernel
def tu_t284 : List tk_I := [(202, [], []), (229, [], []), (74, [], []), (229, [], [])]
theorem tu_p284 : tk_ck tt_T tt_sc tt_nt (tu_K 284) tt_nw 8000 tu_t284 tu_k284 = true := by decide +kernel
def tu_t285 : List tk_I := [(204, [], []), (227, [], []), (74, [], []), (227, [], [])]
theorem tu_p285 : tk_ck tt_T tt_sc tt_nt (tu_K 285) tt_nw 8000 tu_t285 tu_k285 = true := by decide +kernel
def tu_t286 : List tk_I := [(205, [], []), (227, [], []), (74, [], []), (227, [], [])]
theorem tu_p286 : tk_ck tt_T tt_sc tt_nt (tu_K 286) tt_nw 8000 tu_t286 tu_k286 = true := by decide +kernel
def tu_t287 : List tk_I := [(206, [], []), (230, [], []), (74, [], []), (230, [], [])]
theorem tu_p287 : tk_ck tt_T tt_sc tt_nt (tu_K 287) tt_nw 8000 tu_t287 tu_k287 = true := by decide +kernel
def tu_t288 : List tk_I := [(207, [], []), (231, [], []), (74, [], []), (231, [], [])]
theorem tu_p288 : tk_ck tt_T tt_sc tt_nt (tu_K 288) tt_nw 8000 tu_t288 tu_k288 = true := by decide +kernel
def tu_t289 : List tk_I := [(208, [], []), (232, [], []), (74, [], []), (232, [], [])]
theorem tu_p289 : tk_ck tt_T tt_sc tt_nt (tu_K 289) tt_nw 8000 tu_t289 tu_k289 = true := by decide +kernel
def tu_t290 : List tk_I := [(209, [], []), (233, [], []), (74, [], []), (233, [], [])]
theorem tu_p290 : tk_ck tt_T tt_sc tt_nt (tu_K 290) tt_nw 8000 tu_t290 tu_k290 = true := by decide +kernel
def tu_t291 : List tk_I := [(210, [], []), (224, [], []), (74, [], []), (224, [], [])]
theorem tu_p291 : tk_ck tt_T tt_sc tt_nt (tu_K 291) tt_nw 8000 tu_t291 tu_k291 = true := by decide +kernel
def tu_t292 : List tk_I := [(212, [], []), (234, [], []), (74, [], []), (234, [], [])]
theorem tu_p292 : tk_ck tt_T tt_sc tt_nt (tu_K 292) tt_nw 8000 tu_t292 tu_k292 = true := by decide +kernel
def tu_t293 : List tk_I := [(213, [], []), (235, [], []), (74, [], []), (235, [], [])]
theorem tu_p293 : tk_ck tt_T tt_sc tt_nt (tu_K 293) tt_nw 8000 tu_t293 tu_k293 = true := by decide +kernel
def tu_t294 : List tk_I := [(214, [], []), (224, [], []), (74, [], []), (224, [], [])]
theorem tu_p294 : tk_ck tt_T tt_sc tt_nt (tu_K 294) tt_nw 8000 tu_t294 tu_k294 = true := by decide +kernel
def tu_t295 : List tk_I := [(215, [], []), (236, [], []), (74, [], []), (236, [], [])]
theorem tu_p295 : tk_ck tt_T tt_sc tt_nt (tu_K 295) tt_nw 8000 tu_t295 tu_k295 = true := by decide +kernel
def tu_t237 : List tk_I := [(1, [([(0, 1094, 0, 0, 0, 0)], [(31, 1, 0), (1, 2, 0)], [], [], (2, 0), true)], []), (114, [], []), (114, [], []), (114, [], [])]
theorem tu_p237 : tk_ck tt_T tt_sc tt_nt (tu_K 237) tt_nw 8000 tu_t237 tu_k237 = true := by decide +kernel
def tu_t111 : List tk_I := []
theorem tu_p111 : tk_ck tt_T tt_sc tt_nt (tu_K 111) tt_nw 8000 tu_t111 tu_k111 = true := by decide +kernel
def tu_t137 : List tk_I := [(1, [([(0, 6, 0, 0, 0, 0)], [(10, 1, 0), (1, 2, 0), (1, 3, 0), (1, 4, 0)], [], [], (4, 0), true)], [])]
theorem tu_p137 : tk_ck tt_T tt_sc tt_nt (tu_K 137) tt_nw 8000 tu_t137 tu_k137 = true := by decide +kernel
def tu_t424 : List tk_I := [(411, [], []), (1, [([(0, 12, 0, 0, 0, 0)], [(53, 1, 0), (1, 2, 0)], [], [], (2, 0), true)], [])]
theorem tu_p424 : tk_ck tt_T tt_sc tt_nt (tu_K 424) tt_nw 8000 tu_t424 tu_k424 = true := by decide +kernel
def tu_t119 : List tk_I := []
theorem tu_p119 : tk_ck tt_T tt_sc tt_nt (tu_K 119) tt_nw 8000 tu_t119 tu_k119 = true := by decide +kernel
def tu_t255 : List tk_I := [(1, [([((-2147483648), 2147483647, 0, 0, 0, 0), (0, 730, 0, 0, 0, 0)], [(10, 1, 0), (1, 2, 0), (1, 3, 0), (1, 4, 0), (1, 5, 0), (1, 6, 0)], [], [], (6, 0), true)], []), (124, [], [])]
theorem tu_p255 : tk_ck tt_T tt_sc tt_nt (tu_K 255) tt_nw 8000 tu_t255 tu_k255 = true := by decide +kernel
def tu_t126 : List tk_I := [(1, [([(1, 12, 0, 0, 0, 0)], [(17, 1, 0), (1, 2, 0), (1, 3, 0)], [], [], (3, 0), true)], [])]
theorem tu_p126 : tk_ck tt_T tt_sc tt_nt (tu_K 126) tt_nw 8000 tu_t126 tu_k126 = true := by decide +kernel
def tu_t183 : List tk_I := []
theorem tu_p183 : tk_ck tt_T tt_sc tt_nt (tu_K 183) tt_nw 8000 tu_t183 tu_k183 = true := by decide +kernel
def tu_t152 : List tk_I := []
theorem tu_p152 : tk_ck tt_T tt_sc tt_nt (tu_K 152) tt_nw 8000 tu_t152 tu_k152 = true := by decide +kernel
def tu_t148 : List tk_I := []
theorem tu_p148 : tk_ck tt_T tt_sc tt_nt (tu_K 148) tt_nw 8000 tu_t148 tu_k148 = true := by decide +kernel
def tu_t106 : List tk_I := [(1, [([((-1), 119, 0, 0, 0, 0)], [(26, 1, 0), (1, 2, 0), (1, 4, 0)], [], [((26, 1, 0), (1, 0, 4), (1, 3, 0))], (4, 0), false)], [])]
theorem tu_p106 : tk_ck tt_T tt_sc tt_nt (tu_K 106) tt_nw 8000 tu_t106 tu_k106 = true := by decide +kernel
def tu_t181 : List tk_I := [(0, [], [])]
theorem tu_p181 : tk_ck tt_T tt_sc tt_nt (tu_K 181) tt_nw 8000 tu_t181 tu_k181 = true := by decide +kernel
def tu_t139 : List tk_I := [(1, [([((-2147483648), 2147483647, 0, 0, 0, 0), (0, 4, 0, 0, 0, 0)], [(10, 1, 0), (1, 2, 0), (1, 3, 0)], [], [], (3, 0), true)], [])]
theorem tu_p139 : tk_ck tt_T tt_sc tt_nt (tu_K 139) tt_nw 8000 tu_t139 tu_k139 = true := by decide +kernel
def tu_t121 : List tk_I := [(1, [([(0, 2, 0, 0, 0, 0)], [(17, 1, 0), (1, 2, 0)], [], [((17, 1, 0), (1, 0, 9), (1, 0, 0)), ((17, 1, 0), (1, 0, 7), (1, 0, 0)), ((17, 1, 0), (1, 0, 5), (1, 0, 0)), ((17, 1, 0), (1, 0, 3), (1, 0, 0)), ((17, 1, 0), (1, 0, 1), (1, 0, 0))], (2, 0), true)], [])]
theorem tu_p121 : tk_ck tt_T tt_sc tt_nt (tu_K 121) tt_nw 8000 tu_t121 tu_k121 = true := by decide +kernel
def tu_t302 : List tk_I := [(1, [([(0, 2147483647, 0, 0, 0, 0), (0, 13, 0, 0, 0, 0)], [(38, 1, 0), (21, 2, 0), (31, 3, 0), (1, 4, 0), (1, 5, 0)], [], [], (5, 0), true)], []), (241, [], [])]
theorem tu_p302 : tk_ck tt_T tt_sc tt_nt (tu_K 302) tt_nw 8000 tu_t302 tu_k302 = true := by decide +kernel
def tu_t110 : List tk_I := [(1, [([(0, 120, 0, 0, 0, 0)], [(26, 1, 0), (1, 2, 0), (1, 3, 0), (1, 4, 0)], [], [], (4, 0), true)], [])]
theorem tu_p110 : tk_ck tt_T tt_sc tt_nt (tu_K 110) tt_nw 8000 tu_t110 tu_k110 = true := by decide +kernel
def tu_t346 : List tk_I := [(0, [], []), (309, [], [])]
theorem tu_p346 : tk_ck tt_T tt_sc tt_nt (tu_K 346) tt_nw 8000 tu_t346 tu_k346 = true := by decide +kernel
def tu_t347 : List tk_I := [(1, [([((-2147483648), 2147483647, 0, 0, 0, 0), (0, 12, 0, 0, 0, 0)], [(10, 1, 0), (1, 2, 0), (1, 3, 0), (0, 0, 0)], [], [], (3, 0), true)], []), (309, [], [])]
theorem tu_p347 : tk_ck tt_T tt_sc tt_nt (tu_K 347) tt_nw 8000 tu_t347 tu_k347 = true := by decide +kernel
def tu_t273 : List tk_I := [(164, [], [])]
theorem tu_p273 : tk_ck tt_T tt_sc tt_nt (tu_K 273) tt_nw 8000 tu_t273 tu_k273 = true := by decide +kernel
def tu_t134 : List tk_I := [(0, [], [])]
theorem tu_p134 : tk_ck tt_T tt_sc tt_nt (tu_K 134) tt_nw 8000 tu_t134 tu_k134 = true := by decide +kernel
def tu_t318 : List tk_I := [(0, [], []), (257, [], [])]
theorem tu_p318 : tk_ck tt_T tt_sc tt_nt (tu_K 318) tt_nw 8000 tu_t318 tu_k318 = true := by decide +kernel
def tu_t321 : List tk_I := [(258, [], []), (1, [([((-2147483648), 2147483647, 0, 0, 0, 0)], [(10, 1, 0), (1, 2, 0), (1, 3, 0), (1, 4, 0)], [(1, 5, 0)], [], (0, 0), true)], []), (1, [([(0, 2147483647, 0, 0, 0, 0)], [(10, 1, 0), (1, 2, 0), (1, 3, 0), (1, 4, 0)], [(1, 5, 0)], [], (0, 0), true)], [])]
theorem tu_p321 : tk_ck tt_T tt_sc tt_nt (tu_K 321) tt_nw 8000 tu_t321 tu_k321 = true := by decide +kernel
def tu_t176 : List tk_I := [(1, [([(0, 120, 0, 0, 0, 0)], [(53, 1, 0), (1, 2, 0), (1, 3, 0), (1, 4, 0)], [], [], (4, 0), true)], [])]
theorem tu_p176 : tk_ck tt_T tt_sc tt_nt (tu_K 176) tt_nw 8000 tu_t176 tu_k176 = true := by decide +kernel
def tu_t128 : List tk_I := [(1, [([(1, 4096, 0, 0, 0, 0)], [(43, 1, 0), (47, 2, 0), (48, 3, 0), (1, 4, 0), (1, 5, 0)], [], [], (5, 0), true)], []), (37, [], [])]
theorem tu_p128 : tk_ck tt_T tt_sc tt_nt (tu_K 128) tt_nw 8000 tu_t128 tu_k128 = true := by decide +kernel
def tu_t316 : List tk_I := [(1, [([((-2147483648), 2147483647, 0, 0, 0, 0), (0, 12, 0, 0, 0, 0)], [(10, 1, 0), (1, 2, 0), (1, 3, 0), (1, 4, 0), (1, 5, 0)], [], [], (5, 0), true)], []), (245, [], []), (1, [([((-2147483648), 9999, 0, 0, 0, 0)], [(10, 1, 0), (1, 2, 0), (1, 3, 0), (1, 4, 0), (1, 5, 0)], [(1, 10, 0), (1, 4, 0)], [((17, 6, 0), (1, 0, 1), (1, 7, 0)), ((10, 1, 0), (1, 0, 2), (17, 6, 0))], (0, 0), true)], [])]
theorem tu_p316 : tk_ck tt_T tt_sc tt_nt (tu_K 316) tt_nw 8000 tu_t316 tu_k316 = true := by decide +kernel
def tu_t118 : List tk_I := []
theorem tu_p118 : tk_ck tt_T tt_sc tt_nt (tu_K 118) tt_nw 8000 tu_t118 tu_k118 = true := by decide +kernel
def tu_t165 : List tk_I := [(1, [([(0, 12, 0, 0, 0, 0)], [(53, 1, 0), (1, 2, 0), (0, 0, 0)], [], [], (2, 0), true)], []), (1, [([(0, 7, 0, 0, 0, 0)], [(53, 1, 0), (1, 2, 0), (1, 6, 0)], [], [((53, 1, 0), (1, 0, 17), (60, 3, 0))], (6, 0), true)], [])]
theorem tu_p165 : tk_ck tt_T tt_sc tt_nt (tu_K 165) tt_nw 8000 tu_t165 tu_k165 = true := by decide +kernel
def tu_t306 : List tk_I := [(111, [], []), (110, [], []), (250, [], [])]
theorem tu_p306 : tk_ck tt_T tt_sc tt_nt (tu_K 306) tt_nw 8000 tu_t306 tu_k306 = true := by decide +kernel
def tu_t173 : List tk_I := [(0, [], []), (0, [], [])]
theorem tu_p173 : tk_ck tt_T tt_sc tt_nt (tu_K 173) tt_nw 8000 tu_t173 tu_k173 = true := by decide +kernel
def tu_t147 : List tk_I := [(0, [], [])]
theorem tu_p147 : tk_ck tt_T tt_sc tt_nt (tu_K 147) tt_nw 8000 tu_t147 tu_k147 = true := by decide +kernel
def tu_t300 : List tk_I := [(222, [], []), (74, [], [])]
theorem tu_p300 : tk_ck tt_T tt_sc tt_nt (tu_K 300) tt_nw 8000 tu_t300 tu_k300 = true := by decide +kernel
def tu_t117 : List tk_I := []
theorem tu_p117 : tk_ck tt_T tt_sc tt_nt (tu_K 117) tt_nw 8000 tu_t117 tu_k117 = true := by decide +kernel
def tu_t125 : List tk_I := [(1, [([(0, 4095, 0, 0, 0, 0), ((-1), 11, 0, 0, 0, 0), (0, 12, 0, 0, 0, 0)], [(17, 1, 0), (1, 2, 0), (1, 6, 0), (1, 7, 0), (1, 8, 0)], [], [((21, 4, 0), (1, 0, 0), (1, 5, 0)), ((18, 3, 0), (1, 2, 0), (21, 4, 0)), ((17, 1, 0), (1, 0, 0), (18, 3, 0))], (8, 0), true)], [])]
theorem tu_p125 : tk_ck tt_T tt_sc tt_nt (tu_K 125) tt_nw 8000 tu_t125 tu_k125 = true := by decide +kernel
def tu_t133 : List tk_I := [(70, [], [])]
theorem tu_p133 : tk_ck tt_T tt_sc tt_nt (tu_K 133) tt_nw 8000 tu_t133 tu_k133 = true := by decide +kernel
def tu_t120 : List tk_I := [(1, [([((-2147483648), 2147483647, 0, 0, 0, 0)], [(23, 1, 0), (1, 2, 0), (0, 0, 0), (0, 0, 0)], [(1, 4, 0)], [((23, 1, 0), (1, 0, 3), (1, 3, 0))], (0, 0), true)], [])]
theorem tu_p120 : tk_ck tt_T tt_sc tt_nt (tu_K 120) tt_nw 8000 tu_t120 tu_k120 = true := by decide +kernel
def tu_t122 : List tk_I := [(1, [([(0, 6, 0, 0, 0, 0)], [(17, 1, 0), (1, 2, 0), (1, 3, 0), (1, 4, 0), (0, 0, 0)], [], [], (4, 0), true)], [])]
theorem tu_p122 : tk_ck tt_T tt_sc tt_nt (tu_K 122) tt_nw 8000 tu_t122 tu_k122 = true := by decide +kernel
def tu_t419 : List tk_I := [(0, [], []), (395, [], []), (118, [], [])]
theorem tu_p419 : tk_ck tt_T tt_sc tt_nt (tu_K 419) tt_nw 8000 tu_t419 tu_k419 = true := by decide +kernel
def tu_t105 : List tk_I := []
theorem tu_p105 : tk_ck tt_T tt_sc tt_nt (tu_K 105) tt_nw 8000 tu_t105 tu_k105 = true := by decide +kernel
def tu_t299 : List tk_I := [(216, [], []), (217, [], []), (218, [], []), (219, [], []), (220, [], []), (221, [], [])]
theorem tu_p299 : tk_ck tt_T tt_sc tt_nt (tu_K 299) tt_nw 8000 tu_t299 tu_k299 = true := by decide +kernel
def tu_t349 : List tk_I := [(0, [], []), (309, [], []), (184, [], [])]
theorem tu_p349 : tk_ck tt_T tt_sc tt_nt (tu_K 349) tt_nw 8000 tu_t349 tu_k349 = true := by decide +kernel
def tu_t431 : List tk_I := [(426, [], []), (1, [([((-2147483648), 2147483647, 0, 0, 0, 0), (0, 12, 0, 0, 0, 0)], [(53, 1, 0), (1, 3, 0), (1, 4, 0)], [], [((53, 1, 0), (1, 0, 0), (1, 0, 0))], (4, 0), true)], [])]
theorem tu_p431 : tk_ck tt_T tt_sc tt_nt (tu_K 431) tt_nw 8000 tu_t431 tu_k431 = true := by decide +kernel
def tu_t135 : List tk_I := []
theorem tu_p135 : tk_ck tt_T tt_sc tt_nt (tu_K 135) tt_nw 8000 tu_t135 tu_k135 = true := by decide +kernel
def tu_t348 : List tk_I := [(1, [([((-2147483648), 1000000, 0, 0, 0, 0), (0, 12, 0, 0, 0, 0)], [(10, 1, 0), (1, 2, 0), (1, 3, 0), (0, 0, 0)], [], [], (3, 0), true)], []), (309, [], []), (184, [], []), (1, [([((-2147483648), 1000000, 0, 0, 0, 0)], [(10, 1, 0), (1, 2, 0), (1, 3, 0), (1, 7, 0)], [(1, 11, 0)], [((17, 4, 0), (1, 0, 1), (1, 5, 0)), ((10, 1, 0), (1, 0, 2), (17, 4, 0))], (0, 0), true)], [])]
theorem tu_p348 : tk_ck tt_T tt_sc tt_nt (tu_K 348) tt_nw 8000 tu_t348 tu_k348 = true := by decide +kernel
def tu_t127 : List tk_I := [(1, [([(0, 99, 0, 0, 0, 0)], [(17, 1, 0), (1, 2, 0), (1, 3, 0)], [(1, 10, 0)], [((21, 7, 0), (1, 0, 7), (1, 8, 0)), ((18, 4, 0), (1, 3, 0), (21, 7, 0)), ((21, 5, 0), (1, 0, 7), (1, 6, 0)), ((18, 4, 0), (1, 2, 0), (21, 5, 0)), ((17, 1, 0), (1, 0, 0), (18, 4, 0))], (0, 0), true)], []), (1, [([(0, 99, 0, 0, 0, 0)], [(17, 1, 0), (1, 2, 0), (1, 3, 0)], [(1, 14, 0), (1, 10, 0)], [((21, 7, 0), (1, 0, 8), (1, 12, 0)), ((21, 5, 0), (1, 0, 8), (1, 11, 0)), ((21, 7, 0), (1, 0, 7), (1, 8, 0)), ((18, 4, 0), (1, 3, 0), (21, 7, 0)), ((21, 5, 0), (1, 0, 7), (1, 6, 0)), ((18, 4, 0), (1, 2, 0), (21, 5, 0)), ((17, 1, 0), (1, 0, 0), (18, 4, 0))], (0, 0), true)], [])]
theorem tu_p127 : tk_ck tt_T tt_sc tt_nt (tu_K 127) tt_nw 8000 tu_t127 tu_k127 = true := by decide +kernel
def tu_t124 : List tk_I := [(1, [([((-2147483648), 2147483647, 0, 0, 0, 0), (0, 6, 0, 0, 0, 0)], [(17, 1, 0), (1, 2, 0), (1, 3, 0), (1, 4, 0), (1, 5, 0)], [], [], (5, 0), true)], [])]
theorem tu_p124 : tk_ck tt_T tt_sc tt_nt (tu_K 124) tt_nw 8000 tu_t124 tu_k124 = true := by decide +kernel
def tu_t123 : List tk_I := [(1, [([((-2147483648), 2147483647, 0, 0, 0, 0), (0, 6, 0, 0, 0, 0)], [(17, 1, 0), (1, 2, 0), (1, 3, 0), (1, 4, 0), (1, 5, 0)], [], [], (5, 0), true)], [])]
theorem tu_p123 : tk_ck tt_T tt_sc tt_nt (tu_K 123) tt_nw 8000 tu_t123 tu_k123 = true := by decide +kernel
def tu_t311 : List tk_I := [(1, [([((-2147483648), 2147483647, 0, 0, 0, 0), (0, 6, 0, 0, 0, 0)], [(10, 1, 0), (1, 2, 0), (1, 3, 0), (1, 4, 0), (1, 5, 0), (0, 0, 0)], [], [], (5, 0), true)], []), (246, [], [])]
theorem tu_p311 : tk_ck tt_T tt_sc tt_nt (tu_K 311) tt_nw 8000 tu_t311 tu_k311 = true := by decide +kernel
def tu_t168 : List tk_I := [(0, [], [])]
theorem tu_p168 : tk_ck tt_T tt_sc tt_nt (tu_K 168) tt_nw 8000 tu_t168 tu_k168 = true := by decide +kernel
def tu_t254 : List tk_I := [(1, [([((-2147483648), 2147483647, 0, 0, 0, 0), (0, 6, 0, 0, 0, 0)], [(10, 1, 0), (1, 2, 0), (1, 3, 0), (1, 4, 0), (1, 5, 0), (0, 0, 0)], [], [], (5, 0), true)], []), (129, [], [])]
theorem tu_p254 : tk_ck tt_T tt_sc tt_nt (tu_K 254) tt_nw 8000 tu_t254 tu_k254 = true := by decide +kernel
def tu_t74 : List tk_I := [(49, [], []), (1, [([(0, 5, 0, 0, 0, 0)], [(24, 1, 0), (6, 0, 18), (1, 7, 0)], [], [((24, 1, 0), (1, 0, 4), (1, 5, 0)), ((24, 1, 0), (1, 0, 2), (1, 4, 0)), ((24, 1, 0), (1, 0, 3), (1, 3, 0)), ((24, 1, 0), (1, 0, 0), (11, 2, 0))], (7, 0), true)], []), (49, [], []), (16, [], [])]
theorem tu_p74 : tk_ck tt_T tt_sc tt_nt (tu_K 74) tt_nw 8000 tu_t74 tu_k74 = true := by decide +kernel
def tu_t75 : List tk_I := [(47, [], []), (1, [([(0, 4, 0, 0, 0, 0)], [(24, 1, 0), (6, 0, 16), (1, 7, 0)], [], [((24, 1, 0), (1, 0, 4), (1, 5, 0)), ((24, 1, 0), (1, 0, 2), (1, 4, 0)), ((24, 1, 0), (1, 0, 3), (1, 3, 0)), ((24, 1, 0), (1, 0, 0), (11, 2, 0))], (7, 0), true)], []), (47, [], []), (10, [], [])]
theorem tu_p75 : tk_ck tt_T tt_sc tt_nt (tu_K 75) tt_nw 8000 tu_t75 tu_k75 = true := by decide +kernel
def tu_t76 : List tk_I := [(42, [], []), (1, [([(0, 5, 0, 0, 0, 0)], [(24, 1, 0), (6, 0, 11), (1, 7, 0)], [], [((24, 1, 0), (1, 0, 4), (1, 5, 0)), ((24, 1, 0), (1, 0, 2), (1, 4, 0)), ((24, 1, 0), (1, 0, 3), (1, 3, 0)), ((24, 1, 0), (1, 0, 0), (11, 2, 0))], (7, 0), true)], []), (42, [], []), (14, [], [])]
theorem tu_p76 : tk_ck tt_T tt_sc tt_nt (tu_K 76) tt_nw 8000 tu_t76 tu_k76 = true := by decide +kernel
def tu_t77 : List tk_I := [(69, [], []), (1, [([(0, 5, 0, 0, 0, 0)], [(24, 1, 0), (6, 0, 9), (1, 7, 0)], [], [((24, 1, 0), (1, 0, 4), (1, 5, 0)), ((24, 1, 0), (1, 0, 2), (1, 4, 0)), ((24, 1, 0), (1, 0, 3), (1, 3, 0)), ((24, 1, 0), (1, 0, 0), (11, 2, 0))], (7, 0), true)], []), (69, [], []), (23, [], [])]
theorem tu_p77 : tk_ck tt_T tt_sc tt_nt (tu_K 77) tt_nw 8000 tu_t77 tu_k77 = true := by decide +kernel
def tu_t78 : List tk_I := [(62, [], []), (1, [([(0, 5, 0, 0, 0, 0)], [(24, 1, 0), (6, 0, 3), (1, 7, 0)], [], [((24, 1, 0), (1, 0, 4), (1, 5, 0)), ((24, 1, 0), (1, 0, 2), (1, 4, 0)), ((24, 1, 0), (1, 0, 3), (1, 3, 0)), ((24, 1, 0), (1, 0, 0), (11, 2, 0))], (7, 0), true)], []), (62, [], []), (20, [], [])]
theorem tu_p78 : tk_ck tt_T tt_sc tt_nt (tu_K 78) tt_nw 8000 tu_t78 tu_k78 = true := by decide +kernel
def tu_t79 : List tk_I := [(65, [], []), (1, [([(0, 5, 0, 0, 0, 0)], [(24, 1, 0), (6, 0, 5), (1, 7, 0)], [], [((24, 1, 0), (1, 0, 4), (1, 5, 0)), ((24, 1, 0), (1, 0, 2), (1, 4, 0)), ((24, 1, 0), (1, 0, 3), (1, 3, 0)), ((24, 1, 0), (1, 0, 0), (11, 2, 0))], (7, 0), true)], []), (65, [], []), (21, [], [])]
theorem tu_p79 : tk_ck tt_T tt_sc tt_nt (tu_K 79) tt_nw 8000 tu_t79 tu_k79 = true := by decide +kernel
def tu_t80 : List tk_I := [(59, [], []), (1, [([(0, 6, 0, 0, 0, 0)], [(24, 1, 0), (6, 0, 27), (1, 7, 0)], [], [((24, 1, 0), (1, 0, 4), (1, 5, 0)), ((24, 1, 0), (1, 0, 2), (1, 4, 0)), ((24, 1, 0), (1, 0, 3), (1, 3, 0)), ((24, 1, 0), (1, 0, 0), (11, 2, 0))], (7, 0), true)], []), (59, [], []), (26, [], [])]
theorem tu_p80 : tk_ck tt_T tt_sc tt_nt (tu_K 80) tt_nw 8000 tu_t80 tu_k80 = true := by decide +kernel
def tu_t81 : List tk_I := [(63, [], []), (1, [([(0, 3, 0, 0, 0, 0)], [(24, 1, 0), (6, 0, 30), (1, 7, 0)], [], [((24, 1, 0), (1, 0, 4), (1, 5, 0)), ((24, 1, 0), (1, 0, 2), (1, 4, 0)), ((24, 1, 0), (1, 0, 3), (1, 3, 0)), ((24, 1, 0), (1, 0, 0), (11, 2, 0))], (7, 0), true)], []), (63, [], []), (7, [], [])]
theorem tu_p81 : tk_ck tt_T tt_sc tt_nt (tu_K 81) tt_nw 8000 tu_t81 tu_k81 = true := by decide +kernel
def tu_t82 : List tk_I := [(53, [], []), (1, [([(0, 4, 0, 0, 0, 0)], [(24, 1, 0), (6, 0, 21), (1, 7, 0)], [], [((24, 1, 0), (1, 0, 4), (1, 5, 0)), ((24, 1, 0), (1, 0, 2), (1, 4, 0)), ((24, 1, 0), (1, 0, 3), (1, 3, 0)), ((24, 1, 0), (1, 0, 0), (11, 2, 0))], (7, 0), true)], []), (53, [], []), (11, [], [])]
theorem tu_p82 : tk_ck tt_T tt_sc tt_nt (tu_K 82) tt_nw 8000 tu_t82 tu_k82 = true := by decide +kernel
def tu_t83 : List tk_I := [(48, [], []), (1, [([(0, 6, 0, 0, 0, 0)], [(24, 1, 0), (6, 0, 17), (1, 7, 0)], [], [((24, 1, 0), (1, 0, 4), (1, 5, 0)), ((24, 1, 0), (1, 0, 2), (1, 4, 0)), ((24, 1, 0), (1, 0, 3), (1, 3, 0)), ((24, 1, 0), (1, 0, 0), (11, 2, 0))], (7, 0), true)], []), (48, [], []), (24, [], [])]
theorem tu_p83 : tk_ck tt_T tt_sc tt_nt (tu_K 83) tt_nw 8000 tu_t83 tu_k83 = true := by decide +kernel
def tu_t84 : List tk_I := [(43, [], []), (1, [([(0, 4, 0, 0, 0, 0)], [(24, 1, 0), (6, 0, 12), (1, 7, 0)], [], [((24, 1, 0), (1, 0, 4), (1, 5, 0)), ((24, 1, 0), (1, 0, 2), (1, 4, 0)), ((24, 1, 0), (1, 0, 3), (1, 3, 0)), ((24, 1, 0), (1, 0, 0), (11, 2, 0))], (7, 0), true)], []), (43, [], []), (8, [], [])]
theorem tu_p84 : tk_ck tt_T tt_sc tt_nt (tu_K 84) tt_nw 8000 tu_t84 tu_k84 = true := by decide +kernel
def tu_t85 : List tk_I := [(45, [], []), (1, [([(0, 5, 0, 0, 0, 0)], [(24, 1, 0), (6, 0, 14), (1, 7, 0)], [], [((24, 1, 0), (1, 0, 4), (1, 5, 0)), ((24, 1, 0), (1, 0, 2), (1, 4, 0)), ((24, 1, 0), (1, 0, 3), (1, 3, 0)), ((24, 1, 0), (1, 0, 0), (11, 2, 0))], (7, 0), true)], []), (45, [], []), (15, [], [])]
theorem tu_p85 : tk_ck tt_T tt_sc tt_nt (tu_K 85) tt_nw 8000 tu_t85 tu_k85 = true := by decide +kernel
def tu_t86 : List tk_I := [(58, [], []), (1, [([(0, 6, 0, 0, 0, 0)], [(24, 1, 0), (6, 0, 26), (1, 7, 0)], [], [((24, 1, 0), (1, 0, 4), (1, 5, 0)), ((24, 1, 0), (1, 0, 2), (1, 4, 0)), ((24, 1, 0), (1, 0, 3), (1, 3, 0)), ((24, 1, 0), (1, 0, 0), (11, 2, 0))], (7, 0), true)], []), (58, [], []), (25, [], [])]
theorem tu_p86 : tk_ck tt_T tt_sc tt_nt (tu_K 86) tt_nw 8000 tu_t86 tu_k86 = true := by decide +kernel
def tu_t87 : List tk_I := [(54, [], []), (1, [([(0, 5, 0, 0, 0, 0)], [(24, 1, 0), (6, 0, 22), (1, 7, 0)], [], [((24, 1, 0), (1, 0, 4), (1, 5, 0)), ((24, 1, 0), (1, 0, 2), (1, 4, 0)), ((24, 1, 0), (1, 0, 3), (1, 3, 0)), ((24, 1, 0), (1, 0, 0), (11, 2, 0))], (7, 0), true)], []), (54, [], []), (17, [], [])]
theorem tu_p87 : tk_ck tt_T tt_sc tt_nt (tu_K 87) tt_nw 8000 tu_t87 tu_k87 = true := by decide +kernel
def tu_t88 : List tk_I := [(52, [], []), (1, [([(0, 2, 0, 0, 0, 0)], [(24, 1, 0), (6, 0, 20), (1, 7, 0)], [], [((24, 1, 0), (1, 0, 4), (1, 5, 0)), ((24, 1, 0), (1, 0, 2), (1, 4, 0)), ((24, 1, 0), (1, 0, 3), (1, 3, 0)), ((24, 1, 0), (1, 0, 0), (11, 2, 0))], (7, 0), true)], []), (52, [], []), (3, [], [])]
theorem tu_p88 : tk_ck tt_T tt_sc tt_nt (tu_K 88) tt_nw 8000 tu_t88 tu_k88 = true := by decide +kernel
def tu_t89 : List tk_I := [(60, [], []), (1, [([(0, 2, 0, 0, 0, 0)], [(24, 1, 0), (6, 0, 28), (1, 7, 0)], [], [((24, 1, 0), (1, 0, 4), (1, 5, 0)), ((24, 1, 0), (1, 0, 2), (1, 4, 0)), ((24, 1, 0), (1, 0, 3), (1, 3, 0)), ((24, 1, 0), (1, 0, 0), (11, 2, 0))], (7, 0), true)], []), (60, [], []), (4, [], [])]
theorem tu_p89 : tk_ck tt_T tt_sc tt_nt (tu_K 89) tt_nw 8000 tu_t89 tu_k89 = true := by decide +kernel
def tu_t90 : List tk_I := [(55, [], []), (1, [([(0, 8, 0, 0, 0, 0)], [(24, 1, 0), (6, 0, 23), (1, 7, 0)], [], [((24, 1, 0), (1, 0, 4), (1, 5, 0)), ((24, 1, 0), (1, 0, 2), (1, 4, 0)), ((24, 1, 0), (1, 0, 3), (1, 3, 0)), ((24, 1, 0), (1, 0, 0), (11, 2, 0))], (7, 0), true)], []), (55, [], []), (32, [], [])]
theorem tu_p90 : tk_ck tt_T tt_sc tt_nt (tu_K 90) tt_nw 8000 tu_t90 tu_k90 = true := by decide +kernel
def tu_t91 : List tk_I := [(67, [], []), (1, [([(0, 6, 0, 0, 0, 0)], [(24, 1, 0), (6, 0, 7), (1, 7, 0)], [], [((24, 1, 0), (1, 0, 4), (1, 5, 0)), ((24, 1, 0), (1, 0, 2), (1, 4, 0)), ((24, 1, 0), (1, 0, 3), (1, 3, 0)), ((24, 1, 0), (1, 0, 0), (11, 2, 0))], (7, 0), true)], []), (67, [], []), (28, [], [])]
theorem tu_p91 : tk_ck tt_T tt_sc tt_nt (tu_K 91) tt_nw 8000 tu_t91 tu_k91 = true := by decide +kernel
def tu_t92 : List tk_I := [(46, [], []), (1, [([(0, 8, 0, 0, 0, 0)], [(24, 1, 0), (6, 0, 15), (1, 7, 0)], [], [((24, 1, 0), (1, 0, 4), (1, 5, 0)), ((24, 1, 0), (1, 0, 2), (1, 4, 0)), ((24, 1, 0), (1, 0, 3), (1, 3, 0)), ((24, 1, 0), (1, 0, 0), (11, 2, 0))], (7, 0), true)], []), (46, [], []), (30, [], [])]
theorem tu_p92 : tk_ck tt_T tt_sc tt_nt (tu_K 92) tt_nw 8000 tu_t92 tu_k92 = true := by decide +kernel
