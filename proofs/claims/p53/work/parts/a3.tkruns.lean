def tu_t173 : List tk_I := [(119, [], []), (120, [], [])]
theorem tu_p173 : tk_ck tt_T tt_sc tt_nt (tu_K 173) tt_nw 4000 tu_t173 tu_k173 = true := by decide +kernel
def tu_t176 : List tk_I := [(0, [], []), (0, [], []), (131, [], [])]
theorem tu_p176 : tk_ck tt_T tt_sc tt_nt (tu_K 176) tt_nw 4000 tu_t176 tu_k176 = true := by decide +kernel
def tu_t177 : List tk_I := [(118, [], [])]
theorem tu_p177 : tk_ck tt_T tt_sc tt_nt (tu_K 177) tt_nw 4000 tu_t177 tu_k177 = true := by decide +kernel
def tu_t178 : List tk_I := [(118, [], []), (118, [], [])]
theorem tu_p178 : tk_ck tt_T tt_sc tt_nt (tu_K 178) tt_nw 4000 tu_t178 tu_k178 = true := by decide +kernel
def tu_t179 : List tk_I := [(0, [], []), (0, [], []), (0, [], []), (1, [([((-2147483648), 2147483647, 0, 0, 0, 0), (0, 730, 0, 0, 0, 0)], [(53, 1, 0), (1, 2, 0), (1, 3, 0), (1, 8, 0), (1, 9, 0)], [], [((60, 4, 0), (1, 0, 0), (1, 5, 0)), ((53, 1, 0), (1, 0, 17), (60, 4, 0)), ((53, 1, 0), (1, 0, 0), (1, 0, 0))], (9, 0), true)], []), (0, [], []), (0, [], []), (116, [], [])]
theorem tu_p179 : tk_ck tt_T tt_sc tt_nt (tu_K 179) tt_nw 4000 tu_t179 tu_k179 = true := by decide +kernel
def tu_t180 : List tk_I := [(0, [], []), (0, [], []), (1, [([((-2147483648), 2147483647, 0, 0, 0, 0), (0, 730, 0, 0, 0, 0)], [(53, 1, 0), (1, 2, 0), (1, 6, 0), (1, 7, 0)], [], [((60, 3, 0), (1, 0, 0), (1, 4, 0)), ((53, 1, 0), (1, 0, 17), (60, 3, 0)), ((53, 1, 0), (1, 0, 0), (1, 0, 0))], (7, 0), true)], []), (116, [], [])]
theorem tu_p180 : tk_ck tt_T tt_sc tt_nt (tu_K 180) tt_nw 4000 tu_t180 tu_k180 = true := by decide +kernel
def tu_t181 : List tk_I := [(1, [([((-2147483648), 2147483647, 0, 0, 0, 0), (0, 6, 0, 0, 0, 0)], [(53, 1, 0), (1, 2, 0), (1, 3, 0), (1, 4, 0), (1, 5, 0)], [], [], (5, 0), true)], []), (130, [], [])]
theorem tu_p181 : tk_ck tt_T tt_sc tt_nt (tu_K 181) tt_nw 4000 tu_t181 tu_k181 = true := by decide +kernel
def tu_t184 : List tk_I := [(1, [([(0, 36, 0, 0, 0, 0)], [(31, 1, 0), (17, 2, 0), (1, 3, 0), (1, 6, 0), (1, 7, 0), (0, 0, 0), (0, 0, 0), (0, 0, 0)], [], [((21, 5, 0), (1, 0, 0), (1, 6, 0)), ((18, 4, 0), (1, 3, 0), (21, 5, 0)), ((17, 2, 0), (1, 0, 0), (18, 4, 0))], (7, 0), true)], []), (150, [], []), (93, [], []), (92, [], [])]
theorem tu_p184 : tk_ck tt_T tt_sc tt_nt (tu_K 184) tt_nw 4000 tu_t184 tu_k184 = true := by decide +kernel
def tu_t185 : List tk_I := [(1, [([(0, 2147483647, 0, 0, 0, 0), (0, 13, 0, 0, 0, 0)], [(38, 1, 0), (21, 2, 0), (31, 3, 0), (1, 4, 0), (1, 5, 0)], [], [], (5, 0), true)], []), (146, [], [])]
theorem tu_p185 : tk_ck tt_T tt_sc tt_nt (tu_K 185) tt_nw 4000 tu_t185 tu_k185 = true := by decide +kernel
def tu_t186 : List tk_I := [(0, [], []), (0, [], []), (0, [], []), (148, [], []), (0, [], []), (86, [], []), (0, [], []), (137, [], [])]
theorem tu_p186 : tk_ck tt_T tt_sc tt_nt (tu_K 186) tt_nw 4000 tu_t186 tu_k186 = true := by decide +kernel
def tu_t187 : List tk_I := [(0, [], []), (0, [], []), (0, [], []), (0, [], []), (148, [], []), (0, [], []), (86, [], []), (0, [], []), (137, [], []), (102, [], []), (0, [], []), (75, [], []), (0, [], []), (0, [], []), (0, [], []), (75, [], []), (0, [], []), (0, [], [])]
theorem tu_p187 : tk_ck tt_T tt_sc tt_nt (tu_K 187) tt_nw 4000 tu_t187 tu_k187 = true := by decide +kernel
def tu_t188 : List tk_I := [(77, [], []), (78, [], []), (155, [], [])]
theorem tu_p188 : tk_ck tt_T tt_sc tt_nt (tu_K 188) tt_nw 4000 tu_t188 tu_k188 = true := by decide +kernel
def tu_t189 : List tk_I := [(78, [], []), (77, [], []), (155, [], [])]
theorem tu_p189 : tk_ck tt_T tt_sc tt_nt (tu_K 189) tt_nw 4000 tu_t189 tu_k189 = true := by decide +kernel
def tu_t190 : List tk_I := [(1, [([(0, 2147483647, 0, 0, 0, 0), (0, 7, 0, 0, 0, 0)], [(10, 1, 0), (1, 2, 0), (1, 3, 0), (1, 4, 0)], [], [], (4, 0), true)], []), (0, [], []), (148, [], []), (156, [], [])]
theorem tu_p190 : tk_ck tt_T tt_sc tt_nt (tu_K 190) tt_nw 4000 tu_t190 tu_k190 = true := by decide +kernel
def tu_t191 : List tk_I := [(1, [([(0, 7, 0, 0, 0, 0), (0, 7, 0, 0, 0, 0), ((-7), 0, 2, 4, 5, 0)], [(10, 1, 0), (1, 2, 0), (1, 3, 0), (1, 4, 0), (1, 5, 0), (0, 0, 0)], [], [], (5, 0), true)], []), (0, [], []), (148, [], []), (156, [], []), (0, [], []), (86, [], []), (0, [], []), (137, [], []), (106, [], [])]
theorem tu_p191 : tk_ck tt_T tt_sc tt_nt (tu_K 191) tt_nw 4000 tu_t191 tu_k191 = true := by decide +kernel
def tu_t192 : List tk_I := [(0, [], []), (0, [], []), (0, [], []), (162, [], [])]
theorem tu_p192 : tk_ck tt_T tt_sc tt_nt (tu_K 192) tt_nw 4000 tu_t192 tu_k192 = true := by decide +kernel
def tu_t195 : List tk_I := [(0, [], []), (0, [], []), (164, [], [])]
theorem tu_p195 : tk_ck tt_T tt_sc tt_nt (tu_K 195) tt_nw 4000 tu_t195 tu_k195 = true := by decide +kernel
def tu_t196 : List tk_I := [(1, [([((-2147483648), 2147483647, 0, 0, 0, 0), (0, 6, 0, 0, 0, 0)], [(10, 1, 0), (1, 2, 0), (1, 3, 0), (1, 4, 0), (1, 5, 0), (0, 0, 0)], [], [], (5, 0), true)], []), (151, [], [])]
theorem tu_p196 : tk_ck tt_T tt_sc tt_nt (tu_K 196) tt_nw 4000 tu_t196 tu_k196 = true := by decide +kernel
def tu_t197 : List tk_I := [(0, [], []), (0, [], []), (165, [], [])]
theorem tu_p197 : tk_ck tt_T tt_sc tt_nt (tu_K 197) tt_nw 4000 tu_t197 tu_k197 = true := by decide +kernel
def tu_t198 : List tk_I := [(0, [], []), (1, [([((-1), 11, 0, 0, 0, 0), (0, 2147483647, 0, 0, 0, 0), (0, 12, 0, 0, 0, 0)], [(10, 1, 0), (1, 2, 0), (1, 3, 0), (1, 4, 0), (1, 5, 0), (0, 0, 0)], [], [], (5, 0), true)], []), (165, [], [])]
theorem tu_p198 : tk_ck tt_T tt_sc tt_nt (tu_K 198) tt_nw 4000 tu_t198 tu_k198 = true := by decide +kernel
def tu_t199 : List tk_I := [(1, [([((-1), 2147483647, 0, 0, 0, 0), (0, 6, 0, 0, 0, 0)], [(10, 1, 0), (1, 2, 0), (1, 3, 0), (1, 4, 0), (1, 5, 0), (0, 0, 0)], [], [], (5, 0), true)], []), (151, [], []), (151, [], [])]
theorem tu_p199 : tk_ck tt_T tt_sc tt_nt (tu_K 199) tt_nw 4000 tu_t199 tu_k199 = true := by decide +kernel
def tu_t200 : List tk_I := [(0, [], []), (0, [], []), (1, [([(0, 2147483647, 0, 0, 0, 0), (0, 12, 0, 0, 0, 0)], [(10, 1, 0), (1, 2, 0), (1, 3, 0), (1, 4, 0), (1, 5, 0)], [], [], (5, 0), true)], []), (150, [], [])]
theorem tu_p200 : tk_ck tt_T tt_sc tt_nt (tu_K 200) tt_nw 4000 tu_t200 tu_k200 = true := by decide +kernel
def tu_t202 : List tk_I := [(0, [], []), (0, [], []), (166, [], [])]
theorem tu_p202 : tk_ck tt_T tt_sc tt_nt (tu_K 202) tt_nw 4000 tu_t202 tu_k202 = true := by decide +kernel
def tu_t203 : List tk_I := [(0, [], []), (166, [], [])]
theorem tu_p203 : tk_ck tt_T tt_sc tt_nt (tu_K 203) tt_nw 4000 tu_t203 tu_k203 = true := by decide +kernel
def tu_t205 : List tk_I := [(0, [], []), (0, [], []), (167, [], [])]
theorem tu_p205 : tk_ck tt_T tt_sc tt_nt (tu_K 205) tt_nw 4000 tu_t205 tu_k205 = true := by decide +kernel
def tu_t206 : List tk_I := [(167, [], []), (1, [([((-2147483648), 2147483647, 0, 0, 0, 0)], [(10, 1, 0), (1, 2, 0), (1, 3, 0), (1, 4, 0)], [(1, 5, 0)], [], (0, 0), true)], []), (1, [([(0, 2147483647, 0, 0, 0, 0)], [(10, 1, 0), (1, 2, 0), (1, 3, 0), (1, 4, 0)], [(1, 5, 0)], [], (0, 0), true)], [])]
theorem tu_p206 : tk_ck tt_T tt_sc tt_nt (tu_K 206) tt_nw 4000 tu_t206 tu_k206 = true := by decide +kernel
def tu_t209 : List tk_I := [(0, [], []), (0, [], []), (143, [], [])]
theorem tu_p209 : tk_ck tt_T tt_sc tt_nt (tu_K 209) tt_nw 4000 tu_t209 tu_k209 = true := by decide +kernel
def tu_t210 : List tk_I := [(1, [([(0, 12, 0, 0, 0, 0)], [(53, 1, 0), (1, 2, 0), (1, 3, 0), (1, 4, 0)], [], [], (4, 0), true)], []), (1, [([((-1), 11, 0, 0, 0, 0)], [(53, 1, 0), (1, 2, 0), (1, 3, 0), (1, 8, 0)], [], [((53, 1, 0), (1, 0, 17), (60, 5, 0))], (8, 0), false)], []), (117, [], []), (172, [], [])]
theorem tu_p210 : tk_ck tt_T tt_sc tt_nt (tu_K 210) tt_nw 4000 tu_t210 tu_k210 = true := by decide +kernel
def tu_t211 : List tk_I := [(0, [], []), (0, [], []), (1, [([((-1), 119, 0, 0, 0, 0), ((-2147483648), 2147483647, 0, 0, 0, 0), (0, 120, 0, 0, 0, 0)], [(53, 1, 0), (1, 2, 0), (1, 3, 0), (1, 7, 0), (1, 8, 0), (1, 9, 0)], [], [((60, 4, 0), (1, 0, 0), (1, 5, 0)), ((53, 1, 0), (1, 0, 17), (60, 4, 0)), ((53, 1, 0), (1, 0, 0), (1, 0, 0))], (9, 0), true)], []), (0, [], []), (175, [], [])]
theorem tu_p211 : tk_ck tt_T tt_sc tt_nt (tu_K 211) tt_nw 4000 tu_t211 tu_k211 = true := by decide +kernel
def tu_t212 : List tk_I := [(1, [([((-2147483648), 2147483647, 0, 0, 0, 0), (0, 119, 0, 0, 0, 0), (1, 120, 0, 0, 0, 0)], [(53, 1, 0), (1, 2, 0), (1, 3, 0), (1, 4, 0), (1, 5, 0), (1, 6, 0), (1, 7, 0)], [], [], (7, 0), true)], []), (0, [], []), (175, [], [])]
theorem tu_p212 : tk_ck tt_T tt_sc tt_nt (tu_K 212) tt_nw 4000 tu_t212 tu_k212 = true := by decide +kernel
def tu_t213 : List tk_I := [(1, [([((-2147483648), 2147483647, 0, 0, 0, 0), (0, 730, 0, 0, 0, 0)], [(53, 1, 0), (1, 2, 0), (1, 3, 0), (1, 4, 0), (1, 5, 0), (1, 6, 0)], [], [], (6, 0), true)], []), (172, [], [])]
theorem tu_p213 : tk_ck tt_T tt_sc tt_nt (tu_K 213) tt_nw 4000 tu_t213 tu_k213 = true := by decide +kernel
def tu_t214 : List tk_I := [(0, [], []), (0, [], []), (177, [], [])]
theorem tu_p214 : tk_ck tt_T tt_sc tt_nt (tu_K 214) tt_nw 4000 tu_t214 tu_k214 = true := by decide +kernel
def tu_t215 : List tk_I := [(132, [], []), (132, [], []), (175, [], []), (131, [], [])]
theorem tu_p215 : tk_ck tt_T tt_sc tt_nt (tu_K 215) tt_nw 4000 tu_t215 tu_k215 = true := by decide +kernel
def tu_t217 : List tk_I := [(0, [], []), (0, [], []), (0, [], []), (0, [], []), (183, [], [])]
theorem tu_p217 : tk_ck tt_T tt_sc tt_nt (tu_K 217) tt_nw 4000 tu_t217 tu_k217 = true := by decide +kernel
def tu_t218 : List tk_I := [(0, [], []), (0, [], []), (1, [([((-1), 11, 0, 0, 0, 0), (0, 2147483647, 0, 0, 0, 0), (0, 12, 0, 0, 0, 0)], [(53, 1, 0), (1, 2, 0), (1, 3, 0), (1, 4, 0), (1, 5, 0), (0, 0, 0)], [], [((53, 1, 0), (1, 0, 0), (1, 0, 0))], (5, 0), true)], []), (183, [], [])]
theorem tu_p218 : tk_ck tt_T tt_sc tt_nt (tu_K 218) tt_nw 4000 tu_t218 tu_k218 = true := by decide +kernel
def tu_t219 : List tk_I := [(0, [], []), (0, [], []), (0, [], []), (1, [([(0, 2147483647, 0, 0, 0, 0), (0, 12, 0, 0, 0, 0)], [(53, 1, 0), (1, 2, 0), (1, 3, 0), (1, 4, 0), (1, 5, 0)], [], [((53, 1, 0), (1, 0, 0), (1, 0, 0))], (5, 0), true)], []), (172, [], [])]
theorem tu_p219 : tk_ck tt_T tt_sc tt_nt (tu_K 219) tt_nw 4000 tu_t219 tu_k219 = true := by decide +kernel
def tu_t222 : List tk_I := [(1, [([(1, 41, 0, 0, 0, 0)], [(38, 1, 0), (21, 2, 0), (31, 3, 0), (1, 4, 0), (1, 5, 0), (0, 0, 0)], [], [], (5, 0), true)], []), (148, [], []), (187, [], [])]
theorem tu_p222 : tk_ck tt_T tt_sc tt_nt (tu_K 222) tt_nw 4000 tu_t222 tu_k222 = true := by decide +kernel
def tu_t223 : List tk_I := [(0, [], []), (0, [], []), (0, [], []), (191, [], []), (190, [], [])]
theorem tu_p223 : tk_ck tt_T tt_sc tt_nt (tu_K 223) tt_nw 4000 tu_t223 tu_k223 = true := by decide +kernel
def tu_t224 : List tk_I := [(0, [], []), (192, [], [])]
theorem tu_p224 : tk_ck tt_T tt_sc tt_nt (tu_K 224) tt_nw 4000 tu_t224 tu_k224 = true := by decide +kernel
def tu_t225 : List tk_I := [(1, [([((-2147483648), 2147483647, 0, 0, 0, 0), (0, 12, 0, 0, 0, 0)], [(10, 1, 0), (1, 2, 0), (1, 3, 0), (0, 0, 0)], [], [], (3, 0), true)], []), (192, [], [])]
theorem tu_p225 : tk_ck tt_T tt_sc tt_nt (tu_K 225) tt_nw 4000 tu_t225 tu_k225 = true := by decide +kernel
def tu_t227 : List tk_I := [(0, [], []), (192, [], []), (136, [], [])]
theorem tu_p227 : tk_ck tt_T tt_sc tt_nt (tu_K 227) tt_nw 4000 tu_t227 tu_k227 = true := by decide +kernel
def tu_t228 : List tk_I := [(0, [], []), (1, [([((-1), 11, 0, 0, 0, 0), ((-1), 7, 0, 0, 0, 0), (0, 12, 0, 0, 0, 0)], [(10, 1, 0), (1, 2, 0), (1, 3, 0), (1, 4, 0), (1, 5, 0), (0, 0, 0)], [], [], (5, 0), true)], []), (75, [], []), (193, [], [])]
theorem tu_p228 : tk_ck tt_T tt_sc tt_nt (tu_K 228) tt_nw 4000 tu_t228 tu_k228 = true := by decide +kernel
def tu_t229 : List tk_I := [(0, [], []), (0, [], []), (193, [], [])]
theorem tu_p229 : tk_ck tt_T tt_sc tt_nt (tu_K 229) tt_nw 4000 tu_t229 tu_k229 = true := by decide +kernel
def tu_t234 : List tk_I := [(0, [], []), (0, [], []), (198, [], [])]
theorem tu_p234 : tk_ck tt_T tt_sc tt_nt (tu_K 234) tt_nw 4000 tu_t234 tu_k234 = true := by decide +kernel
def tu_t235 : List tk_I := [(0, [], []), (0, [], []), (198, [], []), (198, [], [])]
theorem tu_p235 : tk_ck tt_T tt_sc tt_nt (tu_K 235) tt_nw 4000 tu_t235 tu_k235 = true := by decide +kernel
def tu_t236 : List tk_I := [(0, [], []), (1, [([((-1), 2147483647, 0, 0, 0, 0), (0, 7, 0, 0, 0, 0)], [(10, 1, 0), (1, 2, 0), (1, 3, 0), (1, 7, 0), (1, 8, 0)], [], [((17, 4, 0), (1, 0, 1), (1, 5, 0)), ((10, 1, 0), (1, 0, 2), (17, 4, 0))], (8, 0), true)], []), (201, [], [])]
theorem tu_p236 : tk_ck tt_T tt_sc tt_nt (tu_K 236) tt_nw 4000 tu_t236 tu_k236 = true := by decide +kernel
def tu_t237 : List tk_I := [(0, [], []), (0, [], []), (1, [([(0, 9999, 0, 0, 0, 0), (0, 9999, 0, 0, 0, 0), (0, 20, 0, 0, 0, 0)], [(10, 1, 0), (1, 2, 0), (1, 3, 0), (1, 4, 0), (1, 5, 0), (1, 6, 0), (0, 0, 0)], [], [], (6, 0), true)], []), (203, [], [])]
theorem tu_p237 : tk_ck tt_T tt_sc tt_nt (tu_K 237) tt_nw 4000 tu_t237 tu_k237 = true := by decide +kernel
def tu_t239 : List tk_I := [(0, [], []), (1, [([((-1), 11, 0, 0, 0, 0), (0, 2147483647, 0, 0, 0, 0), (0, 12, 0, 0, 0, 0)], [(10, 1, 0), (1, 2, 0), (1, 3, 0), (1, 4, 0), (1, 5, 0), (0, 0, 0)], [], [], (5, 0), true)], []), (208, [], [])]
theorem tu_p239 : tk_ck tt_T tt_sc tt_nt (tu_K 239) tt_nw 4000 tu_t239 tu_k239 = true := by decide +kernel
def tu_t241 : List tk_I := [(0, [], []), (0, [], []), (0, [], []), (0, [], []), (0, [], []), (212, [], []), (117, [], []), (172, [], [])]
theorem tu_p241 : tk_ck tt_T tt_sc tt_nt (tu_K 241) tt_nw 4000 tu_t241 tu_k241 = true := by decide +kernel
def tu_t242 : List tk_I := [(0, [], []), (0, [], []), (0, [], []), (0, [], []), (212, [], []), (118, [], [])]
theorem tu_p242 : tk_ck tt_T tt_sc tt_nt (tu_K 242) tt_nw 4000 tu_t242 tu_k242 = true := by decide +kernel
def tu_t243 : List tk_I := [(212, [], []), (1, [([(0, 12, 0, 0, 0, 0)], [(53, 1, 0), (1, 2, 0), (1, 3, 0), (0, 0, 0)], [], [], (3, 0), true)], []), (1, [([(0, 7, 0, 0, 0, 0)], [(53, 1, 0), (1, 2, 0), (1, 3, 0), (1, 7, 0)], [], [((53, 1, 0), (1, 0, 17), (60, 4, 0))], (7, 0), true)], []), (118, [], [])]
theorem tu_p243 : tk_ck tt_T tt_sc tt_nt (tu_K 243) tt_nw 4000 tu_t243 tu_k243 = true := by decide +kernel
def tu_t244 : List tk_I := [(1, [([((-1), 119, 0, 0, 0, 0), ((-1), 119, 0, 0, 0, 0), (0, 120, 0, 0, 0, 0)], [(53, 1, 0), (1, 2, 0), (1, 3, 0), (1, 4, 0), (1, 5, 0), (1, 6, 0), (1, 7, 0)], [], [], (7, 0), true)], []), (214, [], []), (0, [], [])]
theorem tu_p244 : tk_ck tt_T tt_sc tt_nt (tu_K 244) tt_nw 4000 tu_t244 tu_k244 = true := by decide +kernel
def tu_t245 : List tk_I := [(1, [([((-1), 119, 0, 0, 0, 0), ((-1), 119, 0, 0, 0, 0), (0, 120, 0, 0, 0, 0)], [(53, 1, 0), (1, 2, 0), (1, 3, 0), (1, 4, 0), (1, 5, 0), (1, 6, 0), (1, 7, 0)], [], [], (7, 0), true)], []), (214, [], []), (0, [], [])]
theorem tu_p245 : tk_ck tt_T tt_sc tt_nt (tu_K 245) tt_nw 4000 tu_t245 tu_k245 = true := by decide +kernel
def tu_t247 : List tk_I := [(0, [], []), (0, [], []), (0, [], []), (217, [], [])]
theorem tu_p247 : tk_ck tt_T tt_sc tt_nt (tu_K 247) tt_nw 4000 tu_t247 tu_k247 = true := by decide +kernel
def tu_t248 : List tk_I := [(0, [], []), (0, [], []), (0, [], []), (0, [], []), (212, [], []), (179, [], [])]
theorem tu_p248 : tk_ck tt_T tt_sc tt_nt (tu_K 248) tt_nw 4000 tu_t248 tu_k248 = true := by decide +kernel
def tu_t250 : List tk_I := [(212, [], [])]
theorem tu_p250 : tk_ck tt_T tt_sc tt_nt (tu_K 250) tt_nw 4000 tu_t250 tu_k250 = true := by decide +kernel
def tu_t251 : List tk_I := [(0, [], []), (0, [], []), (0, [], []), (0, [], []), (212, [], []), (180, [], [])]
theorem tu_p251 : tk_ck tt_T tt_sc tt_nt (tu_K 251) tt_nw 4000 tu_t251 tu_k251 = true := by decide +kernel
def tu_t252 : List tk_I := [(0, [], []), (0, [], []), (212, [], []), (1, [([((-1), 11, 0, 0, 0, 0), (0, 2147483647, 0, 0, 0, 0), (0, 12, 0, 0, 0, 0)], [(53, 1, 0), (1, 2, 0), (1, 3, 0), (1, 4, 0), (1, 5, 0), (0, 0, 0)], [], [((53, 1, 0), (1, 0, 0), (1, 0, 0))], (5, 0), true)], []), (180, [], []), (133, [], [])]
theorem tu_p252 : tk_ck tt_T tt_sc tt_nt (tu_K 252) tt_nw 4000 tu_t252 tu_k252 = true := by decide +kernel
def tu_t254 : List tk_I := [(0, [], []), (0, [], []), (0, [], []), (0, [], []), (217, [], []), (217, [], [])]
theorem tu_p254 : tk_ck tt_T tt_sc tt_nt (tu_K 254) tt_nw 4000 tu_t254 tu_k254 = true := by decide +kernel
def tu_t256 : List tk_I := [(223, [], []), (0, [], [])]
theorem tu_p256 : tk_ck tt_T tt_sc tt_nt (tu_K 256) tt_nw 4000 tu_t256 tu_k256 = true := by decide +kernel
def tu_t258 : List tk_I := [(0, [], []), (227, [], []), (192, [], []), (136, [], []), (33, [], []), (192, [], []), (136, [], []), (33, [], [])]
theorem tu_p258 : tk_ck tt_T tt_sc tt_nt (tu_K 258) tt_nw 4000 tu_t258 tu_k258 = true := by decide +kernel
def tu_t259 : List tk_I := [(0, [], []), (162, [], []), (225, [], []), (0, [], []), (89, [], []), (89, [], [])]
theorem tu_p259 : tk_ck tt_T tt_sc tt_nt (tu_K 259) tt_nw 4000 tu_t259 tu_k259 = true := by decide +kernel
def tu_t260 : List tk_I := [(121, [], []), (1, [([(0, 730, 0, 0, 0, 0)], [(53, 1, 0), (1, 2, 0), (1, 3, 0)], [], [], (3, 0), true)], []), (245, [], [])]
theorem tu_p260 : tk_ck tt_T tt_sc tt_nt (tu_K 260) tt_nw 4000 tu_t260 tu_k260 = true := by decide +kernel
def tu_t262 : List tk_I := [(0, [], []), (0, [], []), (0, [], []), (0, [], []), (247, [], []), (246, [], [])]
theorem tu_p262 : tk_ck tt_T tt_sc tt_nt (tu_K 262) tt_nw 4000 tu_t262 tu_k262 = true := by decide +kernel
def tu_t268 : List tk_I := [(0, [], []), (0, [], []), (0, [], []), (0, [], []), (217, [], []), (246, [], []), (131, [], []), (247, [], []), (131, [], [])]
theorem tu_p268 : tk_ck tt_T tt_sc tt_nt (tu_K 268) tt_nw 4000 tu_t268 tu_k268 = true := by decide +kernel
def tu_t269 : List tk_I := [(0, [], []), (0, [], []), (0, [], []), (0, [], []), (252, [], [])]
theorem tu_p269 : tk_ck tt_T tt_sc tt_nt (tu_K 269) tt_nw 4000 tu_t269 tu_k269 = true := by decide +kernel
def tu_t270 : List tk_I := [(252, [], []), (252, [], [])]
theorem tu_p270 : tk_ck tt_T tt_sc tt_nt (tu_K 270) tt_nw 4000 tu_t270 tu_k270 = true := by decide +kernel
def tu_t273 : List tk_I := [(0, [], []), (257, [], [])]
theorem tu_p273 : tk_ck tt_T tt_sc tt_nt (tu_K 273) tt_nw 4000 tu_t273 tu_k273 = true := by decide +kernel
def tu_t274 : List tk_I := [(0, [], []), (257, [], []), (85, [], [])]
theorem tu_p274 : tk_ck tt_T tt_sc tt_nt (tu_K 274) tt_nw 4000 tu_t274 tu_k274 = true := by decide +kernel
def tu_t275 : List tk_I := [(0, [], []), (149, [], []), (74, [], []), (258, [], [])]
theorem tu_p275 : tk_ck tt_T tt_sc tt_nt (tu_K 275) tt_nw 4000 tu_t275 tu_k275 = true := by decide +kernel
def tu_t276 : List tk_I := [(262, [], []), (173, [], [])]
theorem tu_p276 : tk_ck tt_T tt_sc tt_nt (tu_K 276) tt_nw 4000 tu_t276 tu_k276 = true := by decide +kernel
def tu_t277 : List tk_I := [(0, [], []), (0, [], []), (266, [], [])]
theorem tu_p277 : tk_ck tt_T tt_sc tt_nt (tu_K 277) tt_nw 4000 tu_t277 tu_k277 = true := by decide +kernel
def tu_t278 : List tk_I := [(266, [], []), (1, [([(0, 12, 0, 0, 0, 0)], [(53, 1, 0), (1, 2, 0)], [], [], (2, 0), true)], [])]
theorem tu_p278 : tk_ck tt_T tt_sc tt_nt (tu_K 278) tt_nw 4000 tu_t278 tu_k278 = true := by decide +kernel
def tu_t279 : List tk_I := [(0, [], []), (0, [], []), (266, [], []), (127, [], [])]
theorem tu_p279 : tk_ck tt_T tt_sc tt_nt (tu_K 279) tt_nw 4000 tu_t279 tu_k279 = true := by decide +kernel
def tu_t281 : List tk_I := [(0, [], []), (0, [], []), (0, [], []), (0, [], []), (272, [], [])]
theorem tu_p281 : tk_ck tt_T tt_sc tt_nt (tu_K 281) tt_nw 4000 tu_t281 tu_k281 = true := by decide +kernel
def tu_t282 : List tk_I := [(0, [], []), (0, [], []), (1, [([((-2147483648), 2147483647, 0, 0, 0, 0), (0, 730, 0, 0, 0, 0)], [(53, 1, 0), (1, 2, 0), (1, 3, 0), (1, 7, 0), (1, 8, 0)], [], [((60, 4, 0), (1, 0, 0), (1, 5, 0)), ((53, 1, 0), (1, 0, 17), (60, 4, 0)), ((53, 1, 0), (1, 0, 0), (1, 0, 0))], (8, 0), true)], []), (272, [], [])]
theorem tu_p282 : tk_ck tt_T tt_sc tt_nt (tu_K 282) tt_nw 4000 tu_t282 tu_k282 = true := by decide +kernel
def tu_t283 : List tk_I := [(0, [], []), (0, [], []), (0, [], []), (0, [], []), (278, [], [])]
theorem tu_p283 : tk_ck tt_T tt_sc tt_nt (tu_K 283) tt_nw 4000 tu_t283 tu_k283 = true := by decide +kernel
def tu_t284 : List tk_I := [(0, [], []), (0, [], []), (0, [], []), (0, [], []), (0, [], []), (278, [], []), (123, [], []), (123, [], []), (123, [], []), (123, [], []), (123, [], []), (123, [], [])]
theorem tu_p284 : tk_ck tt_T tt_sc tt_nt (tu_K 284) tt_nw 4000 tu_t284 tu_k284 = true := by decide +kernel
def tu_t285 : List tk_I := [(280, [], []), (1, [([((-2147483648), 2147483647, 0, 0, 0, 0), (0, 12, 0, 0, 0, 0)], [(53, 1, 0), (1, 3, 0), (1, 4, 0)], [], [((53, 1, 0), (1, 0, 0), (1, 0, 0))], (4, 0), true)], [])]
theorem tu_p285 : tk_ck tt_T tt_sc tt_nt (tu_K 285) tt_nw 4000 tu_t285 tu_k285 = true := by decide +kernel
def tu_t286 : List tk_I := [(280, [], []), (1, [([((-9223372036854775808), 1000000, 0, 0, 0, 0), (0, 12, 0, 0, 0, 0)], [(53, 1, 0), (2, 3, 0), (0, 0, 0), (1, 4, 0)], [], [((53, 1, 0), (1, 0, 0), (1, 0, 0))], (4, 0), true)], []), (127, [], [])]
theorem tu_p286 : tk_ck tt_T tt_sc tt_nt (tu_K 286) tt_nw 4000 tu_t286 tu_k286 = true := by decide +kernel
def tu_t288 : List tk_I := [(0, [], []), (0, [], []), (0, [], []), (0, [], []), (282, [], [])]
theorem tu_p288 : tk_ck tt_T tt_sc tt_nt (tu_K 288) tt_nw 4000 tu_t288 tu_k288 = true := by decide +kernel
