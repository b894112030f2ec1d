def tu_t59 : List tk_I := []
theorem tu_p59 : tk_ck tt_T tt_sc tt_nt (tu_K 59) tt_nw 8000 tu_t59 tu_k59 = true := by decide +kernel
def tu_t60 : List tk_I := []
theorem tu_p60 : tk_ck tt_T tt_sc tt_nt (tu_K 60) tt_nw 8000 tu_t60 tu_k60 = true := by decide +kernel
def tu_t61 : List tk_I := []
theorem tu_p61 : tk_ck tt_T tt_sc tt_nt (tu_K 61) tt_nw 8000 tu_t61 tu_k61 = true := by decide +kernel
def tu_t281 : List tk_I := [(221, [], [])]
theorem tu_p281 : tk_ck tt_T tt_sc tt_nt (tu_K 281) tt_nw 8000 tu_t281 tu_k281 = true := by decide +kernel
def tu_t217 : List tk_I := [(154, [], []), (100, [], [])]
theorem tu_p217 : tk_ck tt_T tt_sc tt_nt (tu_K 217) tt_nw 8000 tu_t217 tu_k217 = true := by decide +kernel
def tu_t218 : List tk_I := [(154, [], []), (100, [], [])]
theorem tu_p218 : tk_ck tt_T tt_sc tt_nt (tu_K 218) tt_nw 8000 tu_t218 tu_k218 = true := by decide +kernel
def tu_t315 : List tk_I := [(300, [], []), (161, [], [])]
theorem tu_p315 : tk_ck tt_T tt_sc tt_nt (tu_K 315) tt_nw 8000 tu_t315 tu_k315 = true := by decide +kernel
def tu_t50 : List tk_I := [(0, [], [])]
theorem tu_p50 : tk_ck tt_T tt_sc tt_nt (tu_K 50) tt_nw 8000 tu_t50 tu_k50 = true := by decide +kernel
def tu_t41 : List tk_I := []
theorem tu_p41 : tk_ck tt_T tt_sc tt_nt (tu_K 41) tt_nw 8000 tu_t41 tu_k41 = true := by decide +kernel
def tu_t98 : List tk_I := []
theorem tu_p98 : tk_ck tt_T tt_sc tt_nt (tu_K 98) tt_nw 8000 tu_t98 tu_k98 = true := by decide +kernel
def tu_t12 : List tk_I := []
theorem tu_p12 : tk_ck tt_T tt_sc tt_nt (tu_K 12) tt_nw 8000 tu_t12 tu_k12 = true := by decide +kernel
def tu_t22 : List tk_I := []
theorem tu_p22 : tk_ck tt_T tt_sc tt_nt (tu_K 22) tt_nw 8000 tu_t22 tu_k22 = true := by decide +kernel
def tu_t298 : List tk_I := [(77, [], []), (1, [([(0, 730, 0, 0, 0, 0)], [(53, 1, 0), (1, 2, 0), (1, 3, 0)], [], [], (3, 0), true)], []), (276, [], [])]
theorem tu_p298 : tk_ck tt_T tt_sc tt_nt (tu_K 298) tt_nw 8000 tu_t298 tu_k298 = true := by decide +kernel
def tu_t152 : List tk_I := [(60, [], []), (99, [], [])]
theorem tu_p152 : tk_ck tt_T tt_sc tt_nt (tu_K 152) tt_nw 8000 tu_t152 tu_k152 = true := by decide +kernel
def tu_t188 : List tk_I := [(105, [], []), (115, [], [])]
theorem tu_p188 : tk_ck tt_T tt_sc tt_nt (tu_K 188) tt_nw 8000 tu_t188 tu_k188 = true := by decide +kernel
def tu_t189 : List tk_I := [(105, [], []), (116, [], [])]
theorem tu_p189 : tk_ck tt_T tt_sc tt_nt (tu_K 189) tt_nw 8000 tu_t189 tu_k189 = true := by decide +kernel
def tu_t190 : List tk_I := [(105, [], []), (126, [], [])]
theorem tu_p190 : tk_ck tt_T tt_sc tt_nt (tu_K 190) tt_nw 8000 tu_t190 tu_k190 = true := by decide +kernel
def tu_t136 : List tk_I := [(37, [], [])]
theorem tu_p136 : tk_ck tt_T tt_sc tt_nt (tu_K 136) tt_nw 8000 tu_t136 tu_k136 = true := by decide +kernel
def tu_t159 : List tk_I := [(75, [], []), (76, [], [])]
theorem tu_p159 : tk_ck tt_T tt_sc tt_nt (tu_K 159) tt_nw 8000 tu_t159 tu_k159 = true := by decide +kernel
def tu_t128 : List tk_I := [(96, [], [])]
theorem tu_p128 : tk_ck tt_T tt_sc tt_nt (tu_K 128) tt_nw 8000 tu_t128 tu_k128 = true := by decide +kernel
def tu_t51 : List tk_I := [(0, [], [])]
theorem tu_p51 : tk_ck tt_T tt_sc tt_nt (tu_K 51) tt_nw 8000 tu_t51 tu_k51 = true := by decide +kernel
def tu_t94 : List tk_I := [(1, [([(0, 60, 0, 0, 0, 0)], [(52, 1, 0), (2, 2, 0), (0, 0, 0), (1, 3, 0), (1, 0, 60)], [], [], (3, 0), true)], [])]
theorem tu_p94 : tk_ck tt_T tt_sc tt_nt (tu_K 94) tt_nw 8000 tu_t94 tu_k94 = true := by decide +kernel
def tu_t95 : List tk_I := [(1, [([(0, 36, 0, 0, 0, 0)], [(35, 1, 0), (1, 2, 0), (1, 3, 0), (1, 0, 36)], [], [], (3, 0), true)], [])]
theorem tu_p95 : tk_ck tt_T tt_sc tt_nt (tu_K 95) tt_nw 8000 tu_t95 tu_k95 = true := by decide +kernel
def tu_t96 : List tk_I := [(1, [([(0, 730, 0, 0, 0, 0)], [(33, 1, 0), (1, 2, 0), (1, 3, 0), (1, 0, 730)], [], [], (3, 0), true)], [])]
theorem tu_p96 : tk_ck tt_T tt_sc tt_nt (tu_K 96) tt_nw 8000 tu_t96 tu_k96 = true := by decide +kernel
def tu_t40 : List tk_I := []
theorem tu_p40 : tk_ck tt_T tt_sc tt_nt (tu_K 40) tt_nw 8000 tu_t40 tu_k40 = true := by decide +kernel
def tu_t256 : List tk_I := [(220, [], []), (1, [([], [(53, 1, 0), (2, 2, 0), (0, 0, 0), (1, 3, 0), (1, 4, 0)], [(1, 3, 0)], [((53, 1, 0), (1, 0, 12), (1, 9, 0)), ((53, 1, 0), (1, 0, 7), (1, 10, 0)), ((53, 1, 0), (1, 0, 6), (1, 5, 0))], (0, 0), true)], [])]
theorem tu_p256 : tk_ck tt_T tt_sc tt_nt (tu_K 256) tt_nw 8000 tu_t256 tu_k256 = true := by decide +kernel
def tu_t259 : List tk_I := [(220, [], []), (1, [([], [(53, 1, 0), (2, 2, 0), (0, 0, 0), (1, 3, 0), (1, 4, 0)], [(1, 3, 0)], [((53, 1, 0), (1, 0, 12), (1, 9, 0)), ((53, 1, 0), (1, 0, 7), (1, 10, 0)), ((53, 1, 0), (1, 0, 6), (1, 5, 0))], (0, 0), true)], [])]
theorem tu_p259 : tk_ck tt_T tt_sc tt_nt (tu_K 259) tt_nw 8000 tu_t259 tu_k259 = true := by decide +kernel
def tu_t261 : List tk_I := [(220, [], []), (1, [([], [(53, 1, 0), (2, 2, 0), (0, 0, 0), (1, 3, 0), (1, 4, 0)], [(1, 3, 0)], [((53, 1, 0), (1, 0, 12), (1, 9, 0)), ((53, 1, 0), (1, 0, 7), (1, 10, 0)), ((53, 1, 0), (1, 0, 6), (1, 5, 0))], (0, 0), true)], [])]
theorem tu_p261 : tk_ck tt_T tt_sc tt_nt (tu_K 261) tt_nw 8000 tu_t261 tu_k261 = true := by decide +kernel
def tu_t264 : List tk_I := [(220, [], []), (1, [([], [(53, 1, 0), (2, 2, 0), (0, 0, 0), (1, 3, 0), (1, 4, 0)], [(1, 3, 0)], [((53, 1, 0), (1, 0, 12), (1, 9, 0)), ((53, 1, 0), (1, 0, 7), (1, 10, 0)), ((53, 1, 0), (1, 0, 6), (1, 5, 0))], (0, 0), true)], [])]
theorem tu_p264 : tk_ck tt_T tt_sc tt_nt (tu_K 264) tt_nw 8000 tu_t264 tu_k264 = true := by decide +kernel
def tu_t267 : List tk_I := [(220, [], []), (1, [([], [(53, 1, 0), (2, 2, 0), (0, 0, 0), (1, 3, 0), (1, 4, 0)], [(1, 3, 0)], [((53, 1, 0), (1, 0, 12), (1, 9, 0)), ((53, 1, 0), (1, 0, 7), (1, 10, 0)), ((53, 1, 0), (1, 0, 6), (1, 5, 0))], (0, 0), true)], [])]
theorem tu_p267 : tk_ck tt_T tt_sc tt_nt (tu_K 267) tt_nw 8000 tu_t267 tu_k267 = true := by decide +kernel
def tu_t268 : List tk_I := [(220, [], []), (1, [([], [(53, 1, 0), (2, 2, 0), (0, 0, 0), (1, 3, 0), (1, 4, 0)], [(1, 3, 0)], [((53, 1, 0), (1, 0, 12), (1, 9, 0)), ((53, 1, 0), (1, 0, 7), (1, 10, 0)), ((53, 1, 0), (1, 0, 6), (1, 5, 0))], (0, 0), true)], [])]
theorem tu_p268 : tk_ck tt_T tt_sc tt_nt (tu_K 268) tt_nw 8000 tu_t268 tu_k268 = true := by decide +kernel
def tu_t270 : List tk_I := [(220, [], []), (1, [([], [(53, 1, 0), (2, 2, 0), (0, 0, 0), (1, 3, 0), (1, 4, 0)], [(1, 3, 0)], [((53, 1, 0), (1, 0, 12), (1, 9, 0)), ((53, 1, 0), (1, 0, 7), (1, 10, 0)), ((53, 1, 0), (1, 0, 6), (1, 5, 0))], (0, 0), true)], [])]
theorem tu_p270 : tk_ck tt_T tt_sc tt_nt (tu_K 270) tt_nw 8000 tu_t270 tu_k270 = true := by decide +kernel
def tu_t271 : List tk_I := [(220, [], []), (1, [([], [(53, 1, 0), (2, 2, 0), (0, 0, 0), (1, 3, 0), (1, 4, 0)], [(1, 3, 0)], [((53, 1, 0), (1, 0, 12), (1, 9, 0)), ((53, 1, 0), (1, 0, 7), (1, 10, 0)), ((53, 1, 0), (1, 0, 6), (1, 5, 0))], (0, 0), true)], [])]
theorem tu_p271 : tk_ck tt_T tt_sc tt_nt (tu_K 271) tt_nw 8000 tu_t271 tu_k271 = true := by decide +kernel
def tu_t81 : List tk_I := [(1, [([((-2147483648), 2147483647, 0, 0, 0, 0), (0, 127, 0, 0, 0, 0)], [(1, 1, 0), (1, 2, 0), (1, 3, 0)], [], [], (3, 0), false)], [])]
theorem tu_p81 : tk_ck tt_T tt_sc tt_nt (tu_K 81) tt_nw 8000 tu_t81 tu_k81 = true := by decide +kernel
def tu_t287 : List tk_I := [(238, [], []), (0, [], [])]
theorem tu_p287 : tk_ck tt_T tt_sc tt_nt (tu_K 287) tt_nw 8000 tu_t287 tu_k287 = true := by decide +kernel
def tu_t10 : List tk_I := []
theorem tu_p10 : tk_ck tt_T tt_sc tt_nt (tu_K 10) tt_nw 8000 tu_t10 tu_k10 = true := by decide +kernel
def tu_t161 : List tk_I := [(75, [], []), (76, [], [])]
theorem tu_p161 : tk_ck tt_T tt_sc tt_nt (tu_K 161) tt_nw 8000 tu_t161 tu_k161 = true := by decide +kernel
def tu_t99 : List tk_I := [(16, [], []), (15, [], [((24, 1, 0), (1, 0, 1)), ((24, 1, 0), (1, 0, 2))])]
theorem tu_p99 : tk_ck tt_T tt_sc tt_nt (tu_K 99) tt_nw 8000 tu_t99 tu_k99 = true := by decide +kernel
def tu_t100 : List tk_I := [(16, [], []), (15, [], [((24, 1, 0), (1, 0, 1)), ((24, 1, 0), (1, 0, 2))])]
theorem tu_p100 : tk_ck tt_T tt_sc tt_nt (tu_K 100) tt_nw 8000 tu_t100 tu_k100 = true := by decide +kernel
def tu_t101 : List tk_I := [(16, [], []), (15, [], [((24, 1, 0), (1, 0, 1)), ((24, 1, 0), (1, 0, 2))])]
theorem tu_p101 : tk_ck tt_T tt_sc tt_nt (tu_K 101) tt_nw 8000 tu_t101 tu_k101 = true := by decide +kernel
def tu_t102 : List tk_I := [(16, [], []), (15, [], [((24, 1, 0), (1, 0, 1)), ((24, 1, 0), (1, 0, 2))])]
theorem tu_p102 : tk_ck tt_T tt_sc tt_nt (tu_K 102) tt_nw 8000 tu_t102 tu_k102 = true := by decide +kernel
def tu_t103 : List tk_I := [(16, [], []), (15, [], [((24, 1, 0), (1, 0, 1)), ((24, 1, 0), (1, 0, 2))])]
theorem tu_p103 : tk_ck tt_T tt_sc tt_nt (tu_K 103) tt_nw 8000 tu_t103 tu_k103 = true := by decide +kernel
def tu_t104 : List tk_I := [(16, [], []), (15, [], [((24, 1, 0), (1, 0, 1)), ((24, 1, 0), (1, 0, 2))])]
theorem tu_p104 : tk_ck tt_T tt_sc tt_nt (tu_K 104) tt_nw 8000 tu_t104 tu_k104 = true := by decide +kernel
def tu_t105 : List tk_I := [(16, [], []), (15, [], [((24, 1, 0), (1, 0, 1)), ((24, 1, 0), (1, 0, 2))])]
theorem tu_p105 : tk_ck tt_T tt_sc tt_nt (tu_K 105) tt_nw 8000 tu_t105 tu_k105 = true := by decide +kernel
def tu_t106 : List tk_I := [(16, [], []), (15, [], [((24, 1, 0), (1, 0, 1)), ((24, 1, 0), (1, 0, 2))])]
theorem tu_p106 : tk_ck tt_T tt_sc tt_nt (tu_K 106) tt_nw 8000 tu_t106 tu_k106 = true := by decide +kernel
def tu_t107 : List tk_I := [(16, [], []), (15, [], [((24, 1, 0), (1, 0, 1)), ((24, 1, 0), (1, 0, 2))])]
theorem tu_p107 : tk_ck tt_T tt_sc tt_nt (tu_K 107) tt_nw 8000 tu_t107 tu_k107 = true := by decide +kernel
def tu_t108 : List tk_I := [(16, [], []), (15, [], [((24, 1, 0), (1, 0, 1)), ((24, 1, 0), (1, 0, 2))])]
theorem tu_p108 : tk_ck tt_T tt_sc tt_nt (tu_K 108) tt_nw 8000 tu_t108 tu_k108 = true := by decide +kernel
def tu_t109 : List tk_I := [(16, [], []), (15, [], [((24, 1, 0), (1, 0, 1)), ((24, 1, 0), (1, 0, 2))])]
theorem tu_p109 : tk_ck tt_T tt_sc tt_nt (tu_K 109) tt_nw 8000 tu_t109 tu_k109 = true := by decide +kernel
def tu_t110 : List tk_I := [(16, [], []), (15, [], [((24, 1, 0), (1, 0, 1)), ((24, 1, 0), (1, 0, 2))])]
theorem tu_p110 : tk_ck tt_T tt_sc tt_nt (tu_K 110) tt_nw 8000 tu_t110 tu_k110 = true := by decide +kernel
def tu_t111 : List tk_I := [(16, [], []), (15, [], [((24, 1, 0), (1, 0, 1)), ((24, 1, 0), (1, 0, 2))])]
theorem tu_p111 : tk_ck tt_T tt_sc tt_nt (tu_K 111) tt_nw 8000 tu_t111 tu_k111 = true := by decide +kernel
def tu_t74 : List tk_I := []
theorem tu_p74 : tk_ck tt_T tt_sc tt_nt (tu_K 74) tt_nw 8000 tu_t74 tu_k74 = true := by decide +kernel
def tu_t308 : List tk_I := [(283, [], []), (283, [], [])]
theorem tu_p308 : tk_ck tt_T tt_sc tt_nt (tu_K 308) tt_nw 8000 tu_t308 tu_k308 = true := by decide +kernel
def tu_t87 : List tk_I := []
theorem tu_p87 : tk_ck tt_T tt_sc tt_nt (tu_K 87) tt_nw 8000 tu_t87 tu_k87 = true := by decide +kernel
def tu_t197 : List tk_I := [(20, [], []), (21, [], []), (142, [], [])]
theorem tu_p197 : tk_ck tt_T tt_sc tt_nt (tu_K 197) tt_nw 8000 tu_t197 tu_k197 = true := by decide +kernel
def tu_t222 : List tk_I := [(1, [([((-2147483648), 2147483647, 0, 0, 0, 0), (0, 730, 0, 0, 0, 0)], [(53, 1, 0), (1, 2, 0), (1, 3, 0), (1, 4, 0), (1, 5, 0), (1, 6, 0)], [], [], (6, 0), true)], []), (160, [], [])]
theorem tu_p222 : tk_ck tt_T tt_sc tt_nt (tu_K 222) tt_nw 8000 tu_t222 tu_k222 = true := by decide +kernel
def tu_t90 : List tk_I := [(0, [], [])]
theorem tu_p90 : tk_ck tt_T tt_sc tt_nt (tu_K 90) tt_nw 8000 tu_t90 tu_k90 = true := by decide +kernel
def tu_t129 : List tk_I := [(1, [([(0, 1094, 0, 0, 0, 0)], [(31, 1, 0), (1, 2, 0)], [], [], (2, 0), true)], []), (24, [], []), (24, [], []), (24, [], [])]
theorem tu_p129 : tk_ck tt_T tt_sc tt_nt (tu_K 129) tt_nw 8000 tu_t129 tu_k129 = true := by decide +kernel
def tu_t172 : List tk_I := [(105, [], []), (116, [], []), (14, [], []), (116, [], [])]
theorem tu_p172 : tk_ck tt_T tt_sc tt_nt (tu_K 172) tt_nw 8000 tu_t172 tu_k172 = true := by decide +kernel
def tu_t173 : List tk_I := [(105, [], []), (117, [], []), (14, [], []), (117, [], [])]
theorem tu_p173 : tk_ck tt_T tt_sc tt_nt (tu_K 173) tt_nw 8000 tu_t173 tu_k173 = true := by decide +kernel
def tu_t174 : List tk_I := [(105, [], []), (118, [], []), (14, [], []), (118, [], [])]
theorem tu_p174 : tk_ck tt_T tt_sc tt_nt (tu_K 174) tt_nw 8000 tu_t174 tu_k174 = true := by decide +kernel
def tu_t175 : List tk_I := [(105, [], []), (119, [], []), (14, [], []), (119, [], [])]
theorem tu_p175 : tk_ck tt_T tt_sc tt_nt (tu_K 175) tt_nw 8000 tu_t175 tu_k175 = true := by decide +kernel
def tu_t176 : List tk_I := [(105, [], []), (120, [], []), (14, [], []), (120, [], [])]
theorem tu_p176 : tk_ck tt_T tt_sc tt_nt (tu_K 176) tt_nw 8000 tu_t176 tu_k176 = true := by decide +kernel
def tu_t177 : List tk_I := [(105, [], []), (119, [], []), (14, [], []), (119, [], [])]
theorem tu_p177 : tk_ck tt_T tt_sc tt_nt (tu_K 177) tt_nw 8000 tu_t177 tu_k177 = true := by decide +kernel
def tu_t178 : List tk_I := [(105, [], []), (119, [], []), (14, [], []), (119, [], [])]
theorem tu_p178 : tk_ck tt_T tt_sc tt_nt (tu_K 178) tt_nw 8000 tu_t178 tu_k178 = true := by decide +kernel
def tu_t179 : List tk_I := [(105, [], []), (122, [], []), (14, [], []), (122, [], [])]
theorem tu_p179 : tk_ck tt_T tt_sc tt_nt (tu_K 179) tt_nw 8000 tu_t179 tu_k179 = true := by decide +kernel
def tu_t180 : List tk_I := [(105, [], []), (123, [], []), (14, [], []), (123, [], [])]
theorem tu_p180 : tk_ck tt_T tt_sc tt_nt (tu_K 180) tt_nw 8000 tu_t180 tu_k180 = true := by decide +kernel
def tu_t181 : List tk_I := [(105, [], []), (124, [], []), (14, [], []), (124, [], [])]
theorem tu_p181 : tk_ck tt_T tt_sc tt_nt (tu_K 181) tt_nw 8000 tu_t181 tu_k181 = true := by decide +kernel
def tu_t182 : List tk_I := [(105, [], []), (125, [], []), (14, [], []), (125, [], [])]
theorem tu_p182 : tk_ck tt_T tt_sc tt_nt (tu_K 182) tt_nw 8000 tu_t182 tu_k182 = true := by decide +kernel
def tu_t183 : List tk_I := [(105, [], []), (116, [], []), (14, [], []), (116, [], [])]
theorem tu_p183 : tk_ck tt_T tt_sc tt_nt (tu_K 183) tt_nw 8000 tu_t183 tu_k183 = true := by decide +kernel
def tu_t184 : List tk_I := [(105, [], []), (127, [], []), (14, [], []), (127, [], [])]
theorem tu_p184 : tk_ck tt_T tt_sc tt_nt (tu_K 184) tt_nw 8000 tu_t184 tu_k184 = true := by decide +kernel
def tu_t185 : List tk_I := [(105, [], []), (126, [], []), (14, [], []), (126, [], [])]
theorem tu_p185 : tk_ck tt_T tt_sc tt_nt (tu_K 185) tt_nw 8000 tu_t185 tu_k185 = true := by decide +kernel
def tu_t186 : List tk_I := [(105, [], []), (116, [], []), (14, [], []), (116, [], [])]
theorem tu_p186 : tk_ck tt_T tt_sc tt_nt (tu_K 186) tt_nw 8000 tu_t186 tu_k186 = true := by decide +kernel
def tu_t187 : List tk_I := [(105, [], []), (128, [], []), (14, [], []), (128, [], [])]
theorem tu_p187 : tk_ck tt_T tt_sc tt_nt (tu_K 187) tt_nw 8000 tu_t187 tu_k187 = true := by decide +kernel
def tu_t21 : List tk_I := []
theorem tu_p21 : tk_ck tt_T tt_sc tt_nt (tu_K 21) tt_nw 8000 tu_t21 tu_k21 = true := by decide +kernel
def tu_t47 : List tk_I := [(1, [([(0, 6, 0, 0, 0, 0)], [(10, 1, 0), (1, 2, 0), (1, 3, 0), (1, 4, 0)], [], [], (4, 0), true)], [])]
theorem tu_p47 : tk_ck tt_T tt_sc tt_nt (tu_K 47) tt_nw 8000 tu_t47 tu_k47 = true := by decide +kernel
def tu_t317 : List tk_I := [(304, [], []), (1, [([(0, 12, 0, 0, 0, 0)], [(53, 1, 0), (1, 2, 0)], [], [], (2, 0), true)], [])]
theorem tu_p317 : tk_ck tt_T tt_sc tt_nt (tu_K 317) tt_nw 8000 tu_t317 tu_k317 = true := by decide +kernel
def tu_t29 : List tk_I := []
theorem tu_p29 : tk_ck tt_T tt_sc tt_nt (tu_K 29) tt_nw 8000 tu_t29 tu_k29 = true := by decide +kernel
def tu_t147 : List tk_I := [(1, [([((-2147483648), 2147483647, 0, 0, 0, 0), (0, 730, 0, 0, 0, 0)], [(10, 1, 0), (1, 2, 0), (1, 3, 0), (1, 4, 0), (1, 5, 0), (1, 6, 0)], [], [], (6, 0), true)], []), (34, [], [])]
theorem tu_p147 : tk_ck tt_T tt_sc tt_nt (tu_K 147) tt_nw 8000 tu_t147 tu_k147 = true := by decide +kernel
def tu_t36 : List tk_I := [(1, [([(1, 12, 0, 0, 0, 0)], [(17, 1, 0), (1, 2, 0), (1, 3, 0)], [], [], (3, 0), true)], [])]
theorem tu_p36 : tk_ck tt_T tt_sc tt_nt (tu_K 36) tt_nw 8000 tu_t36 tu_k36 = true := by decide +kernel
def tu_t93 : List tk_I := []
theorem tu_p93 : tk_ck tt_T tt_sc tt_nt (tu_K 93) tt_nw 8000 tu_t93 tu_k93 = true := by decide +kernel
def tu_t62 : List tk_I := []
theorem tu_p62 : tk_ck tt_T tt_sc tt_nt (tu_K 62) tt_nw 8000 tu_t62 tu_k62 = true := by decide +kernel
def tu_t58 : List tk_I := []
theorem tu_p58 : tk_ck tt_T tt_sc tt_nt (tu_K 58) tt_nw 8000 tu_t58 tu_k58 = true := by decide +kernel
def tu_t16 : List tk_I := [(1, [([((-1), 119, 0, 0, 0, 0)], [(26, 1, 0), (1, 2, 0), (1, 4, 0)], [], [((26, 1, 0), (1, 0, 4), (1, 3, 0))], (4, 0), false)], [])]
theorem tu_p16 : tk_ck tt_T tt_sc tt_nt (tu_K 16) tt_nw 8000 tu_t16 tu_k16 = true := by decide +kernel
def tu_t91 : List tk_I := [(0, [], [])]
theorem tu_p91 : tk_ck tt_T tt_sc tt_nt (tu_K 91) tt_nw 8000 tu_t91 tu_k91 = true := by decide +kernel
def tu_t49 : List tk_I := [(1, [([((-2147483648), 2147483647, 0, 0, 0, 0), (0, 4, 0, 0, 0, 0)], [(10, 1, 0), (1, 2, 0), (1, 3, 0)], [], [], (3, 0), true)], [])]
theorem tu_p49 : tk_ck tt_T tt_sc tt_nt (tu_K 49) tt_nw 8000 tu_t49 tu_k49 = true := by decide +kernel
def tu_t31 : List tk_I := [(1, [([(0, 2, 0, 0, 0, 0)], [(17, 1, 0), (1, 2, 0)], [], [((17, 1, 0), (1, 0, 9), (1, 0, 0)), ((17, 1, 0), (1, 0, 7), (1, 0, 0)), ((17, 1, 0), (1, 0, 5), (1, 0, 0)), ((17, 1, 0), (1, 0, 3), (1, 0, 0)), ((17, 1, 0), (1, 0, 1), (1, 0, 0))], (2, 0), true)], [])]
theorem tu_p31 : tk_ck tt_T tt_sc tt_nt (tu_K 31) tt_nw 8000 tu_t31 tu_k31 = true := by decide +kernel
def tu_t194 : List tk_I := [(1, [([(0, 2147483647, 0, 0, 0, 0), (0, 13, 0, 0, 0, 0)], [(38, 1, 0), (21, 2, 0), (31, 3, 0), (1, 4, 0), (1, 5, 0)], [], [], (5, 0), true)], []), (133, [], [])]
theorem tu_p194 : tk_ck tt_T tt_sc tt_nt (tu_K 194) tt_nw 8000 tu_t194 tu_k194 = true := by decide +kernel
def tu_t20 : List tk_I := [(1, [([(0, 120, 0, 0, 0, 0)], [(26, 1, 0), (1, 2, 0), (1, 3, 0), (1, 4, 0)], [], [], (4, 0), true)], [])]
theorem tu_p20 : tk_ck tt_T tt_sc tt_nt (tu_K 20) tt_nw 8000 tu_t20 tu_k20 = true := by decide +kernel
def tu_t239 : List tk_I := [(0, [], []), (201, [], [])]
theorem tu_p239 : tk_ck tt_T tt_sc tt_nt (tu_K 239) tt_nw 8000 tu_t239 tu_k239 = true := by decide +kernel
def tu_t240 : List tk_I := [(1, [([((-2147483648), 2147483647, 0, 0, 0, 0), (0, 12, 0, 0, 0, 0)], [(10, 1, 0), (1, 2, 0), (1, 3, 0), (0, 0, 0)], [], [], (3, 0), true)], []), (201, [], [])]
theorem tu_p240 : tk_ck tt_T tt_sc tt_nt (tu_K 240) tt_nw 8000 tu_t240 tu_k240 = true := by decide +kernel
def tu_t165 : List tk_I := [(74, [], [])]
theorem tu_p165 : tk_ck tt_T tt_sc tt_nt (tu_K 165) tt_nw 8000 tu_t165 tu_k165 = true := by decide +kernel
def tu_t44 : List tk_I := [(0, [], [])]
theorem tu_p44 : tk_ck tt_T tt_sc tt_nt (tu_K 44) tt_nw 8000 tu_t44 tu_k44 = true := by decide +kernel
def tu_t210 : List tk_I := [(0, [], []), (149, [], [])]
theorem tu_p210 : tk_ck tt_T tt_sc tt_nt (tu_K 210) tt_nw 8000 tu_t210 tu_k210 = true := by decide +kernel
def tu_t213 : List tk_I := [(150, [], []), (1, [([((-2147483648), 2147483647, 0, 0, 0, 0)], [(10, 1, 0), (1, 2, 0), (1, 3, 0), (1, 4, 0)], [(1, 5, 0)], [], (0, 0), true)], []), (1, [([(0, 2147483647, 0, 0, 0, 0)], [(10, 1, 0), (1, 2, 0), (1, 3, 0), (1, 4, 0)], [(1, 5, 0)], [], (0, 0), true)], [])]
theorem tu_p213 : tk_ck tt_T tt_sc tt_nt (tu_K 213) tt_nw 8000 tu_t213 tu_k213 = true := by decide +kernel
def tu_t86 : List tk_I := [(1, [([(0, 120, 0, 0, 0, 0)], [(53, 1, 0), (1, 2, 0), (1, 3, 0), (1, 4, 0)], [], [], (4, 0), true)], [])]
theorem tu_p86 : tk_ck tt_T tt_sc tt_nt (tu_K 86) tt_nw 8000 tu_t86 tu_k86 = true := by decide +kernel
def tu_t38 : List tk_I := [(1, [([(1, 4096, 0, 0, 0, 0)], [(43, 1, 0), (47, 2, 0), (48, 3, 0), (1, 4, 0), (1, 5, 0)], [], [], (5, 0), true)], []), (7, [], [])]
theorem tu_p38 : tk_ck tt_T tt_sc tt_nt (tu_K 38) tt_nw 8000 tu_t38 tu_k38 = true := by decide +kernel
def tu_t208 : List tk_I := [(1, [([((-2147483648), 2147483647, 0, 0, 0, 0), (0, 12, 0, 0, 0, 0)], [(10, 1, 0), (1, 2, 0), (1, 3, 0), (1, 4, 0), (1, 5, 0)], [], [], (5, 0), true)], []), (137, [], []), (1, [([((-2147483648), 9999, 0, 0, 0, 0)], [(10, 1, 0), (1, 2, 0), (1, 3, 0), (1, 4, 0), (1, 5, 0)], [(1, 10, 0), (1, 4, 0)], [((17, 6, 0), (1, 0, 1), (1, 7, 0)), ((10, 1, 0), (1, 0, 2), (17, 6, 0))], (0, 0), true)], [])]
theorem tu_p208 : tk_ck tt_T tt_sc tt_nt (tu_K 208) tt_nw 8000 tu_t208 tu_k208 = true := by decide +kernel
def tu_t28 : List tk_I := []
theorem tu_p28 : tk_ck tt_T tt_sc tt_nt (tu_K 28) tt_nw 8000 tu_t28 tu_k28 = true := by decide +kernel
def tu_t75 : List tk_I := [(1, [([(0, 12, 0, 0, 0, 0)], [(53, 1, 0), (1, 2, 0), (0, 0, 0)], [], [], (2, 0), true)], []), (1, [([(0, 7, 0, 0, 0, 0)], [(53, 1, 0), (1, 2, 0), (1, 6, 0)], [], [((53, 1, 0), (1, 0, 17), (60, 3, 0))], (6, 0), true)], [])]
theorem tu_p75 : tk_ck tt_T tt_sc tt_nt (tu_K 75) tt_nw 8000 tu_t75 tu_k75 = true := by decide +kernel
def tu_t198 : List tk_I := [(21, [], []), (20, [], []), (142, [], [])]
theorem tu_p198 : tk_ck tt_T tt_sc tt_nt (tu_K 198) tt_nw 8000 tu_t198 tu_k198 = true := by decide +kernel
def tu_t83 : List tk_I := [(0, [], []), (0, [], [])]
theorem tu_p83 : tk_ck tt_T tt_sc tt_nt (tu_K 83) tt_nw 8000 tu_t83 tu_k83 = true := by decide +kernel
def tu_t57 : List tk_I := [(0, [], [])]
theorem tu_p57 : tk_ck tt_T tt_sc tt_nt (tu_K 57) tt_nw 8000 tu_t57 tu_k57 = true := by decide +kernel
def tu_t192 : List tk_I := [(114, [], []), (14, [], [])]
theorem tu_p192 : tk_ck tt_T tt_sc tt_nt (tu_K 192) tt_nw 8000 tu_t192 tu_k192 = true := by decide +kernel
def tu_t27 : List tk_I := []
theorem tu_p27 : tk_ck tt_T tt_sc tt_nt (tu_K 27) tt_nw 8000 tu_t27 tu_k27 = true := by decide +kernel
def tu_t35 : List tk_I := [(1, [([(0, 4095, 0, 0, 0, 0), ((-1), 11, 0, 0, 0, 0), (0, 12, 0, 0, 0, 0)], [(17, 1, 0), (1, 2, 0), (1, 6, 0), (1, 7, 0), (1, 8, 0)], [], [((21, 4, 0), (1, 0, 0), (1, 5, 0)), ((18, 3, 0), (1, 2, 0), (21, 4, 0)), ((17, 1, 0), (1, 0, 0), (18, 3, 0))], (8, 0), true)], [])]
theorem tu_p35 : tk_ck tt_T tt_sc tt_nt (tu_K 35) tt_nw 8000 tu_t35 tu_k35 = true := by decide +kernel
def tu_t43 : List tk_I := [(10, [], [])]
theorem tu_p43 : tk_ck tt_T tt_sc tt_nt (tu_K 43) tt_nw 8000 tu_t43 tu_k43 = true := by decide +kernel
def tu_t30 : List tk_I := [(1, [([((-2147483648), 2147483647, 0, 0, 0, 0)], [(23, 1, 0), (1, 2, 0), (0, 0, 0), (0, 0, 0)], [(1, 4, 0)], [((23, 1, 0), (1, 0, 3), (1, 3, 0))], (0, 0), true)], [])]
theorem tu_p30 : tk_ck tt_T tt_sc tt_nt (tu_K 30) tt_nw 8000 tu_t30 tu_k30 = true := by decide +kernel
def tu_t32 : List tk_I := [(1, [([(0, 6, 0, 0, 0, 0)], [(17, 1, 0), (1, 2, 0), (1, 3, 0), (1, 4, 0), (0, 0, 0)], [], [], (4, 0), true)], [])]
theorem tu_p32 : tk_ck tt_T tt_sc tt_nt (tu_K 32) tt_nw 8000 tu_t32 tu_k32 = true := by decide +kernel
def tu_t312 : List tk_I := [(0, [], []), (288, [], []), (28, [], [])]
theorem tu_p312 : tk_ck tt_T tt_sc tt_nt (tu_K 312) tt_nw 8000 tu_t312 tu_k312 = true := by decide +kernel
def tu_t15 : List tk_I := []
theorem tu_p15 : tk_ck tt_T tt_sc tt_nt (tu_K 15) tt_nw 8000 tu_t15 tu_k15 = true := by decide +kernel
def tu_t191 : List tk_I := [(108, [], []), (109, [], []), (110, [], []), (111, [], []), (112, [], []), (113, [], [])]
theorem tu_p191 : tk_ck tt_T tt_sc tt_nt (tu_K 191) tt_nw 8000 tu_t191 tu_k191 = true := by decide +kernel
def tu_t242 : List tk_I := [(0, [], []), (201, [], []), (94, [], [])]
theorem tu_p242 : tk_ck tt_T tt_sc tt_nt (tu_K 242) tt_nw 8000 tu_t242 tu_k242 = true := by decide +kernel
def tu_t324 : List tk_I := [(319, [], []), (1, [([((-2147483648), 2147483647, 0, 0, 0, 0), (0, 12, 0, 0, 0, 0)], [(53, 1, 0), (1, 3, 0), (1, 4, 0)], [], [((53, 1, 0), (1, 0, 0), (1, 0, 0))], (4, 0), true)], [])]
theorem tu_p324 : tk_ck tt_T tt_sc tt_nt (tu_K 324) tt_nw 8000 tu_t324 tu_k324 = true := by decide +kernel
def tu_t45 : List tk_I := []
theorem tu_p45 : tk_ck tt_T tt_sc tt_nt (tu_K 45) tt_nw 8000 tu_t45 tu_k45 = true := by decide +kernel
def tu_t241 : List tk_I := [(1, [([((-2147483648), 1000000, 0, 0, 0, 0), (0, 12, 0, 0, 0, 0)], [(10, 1, 0), (1, 2, 0), (1, 3, 0), (0, 0, 0)], [], [], (3, 0), true)], []), (201, [], []), (94, [], []), (1, [([((-2147483648), 1000000, 0, 0, 0, 0)], [(10, 1, 0), (1, 2, 0), (1, 3, 0), (1, 7, 0)], [(1, 11, 0)], [((17, 4, 0), (1, 0, 1), (1, 5, 0)), ((10, 1, 0), (1, 0, 2), (17, 4, 0))], (0, 0), true)], [])]
theorem tu_p241 : tk_ck tt_T tt_sc tt_nt (tu_K 241) tt_nw 8000 tu_t241 tu_k241 = true := by decide +kernel
def tu_t37 : List tk_I := [(1, [([(0, 99, 0, 0, 0, 0)], [(17, 1, 0), (1, 2, 0), (1, 3, 0)], [(1, 10, 0)], [((21, 7, 0), (1, 0, 7), (1, 8, 0)), ((18, 4, 0), (1, 3, 0), (21, 7, 0)), ((21, 5, 0), (1, 0, 7), (1, 6, 0)), ((18, 4, 0), (1, 2, 0), (21, 5, 0)), ((17, 1, 0), (1, 0, 0), (18, 4, 0))], (0, 0), true)], []), (1, [([(0, 99, 0, 0, 0, 0)], [(17, 1, 0), (1, 2, 0), (1, 3, 0)], [(1, 14, 0), (1, 10, 0)], [((21, 7, 0), (1, 0, 8), (1, 12, 0)), ((21, 5, 0), (1, 0, 8), (1, 11, 0)), ((21, 7, 0), (1, 0, 7), (1, 8, 0)), ((18, 4, 0), (1, 3, 0), (21, 7, 0)), ((21, 5, 0), (1, 0, 7), (1, 6, 0)), ((18, 4, 0), (1, 2, 0), (21, 5, 0)), ((17, 1, 0), (1, 0, 0), (18, 4, 0))], (0, 0), true)], [])]
theorem tu_p37 : tk_ck tt_T tt_sc tt_nt (tu_K 37) tt_nw 8000 tu_t37 tu_k37 = true := by decide +kernel
def tu_t34 : List tk_I := [(1, [([((-2147483648), 2147483647, 0, 0, 0, 0), (0, 6, 0, 0, 0, 0)], [(17, 1, 0), (1, 2, 0), (1, 3, 0), (1, 4, 0), (1, 5, 0)], [], [], (5, 0), true)], [])]
theorem tu_p34 : tk_ck tt_T tt_sc tt_nt (tu_K 34) tt_nw 8000 tu_t34 tu_k34 = true := by decide +kernel
def tu_t33 : List tk_I := [(1, [([((-2147483648), 2147483647, 0, 0, 0, 0), (0, 6, 0, 0, 0, 0)], [(17, 1, 0), (1, 2, 0), (1, 3, 0), (1, 4, 0), (1, 5, 0)], [], [], (5, 0), true)], [])]
theorem tu_p33 : tk_ck tt_T tt_sc tt_nt (tu_K 33) tt_nw 8000 tu_t33 tu_k33 = true := by decide +kernel
def tu_t203 : List tk_I := [(1, [([((-2147483648), 2147483647, 0, 0, 0, 0), (0, 6, 0, 0, 0, 0)], [(10, 1, 0), (1, 2, 0), (1, 3, 0), (1, 4, 0), (1, 5, 0), (0, 0, 0)], [], [], (5, 0), true)], []), (138, [], [])]
theorem tu_p203 : tk_ck tt_T tt_sc tt_nt (tu_K 203) tt_nw 8000 tu_t203 tu_k203 = true := by decide +kernel
def tu_t78 : List tk_I := [(0, [], [])]
theorem tu_p78 : tk_ck tt_T tt_sc tt_nt (tu_K 78) tt_nw 8000 tu_t78 tu_k78 = true := by decide +kernel
def tu_t146 : List tk_I := [(1, [([((-2147483648), 2147483647, 0, 0, 0, 0), (0, 6, 0, 0, 0, 0)], [(10, 1, 0), (1, 2, 0), (1, 3, 0), (1, 4, 0), (1, 5, 0), (0, 0, 0)], [], [], (5, 0), true)], []), (39, [], [])]
theorem tu_p146 : tk_ck tt_T tt_sc tt_nt (tu_K 146) tt_nw 8000 tu_t146 tu_k146 = true := by decide +kernel
def tu_t14 : List tk_I := [(9, [], []), (1, [([(0, 3, 0, 0, 0, 0)], [(24, 1, 0), (6, 2, 0), (1, 8, 0)], [], [((24, 1, 0), (1, 0, 4), (1, 6, 0)), ((24, 1, 0), (1, 0, 2), (1, 5, 0)), ((24, 1, 0), (1, 0, 3), (1, 4, 0)), ((24, 1, 0), (1, 0, 0), (11, 3, 0))], (8, 0), true)], []), (9, [], []), (2, [], [])]
theorem tu_p14 : tk_ck tt_T tt_sc tt_nt (tu_K 14) tt_nw 8000 tu_t14 tu_k14 = true := by decide +kernel
def tu_t92 : List tk_I := []
theorem tu_p92 : tk_ck tt_T tt_sc tt_nt (tu_K 92) tt_nw 8000 tu_t92 tu_k92 = true := by decide +kernel
def tu_t316 : List tk_I := [(0, [], []), (0, [], []), (304, [], [])]
theorem tu_p316 : tk_ck tt_T tt_sc tt_nt (tu_K 316) tt_nw 8000 tu_t316 tu_k316 = true := by decide +kernel
def tu_t236 : List tk_I := [(98, [], []), (131, [], []), (132, [], []), (25, [], []), (1, [([(0, 12, 0, 0, 0, 0)], [(31, 1, 0), (17, 2, 0), (1, 4, 0)], [], [((31, 1, 0), (1, 0, 2), (33, 3, 0))], (4, 0), true)], []), (1, [([((-1), 11, 0, 0, 0, 0)], [(31, 1, 0), (17, 2, 0), (1, 7, 0)], [], [((17, 2, 0), (1, 0, 1), (1, 5, 0)), ((31, 1, 0), (1, 0, 2), (33, 3, 0))], (7, 0), false)], []), (195, [], []), (97, [], []), (97, [], [])]
theorem tu_p236 : tk_ck tt_T tt_sc tt_nt (tu_K 236) tt_nw 8000 tu_t236 tu_k236 = true := by decide +kernel
def tu_t274 : List tk_I := [(221, [], []), (1, [([(0, 12, 0, 0, 0, 0)], [(53, 1, 0), (1, 2, 0), (1, 3, 0), (0, 0, 0)], [], [], (3, 0), true)], []), (1, [([(0, 7, 0, 0, 0, 0)], [(53, 1, 0), (1, 2, 0), (1, 3, 0), (1, 7, 0)], [], [((53, 1, 0), (1, 0, 17), (60, 4, 0))], (7, 0), true)], []), (74, [], [])]
theorem tu_p274 : tk_ck tt_T tt_sc tt_nt (tu_K 274) tt_nw 8000 tu_t274 tu_k274 = true := by decide +kernel
def tu_t199 : List tk_I := [(1, [([(0, 2147483647, 0, 0, 0, 0), (0, 7, 0, 0, 0, 0)], [(10, 1, 0), (1, 2, 0), (1, 3, 0), (1, 4, 0)], [], [], (4, 0), true)], []), (0, [], []), (135, [], []), (143, [], [])]
theorem tu_p199 : tk_ck tt_T tt_sc tt_nt (tu_K 199) tt_nw 8000 tu_t199 tu_k199 = true := by decide +kernel
def tu_t72 : List tk_I := []
theorem tu_p72 : tk_ck tt_T tt_sc tt_nt (tu_K 72) tt_nw 8000 tu_t72 tu_k72 = true := by decide +kernel
def tu_t169 : List tk_I := [(1, [([((-2147483648), 2147483647, 0, 0, 0, 0), (0, 6, 0, 0, 0, 0)], [(53, 1, 0), (1, 2, 0), (1, 3, 0), (1, 4, 0), (1, 5, 0)], [], [], (5, 0), true)], []), (86, [], [])]
theorem tu_p169 : tk_ck tt_T tt_sc tt_nt (tu_K 169) tt_nw 8000 tu_t169 tu_k169 = true := by decide +kernel
def tu_t311 : List tk_I := [(0, [], []), (288, [], [])]
theorem tu_p311 : tk_ck tt_T tt_sc tt_nt (tu_K 311) tt_nw 8000 tu_t311 tu_k311 = true := by decide +kernel
def tu_t237 : List tk_I := [(1, [([(1, 41, 0, 0, 0, 0)], [(38, 1, 0), (21, 2, 0), (31, 3, 0), (1, 4, 0), (1, 5, 0), (0, 0, 0)], [], [], (5, 0), true)], []), (135, [], []), (196, [], [])]
theorem tu_p237 : tk_ck tt_T tt_sc tt_nt (tu_K 237) tt_nw 8000 tu_t237 tu_k237 = true := by decide +kernel
def tu_t205 : List tk_I := [(0, [], []), (1, [([((-1), 11, 0, 0, 0, 0), (0, 2147483647, 0, 0, 0, 0), (0, 12, 0, 0, 0, 0)], [(10, 1, 0), (1, 2, 0), (1, 3, 0), (1, 4, 0), (1, 5, 0), (0, 0, 0)], [], [], (5, 0), true)], []), (148, [], [])]
theorem tu_p205 : tk_ck tt_T tt_sc tt_nt (tu_K 205) tt_nw 8000 tu_t205 tu_k205 = true := by decide +kernel
def tu_t250 : List tk_I := [(0, [], []), (1, [([((-1), 11, 0, 0, 0, 0), (0, 2147483647, 0, 0, 0, 0), (0, 12, 0, 0, 0, 0)], [(10, 1, 0), (1, 2, 0), (1, 3, 0), (1, 4, 0), (1, 5, 0), (0, 0, 0)], [], [], (5, 0), true)], []), (215, [], [])]
theorem tu_p250 : tk_ck tt_T tt_sc tt_nt (tu_K 250) tt_nw 8000 tu_t250 tu_k250 = true := by decide +kernel
def tu_t202 : List tk_I := [(0, [], []), (0, [], []), (147, [], [])]
theorem tu_p202 : tk_ck tt_T tt_sc tt_nt (tu_K 202) tt_nw 8000 tu_t202 tu_k202 = true := by decide +kernel
def tu_t204 : List tk_I := [(0, [], []), (0, [], []), (148, [], [])]
theorem tu_p204 : tk_ck tt_T tt_sc tt_nt (tu_K 204) tt_nw 8000 tu_t204 tu_k204 = true := by decide +kernel
def tu_t212 : List tk_I := [(0, [], []), (0, [], []), (150, [], [])]
theorem tu_p212 : tk_ck tt_T tt_sc tt_nt (tu_K 212) tt_nw 8000 tu_t212 tu_k212 = true := by decide +kernel
def tu_t244 : List tk_I := [(0, [], []), (0, [], []), (202, [], [])]
theorem tu_p244 : tk_ck tt_T tt_sc tt_nt (tu_K 244) tt_nw 8000 tu_t244 tu_k244 = true := by decide +kernel
def tu_t245 : List tk_I := [(0, [], []), (0, [], []), (205, [], [])]
theorem tu_p245 : tk_ck tt_T tt_sc tt_nt (tu_K 245) tt_nw 8000 tu_t245 tu_k245 = true := by decide +kernel
def tu_t224 : List tk_I := [(88, [], []), (88, [], []), (163, [], []), (87, [], [])]
theorem tu_p224 : tk_ck tt_T tt_sc tt_nt (tu_K 224) tt_nw 8000 tu_t224 tu_k224 = true := by decide +kernel
def tu_t166 : List tk_I := [(74, [], []), (74, [], [])]
theorem tu_p166 : tk_ck tt_T tt_sc tt_nt (tu_K 166) tt_nw 8000 tu_t166 tu_k166 = true := by decide +kernel
def tu_t84 : List tk_I := []
theorem tu_p84 : tk_ck tt_T tt_sc tt_nt (tu_K 84) tt_nw 8000 tu_t84 tu_k84 = true := by decide +kernel
def tu_t151 : List tk_I := [(0, [], []), (23, [], [])]
theorem tu_p151 : tk_ck tt_T tt_sc tt_nt (tu_K 151) tt_nw 8000 tu_t151 tu_k151 = true := by decide +kernel
def tu_t17 : List tk_I := [(1, [([(0, 120, 0, 0, 0, 0)], [(26, 1, 0), (1, 2, 0), (1, 3, 0), (1, 4, 0)], [], [], (4, 0), true)], []), (0, [], [])]
theorem tu_p17 : tk_ck tt_T tt_sc tt_nt (tu_K 17) tt_nw 8000 tu_t17 tu_k17 = true := by decide +kernel
def tu_t231 : List tk_I := [(194, [], []), (175, [], []), (179, [], []), (129, [], []), (14, [], [])]
theorem tu_p231 : tk_ck tt_T tt_sc tt_nt (tu_K 231) tt_nw 8000 tu_t231 tu_k231 = true := by decide +kernel
