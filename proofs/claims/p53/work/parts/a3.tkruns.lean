def tu_t124 : List tk_I := [(1, [([(0, 6, 0, 0, 0, 0)], [(53, 1, 0), (1, 2, 0), (1, 3, 0), (1, 4, 0)], [], [], (4, 0), true)], []), (0, [], [])]
theorem tu_p124 : tk_ck tt_T tt_sc tt_nt (tu_K 124) tt_nw 8000 tu_t124 tu_k124 = true := by decide +kernel
def tu_t222 : List tk_I := [(0, [], []), (0, [], []), (156, [], [])]
theorem tu_p222 : tk_ck tt_T tt_sc tt_nt (tu_K 222) tt_nw 8000 tu_t222 tu_k222 = true := by decide +kernel
def tu_t168 : List tk_I := [(0, [], []), (0, [], []), (89, [], [])]
theorem tu_p168 : tk_ck tt_T tt_sc tt_nt (tu_K 168) tt_nw 8000 tu_t168 tu_k168 = true := by decide +kernel
def tu_t83 : List tk_I := [(1, [([((-1), 40, 0, 0, 0, 0), ((-1), 40, 0, 0, 0, 0), (1, 41, 0, 0, 0, 0)], [(38, 1, 0), (1, 2, 0), (1, 3, 0), (1, 4, 0), (1, 5, 0)], [], [], (5, 0), true)], [])]
theorem tu_p83 : tk_ck tt_T tt_sc tt_nt (tu_K 83) tt_nw 8000 tu_t83 tu_k83 = true := by decide +kernel
def tu_t232 : List tk_I := [(0, [], []), (0, [], []), (1, [([((-1), 11, 0, 0, 0, 0), (0, 2147483647, 0, 0, 0, 0), (0, 12, 0, 0, 0, 0)], [(53, 1, 0), (1, 2, 0), (1, 3, 0), (1, 4, 0), (1, 5, 0), (0, 0, 0)], [], [((53, 1, 0), (1, 0, 0), (1, 0, 0))], (5, 0), true)], []), (198, [], [])]
theorem tu_p232 : tk_ck tt_T tt_sc tt_nt (tu_K 232) tt_nw 8000 tu_t232 tu_k232 = true := by decide +kernel
def tu_t289 : List tk_I := [(0, [], []), (0, [], []), (276, [], []), (137, [], [])]
theorem tu_p289 : tk_ck tt_T tt_sc tt_nt (tu_K 289) tt_nw 8000 tu_t289 tu_k289 = true := by decide +kernel
def tu_t246 : List tk_I := [(0, [], []), (1, [([((-1), 2147483647, 0, 0, 0, 0), (0, 7, 0, 0, 0, 0)], [(10, 1, 0), (1, 2, 0), (1, 3, 0), (1, 7, 0), (1, 8, 0)], [], [((17, 4, 0), (1, 0, 1), (1, 5, 0)), ((10, 1, 0), (1, 0, 2), (17, 4, 0))], (8, 0), true)], []), (214, [], [])]
theorem tu_p246 : tk_ck tt_T tt_sc tt_nt (tu_K 246) tt_nw 8000 tu_t246 tu_k246 = true := by decide +kernel
def tu_t191 : List tk_I := [(0, [], []), (0, [], []), (141, [], [])]
theorem tu_p191 : tk_ck tt_T tt_sc tt_nt (tu_K 191) tt_nw 8000 tu_t191 tu_k191 = true := by decide +kernel
def tu_t226 : List tk_I := [(1, [([((-2147483648), 2147483647, 0, 0, 0, 0), (0, 119, 0, 0, 0, 0), (1, 120, 0, 0, 0, 0)], [(53, 1, 0), (1, 2, 0), (1, 3, 0), (1, 4, 0), (1, 5, 0), (1, 6, 0), (1, 7, 0)], [], [], (7, 0), true)], []), (0, [], []), (190, [], [])]
theorem tu_p226 : tk_ck tt_T tt_sc tt_nt (tu_K 226) tt_nw 8000 tu_t226 tu_k226 = true := by decide +kernel
def tu_t228 : List tk_I := [(0, [], []), (0, [], []), (192, [], [])]
theorem tu_p228 : tk_ck tt_T tt_sc tt_nt (tu_K 228) tt_nw 8000 tu_t228 tu_k228 = true := by decide +kernel
def tu_t176 : List tk_I := [(108, [], [])]
theorem tu_p176 : tk_ck tt_T tt_sc tt_nt (tu_K 176) tt_nw 8000 tu_t176 tu_k176 = true := by decide +kernel
def tu_t195 : List tk_I := [(0, [], []), (0, [], []), (1, [([((-2147483648), 2147483647, 0, 0, 0, 0), (0, 730, 0, 0, 0, 0)], [(53, 1, 0), (1, 2, 0), (1, 6, 0), (1, 7, 0)], [], [((60, 3, 0), (1, 0, 0), (1, 4, 0)), ((53, 1, 0), (1, 0, 17), (60, 3, 0)), ((53, 1, 0), (1, 0, 0), (1, 0, 0))], (7, 0), true)], []), (126, [], [])]
theorem tu_p195 : tk_ck tt_T tt_sc tt_nt (tu_K 195) tt_nw 8000 tu_t195 tu_k195 = true := by decide +kernel
def tu_t262 : List tk_I := [(0, [], []), (0, [], []), (226, [], []), (1, [([((-1), 11, 0, 0, 0, 0), (0, 2147483647, 0, 0, 0, 0), (0, 12, 0, 0, 0, 0)], [(53, 1, 0), (1, 2, 0), (1, 3, 0), (1, 4, 0), (1, 5, 0), (0, 0, 0)], [], [((53, 1, 0), (1, 0, 0), (1, 0, 0))], (5, 0), true)], []), (195, [], []), (143, [], [])]
theorem tu_p262 : tk_ck tt_T tt_sc tt_nt (tu_K 262) tt_nw 8000 tu_t262 tu_k262 = true := by decide +kernel
def tu_t76 : List tk_I := [(1, [([((-1), 119, 0, 0, 0, 0)], [(26, 1, 0), (1, 2, 0), (1, 3, 0), (1, 5, 0)], [], [((26, 1, 0), (1, 0, 4), (1, 4, 0))], (5, 0), false)], []), (0, [], [])]
theorem tu_p76 : tk_ck tt_T tt_sc tt_nt (tu_K 76) tt_nw 8000 tu_t76 tu_k76 = true := by decide +kernel
def tu_t75 : List tk_I := [(1, [([(0, 120, 0, 0, 0, 0)], [(26, 1, 0), (1, 2, 0), (1, 3, 0), (1, 4, 0)], [], [], (4, 0), true)], []), (0, [], [])]
theorem tu_p75 : tk_ck tt_T tt_sc tt_nt (tu_K 75) tt_nw 8000 tu_t75 tu_k75 = true := by decide +kernel
def tu_t212 : List tk_I := [(1, [([((-1), 2147483647, 0, 0, 0, 0), (0, 6, 0, 0, 0, 0)], [(10, 1, 0), (1, 2, 0), (1, 3, 0), (1, 4, 0), (1, 5, 0), (0, 0, 0)], [], [], (5, 0), true)], []), (164, [], []), (164, [], [])]
theorem tu_p212 : tk_ck tt_T tt_sc tt_nt (tu_K 212) tt_nw 8000 tu_t212 tu_k212 = true := by decide +kernel
def tu_t292 : List tk_I := [(0, [], []), (0, [], []), (1, [([((-2147483648), 2147483647, 0, 0, 0, 0), (0, 730, 0, 0, 0, 0)], [(53, 1, 0), (1, 2, 0), (1, 3, 0), (1, 7, 0), (1, 8, 0)], [], [((60, 4, 0), (1, 0, 0), (1, 5, 0)), ((53, 1, 0), (1, 0, 17), (60, 4, 0)), ((53, 1, 0), (1, 0, 0), (1, 0, 0))], (8, 0), true)], []), (282, [], [])]
theorem tu_p292 : tk_ck tt_T tt_sc tt_nt (tu_K 292) tt_nw 8000 tu_t292 tu_k292 = true := by decide +kernel
def tu_t136 : List tk_I := []
theorem tu_p136 : tk_ck tt_T tt_sc tt_nt (tu_K 136) tt_nw 8000 tu_t136 tu_k136 = true := by decide +kernel
def tu_t156 : List tk_I := [(1, [([(0, 6, 0, 0, 0, 0)], [(31, 1, 0), (17, 2, 0), (1, 3, 0)], [], [], (3, 0), true)], []), (1, [([(0, 6, 0, 0, 0, 0)], [(31, 1, 0), (17, 2, 0), (1, 6, 0)], [], [((17, 2, 0), (1, 0, 3), (1, 4, 0))], (6, 0), true)], []), (1, [([(0, 6, 0, 0, 0, 0)], [(31, 1, 0), (17, 2, 0), (1, 9, 0)], [], [((17, 2, 0), (1, 0, 5), (1, 7, 0)), ((17, 2, 0), (1, 0, 3), (1, 4, 0))], (9, 0), true)], []), (81, [], []), (81, [], []), (81, [], []), (81, [], []), (81, [], [])]
theorem tu_p156 : tk_ck tt_T tt_sc tt_nt (tu_K 156) tt_nw 8000 tu_t156 tu_k156 = true := by decide +kernel
def tu_t224 : List tk_I := [(1, [([(0, 12, 0, 0, 0, 0)], [(53, 1, 0), (1, 2, 0), (1, 3, 0), (1, 4, 0)], [], [], (4, 0), true)], []), (1, [([((-1), 11, 0, 0, 0, 0)], [(53, 1, 0), (1, 2, 0), (1, 3, 0), (1, 8, 0)], [], [((53, 1, 0), (1, 0, 17), (60, 5, 0))], (8, 0), false)], []), (127, [], []), (187, [], [])]
theorem tu_p224 : tk_ck tt_T tt_sc tt_nt (tu_K 224) tt_nw 8000 tu_t224 tu_k224 = true := by decide +kernel
def tu_t213 : List tk_I := [(0, [], []), (0, [], []), (1, [([(0, 2147483647, 0, 0, 0, 0), (0, 12, 0, 0, 0, 0)], [(10, 1, 0), (1, 2, 0), (1, 3, 0), (1, 4, 0), (1, 5, 0)], [], [], (5, 0), true)], []), (163, [], [])]
theorem tu_p213 : tk_ck tt_T tt_sc tt_nt (tu_K 213) tt_nw 8000 tu_t213 tu_k213 = true := by decide +kernel
def tu_t269 : List tk_I := [(0, [], []), (171, [], []), (239, [], []), (0, [], []), (89, [], []), (89, [], [])]
theorem tu_p269 : tk_ck tt_T tt_sc tt_nt (tu_K 269) tt_nw 8000 tu_t269 tu_k269 = true := by decide +kernel
def tu_t279 : List tk_I := [(0, [], []), (0, [], []), (0, [], []), (0, [], []), (262, [], [])]
theorem tu_p279 : tk_ck tt_T tt_sc tt_nt (tu_K 279) tt_nw 8000 tu_t279 tu_k279 = true := by decide +kernel
def tu_t268 : List tk_I := [(0, [], []), (241, [], []), (207, [], []), (148, [], []), (33, [], []), (207, [], []), (148, [], []), (33, [], [])]
theorem tu_p268 : tk_ck tt_T tt_sc tt_nt (tu_K 268) tt_nw 8000 tu_t268 tu_k268 = true := by decide +kernel
def tu_t231 : List tk_I := [(0, [], []), (0, [], []), (0, [], []), (0, [], []), (198, [], [])]
theorem tu_p231 : tk_ck tt_T tt_sc tt_nt (tu_K 231) tt_nw 8000 tu_t231 tu_k231 = true := by decide +kernel
def tu_t291 : List tk_I := [(0, [], []), (0, [], []), (0, [], []), (0, [], []), (282, [], [])]
theorem tu_p291 : tk_ck tt_T tt_sc tt_nt (tu_K 291) tt_nw 8000 tu_t291 tu_k291 = true := by decide +kernel
def tu_t293 : List tk_I := [(0, [], []), (0, [], []), (0, [], []), (0, [], []), (288, [], [])]
theorem tu_p293 : tk_ck tt_T tt_sc tt_nt (tu_K 293) tt_nw 8000 tu_t293 tu_k293 = true := by decide +kernel
def tu_t197 : List tk_I := [(0, [], []), (119, [], []), (132, [], []), (120, [], []), (132, [], []), (121, [], []), (132, [], [])]
theorem tu_p197 : tk_ck tt_T tt_sc tt_nt (tu_K 197) tt_nw 8000 tu_t197 tu_k197 = true := by decide +kernel
def tu_t298 : List tk_I := [(0, [], []), (0, [], []), (0, [], []), (0, [], []), (292, [], [])]
theorem tu_p298 : tk_ck tt_T tt_sc tt_nt (tu_K 298) tt_nw 8000 tu_t298 tu_k298 = true := by decide +kernel
def tu_t131 : List tk_I := [(1, [([(0, 119, 0, 0, 0, 0)], [(53, 1, 0), (1, 2, 0), (1, 3, 0), (1, 4, 0), (1, 5, 0), (1, 8, 0)], [], [((92, 6, 0), (1, 0, 0), (1, 7, 0)), ((53, 1, 0), (1, 0, 52), (92, 6, 0))], (8, 0), true)], [])]
theorem tu_p131 : tk_ck tt_T tt_sc tt_nt (tu_K 131) tt_nw 8000 tu_t131 tu_k131 = true := by decide +kernel
def tu_t127 : List tk_I := []
theorem tu_p127 : tk_ck tt_T tt_sc tt_nt (tu_K 127) tt_nw 8000 tu_t127 tu_k127 = true := by decide +kernel
def tu_t258 : List tk_I := [(0, [], []), (0, [], []), (0, [], []), (0, [], []), (226, [], []), (194, [], [])]
theorem tu_p258 : tk_ck tt_T tt_sc tt_nt (tu_K 258) tt_nw 8000 tu_t258 tu_k258 = true := by decide +kernel
def tu_t261 : List tk_I := [(0, [], []), (0, [], []), (0, [], []), (0, [], []), (226, [], []), (195, [], [])]
theorem tu_p261 : tk_ck tt_T tt_sc tt_nt (tu_K 261) tt_nw 8000 tu_t261 tu_k261 = true := by decide +kernel
def tu_t139 : List tk_I := []
theorem tu_p139 : tk_ck tt_T tt_sc tt_nt (tu_K 139) tt_nw 8000 tu_t139 tu_k139 = true := by decide +kernel
def tu_t257 : List tk_I := [(0, [], []), (0, [], []), (0, [], []), (231, [], [])]
theorem tu_p257 : tk_ck tt_T tt_sc tt_nt (tu_K 257) tt_nw 8000 tu_t257 tu_k257 = true := by decide +kernel
def tu_t215 : List tk_I := [(0, [], []), (0, [], []), (175, [], [])]
theorem tu_p215 : tk_ck tt_T tt_sc tt_nt (tu_K 215) tt_nw 8000 tu_t215 tu_k215 = true := by decide +kernel
def tu_t275 : List tk_I := [(0, [], []), (0, [], []), (258, [], []), (1, [([], [(53, 1, 0), (1, 0, (-1)), (1, 0, 0)], [], [((53, 1, 0), (1, 0, 66), (1, 0, (-1))), ((53, 1, 0), (1, 0, 65), (1, 0, (-1))), ((53, 1, 0), (1, 0, 64), (1, 0, (-1))), ((53, 1, 0), (1, 0, 63), (1, 0, (-1))), ((53, 1, 0), (1, 0, 62), (1, 0, (-1))), ((53, 1, 0), (1, 0, 61), (1, 0, 0)), ((53, 1, 0), (1, 0, 0), (1, 0, 0)), ((53, 1, 0), (1, 0, 17), (60, 3, 0)), ((60, 3, 0), (1, 0, 0), (1, 0, 0))], (0, 0), true)], [])]
theorem tu_p275 : tk_ck tt_T tt_sc tt_nt (tu_K 275) tt_nw 8000 tu_t275 tu_k275 = true := by decide +kernel
def tu_t198 : List tk_I := [(0, [], []), (122, [], []), (132, [], []), (123, [], []), (132, [], []), (124, [], []), (132, [], [])]
theorem tu_p198 : tk_ck tt_T tt_sc tt_nt (tu_K 198) tt_nw 8000 tu_t198 tu_k198 = true := by decide +kernel
def tu_t133 : List tk_I := [(0, [], [])]
theorem tu_p133 : tk_ck tt_T tt_sc tt_nt (tu_K 133) tt_nw 8000 tu_t133 tu_k133 = true := by decide +kernel
def tu_t247 : List tk_I := [(0, [], []), (0, [], []), (1, [([(0, 9999, 0, 0, 0, 0), (0, 9999, 0, 0, 0, 0), (0, 20, 0, 0, 0, 0)], [(10, 1, 0), (1, 2, 0), (1, 3, 0), (1, 4, 0), (1, 5, 0), (1, 6, 0), (0, 0, 0)], [], [], (6, 0), true)], []), (216, [], [])]
theorem tu_p247 : tk_ck tt_T tt_sc tt_nt (tu_K 247) tt_nw 8000 tu_t247 tu_k247 = true := by decide +kernel
def tu_t143 : List tk_I := [(1, [([((-2147483648), 2147483647, 0, 0, 0, 0), (0, 4, 0, 0, 0, 0)], [(53, 1, 0), (1, 2, 0), (1, 3, 0), (1, 4, 0)], [], [((53, 1, 0), (1, 0, 0), (1, 0, 0))], (4, 0), true)], [])]
theorem tu_p143 : tk_ck tt_T tt_sc tt_nt (tu_K 143) tt_nw 8000 tu_t143 tu_k143 = true := by decide +kernel
def tu_t252 : List tk_I := [(0, [], []), (0, [], []), (0, [], []), (0, [], []), (226, [], []), (128, [], [])]
theorem tu_p252 : tk_ck tt_T tt_sc tt_nt (tu_K 252) tt_nw 8000 tu_t252 tu_k252 = true := by decide +kernel
def tu_t233 : List tk_I := [(0, [], []), (0, [], []), (0, [], []), (1, [([(0, 2147483647, 0, 0, 0, 0), (0, 12, 0, 0, 0, 0)], [(53, 1, 0), (1, 2, 0), (1, 3, 0), (1, 4, 0), (1, 5, 0)], [], [((53, 1, 0), (1, 0, 0), (1, 0, 0))], (5, 0), true)], []), (187, [], [])]
theorem tu_p233 : tk_ck tt_T tt_sc tt_nt (tu_K 233) tt_nw 8000 tu_t233 tu_k233 = true := by decide +kernel
def tu_t206 : List tk_I := [(1, [([(0, 7, 0, 0, 0, 0), (0, 7, 0, 0, 0, 0), ((-7), 0, 2, 4, 5, 0)], [(10, 1, 0), (1, 2, 0), (1, 3, 0), (1, 4, 0), (1, 5, 0), (0, 0, 0)], [], [], (5, 0), true)], []), (0, [], []), (161, [], []), (169, [], []), (0, [], []), (86, [], []), (0, [], []), (149, [], []), (106, [], [])]
theorem tu_p206 : tk_ck tt_T tt_sc tt_nt (tu_K 206) tt_nw 8000 tu_t206 tu_k206 = true := by decide +kernel
def tu_t80 : List tk_I := [(1, [([(0, 730, 0, 0, 0, 0), (0, 36, 0, 0, 0, 0)], [(31, 1, 0), (1, 2, 0)], [], [((31, 1, 0), (1, 0, 1), (1, 3, 0))], (2, 0), true)], []), (1, [([(0, 35, 0, 0, 0, 0)], [(31, 1, 0), (1, 2, 0)], [(1, 6, 0), (1, 2, 0), (33, 4, 0)], [((31, 1, 0), (1, 0, 2), (33, 4, 0)), ((31, 1, 0), (1, 0, 1), (1, 3, 0))], (0, 0), true)], []), (1, [([], [(31, 1, 0), (1, 2, 0)], [(1, 3, (-1)), (1, 2, 0), (33, 4, 0)], [((31, 1, 0), (1, 0, 2), (33, 4, 0)), ((31, 1, 0), (1, 0, 1), (1, 3, 0))], (0, 0), true)], []), (1, [([], [(31, 1, 0), (1, 2, 0)], [(1, 3, 0), (1, 2, 0), (33, 4, 0)], [((31, 1, 0), (1, 0, 1), (1, 3, 1)), ((31, 1, 0), (1, 0, 0), (32, 6, 0)), ((31, 1, 0), (1, 0, 2), (33, 4, 0))], (0, 0), true)], [])]
theorem tu_p80 : tk_ck tt_T tt_sc tt_nt (tu_K 80) tt_nw 8000 tu_t80 tu_k80 = true := by decide +kernel
